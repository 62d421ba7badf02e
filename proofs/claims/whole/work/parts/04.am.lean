/-! The abstract machine: values are whole numbers and places of cells; a step is written once, for any algebra of results. -/
abbrev am_V : Type := Int ⊕ (Int ⊕ (Option Nat ⊕ Nat))
abbrev vI (x : Int) : am_V := Sum.inl x
abbrev vL (x : Int) : am_V := Sum.inr (Sum.inl x)
abbrev vR (r : Option Nat) : am_V := Sum.inr (Sum.inr (Sum.inl r))
abbrev vS (k : Nat) : am_V := Sum.inr (Sum.inr (Sum.inr k))
/-- a heap: (may cells be made, the kinds and lengths of the cells), the ints, the longs, the references -/
abbrev am_H : Type := (Bool × List (Nat × Nat)) × (Nat → Int → Int) × (Nat → Int → Int) × (Nat → Int → Option Nat)
def am_kd (h : am_H) (a : Nat) : Nat := (h.1.2.getD a (99, 0)).1
def am_ln (h : am_H) (a : Nat) : Int := (h.1.2.getD a (99, 0)).2
abbrev am_I (h : am_H) : Nat → Int → Int := h.2.1
abbrev am_L (h : am_H) : Nat → Int → Int := h.2.2.1
abbrev am_R (h : am_H) : Nat → Int → Option Nat := h.2.2.2
def am_up {α : Type} (f : Nat → Int → α) (a : Nat) (i : Int) (v : α) : Nat → Int → α := fun b j => if b = a ∧ j = i then v else f b j
def am_sI (h : am_H) (a : Nat) (i v : Int) : am_H := (h.1, am_up h.2.1 a i v, h.2.2.1, h.2.2.2)
def am_sL (h : am_H) (a : Nat) (i v : Int) : am_H := (h.1, h.2.1, am_up h.2.2.1 a i v, h.2.2.2)
def am_sR (h : am_H) (a : Nat) (i : Int) (v : Option Nat) : am_H := (h.1, h.2.1, h.2.2.1, am_up h.2.2.2 a i v)
/-- System.arraycopy of ints -/
def am_cp (h : am_H) (a : Nat) (sp : Int) (b : Nat) (dp n : Int) : am_H := (h.1, (fun c j => if c = b ∧ dp ≤ j ∧ j < dp + n then h.2.1 a (sp + (j - dp)) else h.2.1 c j), h.2.2.1, h.2.2.2)
/-- a new cell -/
def am_nw (h : am_H) (k n : Nat) : am_H := ((h.1.1, h.1.2 ++ [(k, n)]), (fun b j => if b = h.1.2.length then 0 else h.2.1 b j), (fun b j => if b = h.1.2.length then 0 else h.2.2.1 b j), (fun b j => if b = h.1.2.length then none else h.2.2.2 b j))
/-- 32 and 64 bits -/
def am_w (x : Int) : Int := (x + 2147483648) % 4294967296 - 2147483648
def am_wl (x : Int) : Int := (x + 9223372036854775808) % 18446744073709551616 - 9223372036854775808
def am_wb (x : Int) : Int := (x + 128) % 256 - 128
def am_and (x y : Int) : Int := (Int32.ofInt x &&& Int32.ofInt y).toInt
def am_or (x y : Int) : Int := (Int32.ofInt x ||| Int32.ofInt y).toInt
def am_shl (x y : Int) : Int := (Int32.ofInt x <<< (Int32.ofInt y &&& 31)).toInt
def am_shr (x y : Int) : Int := (Int32.ofInt x >>> (Int32.ofInt y &&& 31)).toInt
def am_andl (x y : Int) : Int := (Int64.ofInt x &&& Int64.ofInt y).toInt
def am_cmp (x y : Int) : Int := if y < x then 1 else if x = y then 0 else -1
def am_abs (x : Int) : Int := am_w (if x < 0 then -x else x)
def am_absl (x : Int) : Int := am_wl (if x < 0 then -x else x)
def am_max (x y : Int) : Int := if x < y then y else x
def am_min (x y : Int) : Int := if y < x then y else x
/-- the strings of the program: 0 the words of the language -/
def am_str : List Nat := "kind has deed do purse wage seed law apart heal luck or and not own other gap shows heals level day ".toList.map Char.toNat
/-- locals -/
def am_lg : List (Option am_V) → Nat → Option am_V
  | [], _ => none
  | x :: _, 0 => x
  | _ :: t, n + 1 => am_lg t n
def am_ls : List (Option am_V) → Nat → Option am_V → List (Option am_V)
  | [], _, _ => []
  | _ :: t, 0, v => v :: t
  | x :: t, n + 1, v => x :: am_ls t n v
def am_kl : Option am_V → Option am_V
  | some (.inr (.inl _)) => none
  | x => x
/-- a long's first half before place i is lost when i is written -/
def am_kp : List (Option am_V) → Nat → List (Option am_V)
  | x :: t, 1 => am_kl x :: t
  | x :: t, n + 1 => x :: am_kp t n
  | t, _ => t
def am_s1 (L : List (Option am_V)) (i : Nat) (v : am_V) : List (Option am_V) := am_ls (am_kp L i) i (some v)
def am_s2 (L : List (Option am_V)) (i : Nat) (v : am_V) : List (Option am_V) := am_ls (am_ls (am_kp L i) i (some v)) (i + 1) none
def am_c1 : am_V → Bool
  | .inr (.inl _) => false
  | _ => true
def am_cw : List am_V → Nat
  | [] => 0
  | v :: t => (bif am_c1 v then 1 else 2) + am_cw t
def am_sl : List am_V → List (Option am_V)
  | [] => []
  | v :: t => some v :: (bif am_c1 v then am_sl t else none :: am_sl t)
def am_pad : List (Option am_V) → Nat → List (Option am_V)
  | [], n => List.replicate n none
  | x :: t, n + 1 => x :: am_pad t n
  | _ :: _, 0 => []
def am_en (j : Nat) (args : List am_V) : List (Option am_V) := am_pad (am_sl args) (am_mx j)
section
variable {ρ : Type}
def am_pI (bot : ρ) (S : List am_V) (k : Int → List am_V → ρ) : ρ := match S with
  | .inl x :: S => k x S
  | _ => bot
def am_pL (bot : ρ) (S : List am_V) (k : Int → List am_V → ρ) : ρ := match S with
  | .inr (.inl x) :: S => k x S
  | _ => bot
def am_pR (bot : ρ) (S : List am_V) (k : Option Nat → List am_V → ρ) : ρ := match S with
  | .inr (.inr (.inl x)) :: S => k x S
  | _ => bot
def am_pS (bot : ρ) (S : List am_V) (k : Nat → List am_V → ρ) : ρ := match S with
  | .inr (.inr (.inr x)) :: S => k x S
  | _ => bot
def am_gI (bot : ρ) (r : Option am_V) (k : Int → ρ) : ρ := match r with
  | some (.inl x) => k x
  | _ => bot
def am_gL (bot : ρ) (r : Option am_V) (k : Int → ρ) : ρ := match r with
  | some (.inr (.inl x)) => k x
  | _ => bot
def am_gR (bot : ρ) (r : Option am_V) (k : Option Nat → ρ) : ρ := match r with
  | some (.inr (.inr (.inl x))) => k x
  | _ => bot
def am_gV (bot : ρ) (r : Option am_V) (k : ρ) : ρ := match r with
  | none => k
  | _ => bot
def am_op (bot : ρ) (r : Option Nat) (k : Nat → ρ) : ρ := match r with
  | some a => k a
  | none => bot
def am_rk (bot : ρ) (rk : Nat) (r : Option am_V) (k : List am_V → ρ) : ρ := match rk with
  | 0 => am_gV bot r (k [])
  | 1 => am_gI bot r (fun x => k [.inl x])
  | 2 => am_gL bot r (fun x => k [.inr (.inl x)])
  | _ => am_gR bot r (fun x => k [.inr (.inr (.inl x))])
def am_sw (br : (c : Prop) → Decidable c → ρ → ρ → ρ) (x : Int) (d : ρ) (f : Nat → ρ) : List Int → List Nat → ρ
  | k :: ks, t :: ts => br (x = k) inferInstance (f t) (am_sw br x d f ks ts)
  | _, _ => d
def am_bv (gd : (c : Prop) → Decidable c → ρ → ρ) (ty : Nat) (v : Int) (x : ρ) : ρ := match ty with
  | 1 => gd (v = 0 ∨ v = 1) inferInstance x
  | _ => x
/-- the value of a field, pushed -/
def am_gf (h : am_H) (a k : Nat) (ty : Nat) : am_V := match ty with
  | 0 => .inl (h.2.1 a k)
  | 1 => .inl (h.2.1 a k)
  | 2 => .inr (.inl (h.2.2.1 a k))
  | _ => .inr (.inr (.inl (h.2.2.2 a k)))
def am_st (bot : ρ) (gd : (c : Prop) → Decidable c → ρ → ρ) (br : (c : Prop) → Decidable c → ρ → ρ → ρ) (e : Instr) (len : Nat) (dn : List Nat) (di : List Int) (pc : Nat) (L : List (Option am_V)) (S : List am_V) (h : am_H)
    (nx : Nat → List (Option am_V) → List am_V → am_H → ρ) (rt : Option am_V → am_H → ρ) (cl : Nat → List am_V → (Option am_V → am_H → ρ) → ρ) : ρ := match e with
  | .iconst n => nx (pc + len) L (.inl n :: S) h
  | .bipush n => nx (pc + len) L (.inl n :: S) h
  | .sipush n => nx (pc + len) L (.inl n :: S) h
  | .ldc _ => match dn with
    | 0 :: _ => nx (pc + len) L (.inl (di.getD 0 0) :: S) h
    | _ :: k :: _ => gd (h.1.1 = true) inferInstance (nx (pc + len) L (.inr (.inr (.inr k)) :: S) h)
    | _ => bot
  | .ldc_w _ => match dn with
    | 0 :: _ => nx (pc + len) L (.inl (di.getD 0 0) :: S) h
    | _ => bot
  | .ldc2_w _ => nx (pc + len) L (.inr (.inl (di.getD 0 0)) :: S) h
  | .lconst n => nx (pc + len) L (.inr (.inl (n.val : Int)) :: S) h
  | .iload i => am_gI bot (am_lg L i) fun x => nx (pc + len) L (.inl x :: S) h
  | .iload_n i => am_gI bot (am_lg L i.val) fun x => nx (pc + len) L (.inl x :: S) h
  | .lload i => am_gL bot (am_lg L i) fun x => nx (pc + len) L (.inr (.inl x) :: S) h
  | .lload_n i => am_gL bot (am_lg L i.val) fun x => nx (pc + len) L (.inr (.inl x) :: S) h
  | .aload i => am_gR bot (am_lg L i) fun x => nx (pc + len) L (.inr (.inr (.inl x)) :: S) h
  | .aload_n i => am_gR bot (am_lg L i.val) fun x => nx (pc + len) L (.inr (.inr (.inl x)) :: S) h
  | .istore i => am_pI bot S fun x S => nx (pc + len) (am_s1 L i (.inl x)) S h
  | .istore_n i => am_pI bot S fun x S => nx (pc + len) (am_s1 L i.val (.inl x)) S h
  | .lstore i => am_pL bot S fun x S => nx (pc + len) (am_s2 L i (.inr (.inl x))) S h
  | .lstore_n i => am_pL bot S fun x S => nx (pc + len) (am_s2 L i.val (.inr (.inl x))) S h
  | .astore i => am_pR bot S fun x S => nx (pc + len) (am_s1 L i (.inr (.inr (.inl x)))) S h
  | .astore_n i => am_pR bot S fun x S => nx (pc + len) (am_s1 L i.val (.inr (.inr (.inl x)))) S h
  | .iinc i n => am_gI bot (am_lg L i) fun x => nx (pc + len) (am_s1 L i (.inl (am_w (x + n)))) S h
  | .iadd => am_pI bot S fun y S => am_pI bot S fun x S => nx (pc + len) L (.inl (am_w (x + y)) :: S) h
  | .isub => am_pI bot S fun y S => am_pI bot S fun x S => nx (pc + len) L (.inl (am_w (x - y)) :: S) h
  | .imul => am_pI bot S fun y S => am_pI bot S fun x S => nx (pc + len) L (.inl (am_w (x * y)) :: S) h
  | .idiv => am_pI bot S fun y S => am_pI bot S fun x S => gd (y ≠ 0) inferInstance (nx (pc + len) L (.inl (am_w (x.tdiv y)) :: S) h)
  | .irem => am_pI bot S fun y S => am_pI bot S fun x S => gd (y ≠ 0) inferInstance (nx (pc + len) L (.inl (x.tmod y) :: S) h)
  | .iand => am_pI bot S fun y S => am_pI bot S fun x S => nx (pc + len) L (.inl (am_and x y) :: S) h
  | .ior => am_pI bot S fun y S => am_pI bot S fun x S => nx (pc + len) L (.inl (am_or x y) :: S) h
  | .ishl => am_pI bot S fun y S => am_pI bot S fun x S => nx (pc + len) L (.inl (am_shl x y) :: S) h
  | .ishr => am_pI bot S fun y S => am_pI bot S fun x S => nx (pc + len) L (.inl (am_shr x y) :: S) h
  | .ineg => am_pI bot S fun x S => nx (pc + len) L (.inl (am_w (-x)) :: S) h
  | .ladd => am_pL bot S fun y S => am_pL bot S fun x S => nx (pc + len) L (.inr (.inl (am_wl (x + y))) :: S) h
  | .lsub => am_pL bot S fun y S => am_pL bot S fun x S => nx (pc + len) L (.inr (.inl (am_wl (x - y))) :: S) h
  | .lmul => am_pL bot S fun y S => am_pL bot S fun x S => nx (pc + len) L (.inr (.inl (am_wl (x * y))) :: S) h
  | .ldiv => am_pL bot S fun y S => am_pL bot S fun x S => gd (y ≠ 0) inferInstance (nx (pc + len) L (.inr (.inl (am_wl (x.tdiv y))) :: S) h)
  | .lrem => am_pL bot S fun y S => am_pL bot S fun x S => gd (y ≠ 0) inferInstance (nx (pc + len) L (.inr (.inl (x.tmod y)) :: S) h)
  | .land => am_pL bot S fun y S => am_pL bot S fun x S => nx (pc + len) L (.inr (.inl (am_andl x y)) :: S) h
  | .lneg => am_pL bot S fun x S => nx (pc + len) L (.inr (.inl (am_wl (-x))) :: S) h
  | .lcmp => am_pL bot S fun y S => am_pL bot S fun x S => nx (pc + len) L (.inl (am_cmp x y) :: S) h
  | .i2l => am_pI bot S fun x S => nx (pc + len) L (.inr (.inl x) :: S) h
  | .l2i => am_pL bot S fun x S => nx (pc + len) L (.inl (am_w x) :: S) h
  | .i2b => am_pI bot S fun x S => nx (pc + len) L (.inl (am_wb x) :: S) h
  | .dup => match S with
    | v :: S => bif am_c1 v then nx (pc + len) L (v :: v :: S) h else bot
    | _ => bot
  | .dup2 => match S with
    | v :: w :: S => bif am_c1 v && am_c1 w then nx (pc + len) L (v :: w :: v :: w :: S) h else bot
    | _ => bot
  | .pop => match S with
    | v :: S => bif am_c1 v then nx (pc + len) L S h else bot
    | _ => bot
  | .getfield _ => match dn with
    | ci :: k :: ty :: _ => am_pR bot S fun r S => am_op bot r fun a => gd (am_kd h a = ci) inferInstance (nx (pc + len) L (am_gf h a k ty :: S) h)
    | _ => bot
  | .putfield _ => match dn with
    | ci :: k :: 2 :: _ => am_pL bot S fun v S => am_pR bot S fun r S => am_op bot r fun a => gd (am_kd h a = ci) inferInstance (nx (pc + len) L S (am_sL h a k v))
    | ci :: k :: 3 :: _ => am_pR bot S fun v S => am_pR bot S fun r S => am_op bot r fun a => gd (am_kd h a = ci) inferInstance (nx (pc + len) L S (am_sR h a k v))
    | ci :: k :: ty :: _ => am_pI bot S fun v S => am_pR bot S fun r S => am_op bot r fun a => gd (am_kd h a = ci) inferInstance (am_bv gd ty v (nx (pc + len) L S (am_sI h a k v)))
    | _ => bot
  | .iaload => am_pI bot S fun i S => am_pR bot S fun r S => am_op bot r fun a => gd (am_kd h a = 13 ∧ 0 ≤ i ∧ i < am_ln h a) inferInstance (nx (pc + len) L (.inl (h.2.1 a i) :: S) h)
  | .baload => am_pI bot S fun i S => am_pR bot S fun r S => am_op bot r fun a => gd (am_kd h a = dn.getD 0 0 ∧ 0 ≤ i ∧ i < am_ln h a) inferInstance (nx (pc + len) L (.inl (h.2.1 a i) :: S) h)
  | .laload => am_pI bot S fun i S => am_pR bot S fun r S => am_op bot r fun a => gd (am_kd h a = 14 ∧ 0 ≤ i ∧ i < am_ln h a) inferInstance (nx (pc + len) L (.inr (.inl (h.2.2.1 a i)) :: S) h)
  | .aaload => am_pI bot S fun i S => am_pR bot S fun r S => am_op bot r fun a => gd (am_kd h a = 16 ∧ 0 ≤ i ∧ i < am_ln h a) inferInstance (nx (pc + len) L (.inr (.inr (.inl (h.2.2.2 a i))) :: S) h)
  | .iastore => am_pI bot S fun v S => am_pI bot S fun i S => am_pR bot S fun r S => am_op bot r fun a => gd (am_kd h a = 13 ∧ 0 ≤ i ∧ i < am_ln h a) inferInstance (nx (pc + len) L S (am_sI h a i v))
  | .bastore => match dn with
    | 12 :: _ => am_pI bot S fun v S => am_pI bot S fun i S => am_pR bot S fun r S => am_op bot r fun a => gd (am_kd h a = 12 ∧ 0 ≤ i ∧ i < am_ln h a) inferInstance (nx (pc + len) L S (am_sI h a i (am_wb v)))
    | _ => am_pI bot S fun v S => am_pI bot S fun i S => am_pR bot S fun r S => am_op bot r fun a => gd (am_kd h a = 15 ∧ 0 ≤ i ∧ i < am_ln h a) inferInstance (gd (v = 0 ∨ v = 1) inferInstance (nx (pc + len) L S (am_sI h a i v)))
  | .lastore => am_pL bot S fun v S => am_pI bot S fun i S => am_pR bot S fun r S => am_op bot r fun a => gd (am_kd h a = 14 ∧ 0 ≤ i ∧ i < am_ln h a) inferInstance (nx (pc + len) L S (am_sL h a i v))
  | .aastore => am_pR bot S fun v S => am_pI bot S fun i S => am_pR bot S fun r S => am_op bot r fun a => am_op bot v fun w => gd (am_kd h a = 16 ∧ am_kd h w = 6 ∧ 0 ≤ i ∧ i < am_ln h a) inferInstance (nx (pc + len) L S (am_sR h a i (some w)))
  | .arraylength => am_pR bot S fun r S => am_op bot r fun a => gd (am_kd h a = dn.getD 0 0) inferInstance (nx (pc + len) L (.inl (am_ln h a) :: S) h)
  | .newarray _ => am_pI bot S fun n S => gd (h.1.1 = true ∧ 0 ≤ n ∧ n ≤ 4096) inferInstance (nx (pc + len) L (.inr (.inr (.inl (some h.1.2.length))) :: S) (am_nw h (dn.getD 0 0) n.toNat))
  | .anewarray _ => am_pI bot S fun n S => gd (h.1.1 = true ∧ 0 ≤ n ∧ n ≤ 4096) inferInstance (nx (pc + len) L (.inr (.inr (.inl (some h.1.2.length))) :: S) (am_nw h 16 n.toNat))
  | .new _ => gd (h.1.1 = true) inferInstance (nx (pc + len) L (.inr (.inr (.inl (some h.1.2.length))) :: S) (am_nw h (dn.getD 0 0) (dn.getD 1 0)))
  | .ifCond .eq _ => am_pI bot S fun x S => br (x = 0) inferInstance (nx (dn.getD 0 0) L S h) (nx (pc + len) L S h)
  | .ifCond .ne _ => am_pI bot S fun x S => br (x ≠ 0) inferInstance (nx (dn.getD 0 0) L S h) (nx (pc + len) L S h)
  | .ifCond .lt _ => am_pI bot S fun x S => br (x < 0) inferInstance (nx (dn.getD 0 0) L S h) (nx (pc + len) L S h)
  | .ifCond .ge _ => am_pI bot S fun x S => br (0 ≤ x) inferInstance (nx (dn.getD 0 0) L S h) (nx (pc + len) L S h)
  | .ifCond .gt _ => am_pI bot S fun x S => br (0 < x) inferInstance (nx (dn.getD 0 0) L S h) (nx (pc + len) L S h)
  | .ifCond .le _ => am_pI bot S fun x S => br (x ≤ 0) inferInstance (nx (dn.getD 0 0) L S h) (nx (pc + len) L S h)
  | .if_icmp .eq _ => am_pI bot S fun y S => am_pI bot S fun x S => br (x = y) inferInstance (nx (dn.getD 0 0) L S h) (nx (pc + len) L S h)
  | .if_icmp .ne _ => am_pI bot S fun y S => am_pI bot S fun x S => br (x ≠ y) inferInstance (nx (dn.getD 0 0) L S h) (nx (pc + len) L S h)
  | .if_icmp .lt _ => am_pI bot S fun y S => am_pI bot S fun x S => br (x < y) inferInstance (nx (dn.getD 0 0) L S h) (nx (pc + len) L S h)
  | .if_icmp .ge _ => am_pI bot S fun y S => am_pI bot S fun x S => br (y ≤ x) inferInstance (nx (dn.getD 0 0) L S h) (nx (pc + len) L S h)
  | .if_icmp .gt _ => am_pI bot S fun y S => am_pI bot S fun x S => br (y < x) inferInstance (nx (dn.getD 0 0) L S h) (nx (pc + len) L S h)
  | .if_icmp .le _ => am_pI bot S fun y S => am_pI bot S fun x S => br (x ≤ y) inferInstance (nx (dn.getD 0 0) L S h) (nx (pc + len) L S h)
  | .goto _ => nx (dn.getD 0 0) L S h
  | .tableswitch _ _ _ _ => am_pI bot S fun x S => am_sw br x (nx (dn.getD 0 0) L S h) (fun t => nx t L S h) di dn.tail
  | .lookupswitch _ _ => am_pI bot S fun x S => am_sw br x (nx (dn.getD 0 0) L S h) (fun t => nx t L S h) di dn.tail
  | .ireturn => match S with
    | [.inl x] => am_bv gd (dn.getD 0 0) x (rt (some (.inl x)) h)
    | _ => bot
  | .lreturn => match S with
    | [.inr (.inl x)] => rt (some (.inr (.inl x))) h
    | _ => bot
  | .return_ => match S with
    | [] => rt none h
    | _ => bot
  | .invokevirtual _ => match dn with
    | 0 :: j :: n :: rk :: ci :: _ => match (S.take n).reverse with
      | .inr (.inr (.inl r)) :: as => am_op bot r fun a => gd (am_kd h a = ci) inferInstance (bif Nat.ble (am_cw (S.drop n)) 8 && Nat.ble (am_cw (S.take n)) (am_mx j) && Nat.ble n S.length then cl j (.inr (.inr (.inl (some a))) :: as) (fun r h' => am_rk bot rk r fun vs => nx (pc + len) L (vs ++ S.drop n) h') else bot)
      | _ => bot
    | 9 :: _ => am_pS bot S fun k S => gd (h.1.1 = true) inferInstance (bif Nat.ble (am_cw S) 8 then nx (pc + len) L (.inl (am_str.length : Int) :: S) h else bot)
    | 10 :: _ => am_pI bot S fun i S => am_pS bot S fun k S => gd (h.1.1 = true ∧ 0 ≤ i ∧ i < am_str.length) inferInstance ((bif Nat.ble (am_cw S) 8 then nx (pc + len) L (.inl (am_str.getD i.toNat 0 : Nat) :: S) h else bot))
    | _ => bot
  | .invokespecial _ => match dn with
    | 0 :: j :: n :: rk :: _ => match (S.take n).reverse with
      | .inr (.inr (.inl r)) :: as => am_op bot r fun a => (bif Nat.ble (am_cw (S.drop n)) 8 && Nat.ble (am_cw (S.take n)) (am_mx j) && Nat.ble n S.length then cl j (.inr (.inr (.inl (some a))) :: as) (fun r h' => am_rk bot rk r fun vs => nx (pc + len) L (vs ++ S.drop n) h') else bot)
      | _ => bot
    | 8 :: _ => am_pR bot S fun r S => am_op bot r fun a => (bif Nat.ble (am_cw S) 8 then nx (pc + len) L S h else bot)
    | _ => bot
  | .invokestatic _ => match dn with
    | 0 :: j :: n :: rk :: _ => bif Nat.ble (am_cw (S.drop n)) 8 && Nat.ble (am_cw (S.take n)) (am_mx j) && Nat.ble n S.length then cl j (S.take n).reverse (fun r h' => am_rk bot rk r fun vs => nx (pc + len) L (vs ++ S.drop n) h') else bot
    | 1 :: _ => am_pI bot S fun y S => am_pI bot S fun x S => (bif Nat.ble (am_cw S) 8 then nx (pc + len) L (.inl (am_max x y) :: S) h else bot)
    | 2 :: _ => am_pI bot S fun y S => am_pI bot S fun x S => (bif Nat.ble (am_cw S) 8 then nx (pc + len) L (.inl (am_min x y) :: S) h else bot)
    | 3 :: _ => am_pI bot S fun x S => (bif Nat.ble (am_cw S) 8 then nx (pc + len) L (.inl (am_abs x) :: S) h else bot)
    | 4 :: _ => am_pL bot S fun y S => am_pL bot S fun x S => (bif Nat.ble (am_cw S) 8 then nx (pc + len) L (.inr (.inl (am_max x y)) :: S) h else bot)
    | 5 :: _ => am_pL bot S fun y S => am_pL bot S fun x S => (bif Nat.ble (am_cw S) 8 then nx (pc + len) L (.inr (.inl (am_min x y)) :: S) h else bot)
    | 6 :: _ => am_pL bot S fun x S => (bif Nat.ble (am_cw S) 8 then nx (pc + len) L (.inr (.inl (am_absl x)) :: S) h else bot)
    | 7 :: _ => am_pI bot S fun n S => am_pI bot S fun dp S => am_pR bot S fun r2 S => am_pI bot S fun sp S => am_pR bot S fun r1 S => am_op bot r1 fun a => am_op bot r2 fun b =>
        gd (am_kd h a = 13 ∧ am_kd h b = 13 ∧ 0 ≤ sp ∧ 0 ≤ dp ∧ 0 ≤ n ∧ sp + n ≤ am_ln h a ∧ dp + n ≤ am_ln h b) inferInstance (bif Nat.ble (am_cw S) 8 then nx (pc + len) L S (am_cp h a sp b dp n) else bot)
    | _ => bot
  | _ => bot
end
/-- the run, and what it is to come to an end with Q -/
def am_run : Nat → Nat → Nat → Nat → List (Option am_V) → List am_V → am_H → Option (Option am_V × am_H)
  | 0, _, _, _, _, _, _ => none
  | n + 1, d, i, pc, L, S, h => match am_tb i pc with
    | none => none
    | some (e, len, dn, di) => am_st none (fun c _ x => if c then x else none) (fun c _ x y => if c then x else y) e len dn di pc L S h (fun pc L S h => am_run n d i pc L S h) (fun r h => some (r, h))
        (fun j args k => match d with
          | 0 => none
          | d + 1 => match am_run n d j 0 (am_en j args) [] h with
            | none => none
            | some (r, h') => k r h')
def am_WP (d i pc : Nat) (L : List (Option am_V)) (S : List am_V) (h : am_H) (Q : Option am_V → am_H → Prop) : Prop := ∃ n r h', am_run n d i pc L S h = some (r, h') ∧ Q r h'
def am_Sp (d j : Nat) (args : List am_V) (h : am_H) (Q : Option am_V → am_H → Prop) : Prop := am_WP d j 0 (am_en j args) [] h Q
abbrev am_gd : (c : Prop) → Decidable c → Prop → Prop := fun c _ x => c ∧ x
abbrev am_br : (c : Prop) → Decidable c → Prop → Prop → Prop := fun c _ x y => (c → x) ∧ (¬ c → y)
def am_ca (d j : Nat) (args : List am_V) (h : am_H) (k : Option am_V → am_H → Prop) : Prop := match d with
  | 0 => False
  | d + 1 => am_Sp d j args h k
/-- the condition of a stretch of code, up to the cuts -/
def am_vc (cuts : List Nat) (d i : Nat) (Q : Option am_V → am_H → Prop) : Nat → Nat → List (Option am_V) → List am_V → am_H → Prop
  | 0, pc, L, S, h => am_WP d i pc L S h Q
  | n + 1, pc, L, S, h => match am_tb i pc with
    | none => False
    | some (e, len, dn, di) => am_st False am_gd am_br e len dn di pc L S h
        (fun pc' L' S' h' => bif cuts.any (Nat.beq pc') then am_WP d i pc' L' S' h' Q else am_vc cuts d i Q n pc' L' S' h') Q
        (fun j args k => am_ca d j args h k)
