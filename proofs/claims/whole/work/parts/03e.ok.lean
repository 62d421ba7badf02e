/-! what is checked of each instruction, once, by computing -/
def am_atk : ArrayType → Nat
  | .byte => 12
  | .int => 13
  | .long => 14
  | .boolean => 15
  | _ => 0
def am_fok (i : Nat) (idx : Nat) (dn : List Nat) (put : Bool) : Bool := match dn with
  | [ci, k, ty] => decide (am_k i < 12) && (am_fl (am_k i)).any (fun z => Nat.beq z.1 idx && Nat.beq z.2.1 ci && Nat.beq z.2.2.1 k) && decide ((am_lay ci)[k]? = some ty) &&
      (!put || (match vwCl[ci]? with
        | some (_, T, _) => (!(T k).2.2.2 || (decide ((am_y i).name = "<init>") && decide (am_k i = ci))) && (match parseFieldDescriptor (T k).2.2.1 with
          | some .int => Nat.beq ty 0
          | some .boolean => Nat.beq ty 1
          | some .long => Nat.beq ty 2
          | some (.object _) => Nat.beq ty 3
          | some (.array _) => Nat.beq ty 3
          | _ => false)
        | none => false))
  | _ => false
def am_nst : List Cond := [.methodLinkNest RX10 27 yX9_init RX10, .methodLinkNest RX9 69 yX1_init RX10, .methodLinkNest RX10 46 yX6_init RX10, .methodLinkNest RX5 38 yX6_init RX10, .methodLinkNest RX8 61 yX10_placeOf RX10, .methodLinkNest RX4 109 yX10_placeOf RX10]
def am_rkk (r : Option FieldType) : Nat := match r with
  | none => 0
  | some .long => 2
  | some .int => 1
  | some .boolean => 1
  | _ => 9
/-- a call of a method of the table: kind 0 virtual, 1 static, 2 constructor -/
def am_cok (i idx : Nat) (kind : Nat) (dn : List Nat) : Bool := match dn with
  | [_, j, n, rk, ci] => decide (am_k i < 12) && decide (j < 281) && Nat.beq (am_kn j) kind && Nat.beq n (am_np j + (bif Nat.beq kind 1 then 0 else 1)) && Nat.beq rk (am_rkk (am_r j)) && (!Nat.beq kind 0 || (Nat.beq (am_k j) ci && decide (ci < 12))) &&
      ((am_ml (am_k i)).any (fun z => Nat.beq z.1 idx && Nat.beq z.2.1 j) || (!Nat.beq kind 0 && decide (Cond.methodLinkNest (am_nm (am_k i)) idx (am_y j) RX10 ∈ am_nst)))
  | _ => false
def am_pok (i idx k : Nat) : Bool := decide (am_k i < 12) && (am_pl (am_k i)).any (fun z => Nat.beq z.1 idx && Nat.beq z.2.1 k)
def am_len : Instr → Nat
  | .iload _ | .lload _ | .aload _ | .istore _ | .lstore _ | .astore _ | .bipush _ | .ldc _ | .newarray _ => 2
  | .sipush _ | .ldc_w _ | .ldc2_w _ | .getfield _ | .putfield _ | .invokevirtual _ | .invokestatic _ | .invokespecial _ | .new _ | .anewarray _ | .ifCond _ _ | .if_icmp _ _ | .goto _ | .iinc _ _ => 3
  | .tableswitch _ _ _ _ | .lookupswitch _ _ => 0
  | _ => 1
def am_okx (i pc : Nat) (q : am_E) : Bool := match q.1 with
  | .iconst n => decide (-1 ≤ n ∧ n ≤ 5)
  | .bipush n => decide (-128 ≤ n ∧ n ≤ 127)
  | .sipush n => decide (-32768 ≤ n ∧ n ≤ 32767)
  | .ldc idx => match q.2.2.1 with
    | [0] => am_ci.any (fun z => Nat.beq z.1 (am_k i) && Nat.beq z.2.1 idx && decide (z.2.2.1 = q.2.2.2.getD 0 0))
    | [1, 0] => Nat.beq (am_k i) 8 && Nat.beq idx 28
    | _ => false
  | .ldc_w idx => match q.2.2.1 with
    | [0] => am_ci.any (fun z => Nat.beq z.1 (am_k i) && Nat.beq z.2.1 idx && decide (z.2.2.1 = q.2.2.2.getD 0 0))
    | _ => false
  | .ldc2_w idx => am_cl.any (fun z => Nat.beq z.1 (am_k i) && Nat.beq z.2.1 idx && decide (z.2.2.1 = q.2.2.2.getD 0 0))
  | .istore k => decide (k < am_mx i)
  | .istore_n k => decide (k.val < am_mx i)
  | .astore k => decide (k < am_mx i)
  | .astore_n k => decide (k.val < am_mx i)
  | .lstore k => decide (k + 1 < am_mx i)
  | .lstore_n k => decide (k.val + 1 < am_mx i)
  | .getfield idx => am_fok i idx q.2.2.1 false
  | .putfield idx => am_fok i idx q.2.2.1 true
  | .baload => decide (q.2.2.1 = [12] ∨ q.2.2.1 = [15])
  | .bastore => decide (q.2.2.1 = [12] ∨ q.2.2.1 = [15])
  | .arraylength => decide (q.2.2.1 = [12] ∨ q.2.2.1 = [13] ∨ q.2.2.1 = [14] ∨ q.2.2.1 = [15])
  | .newarray t => match q.2.2.1 with
    | [k] => decide (k = am_atk t ∧ k ≠ 0)
    | _ => false
  | .anewarray idx => decide (q.2.2.1 = [16]) && am_nl.any (fun z => Nat.beq z.1 (am_k i) && Nat.beq z.2.1 idx && Nat.beq z.2.2.1 6)
  | .new idx => match q.2.2.1 with
    | [ci, n] => am_nl.any (fun z => Nat.beq z.1 (am_k i) && Nat.beq z.2.1 idx && Nat.beq z.2.2.1 ci) && decide ((am_lay ci).length = n)
    | _ => false
  | .ifCond _ off => match q.2.2.1 with
    | [t] => decide ((pc : Int) + off = (t : Int))
    | _ => false
  | .if_icmp _ off => match q.2.2.1 with
    | [t] => decide ((pc : Int) + off = (t : Int))
    | _ => false
  | .goto off => match q.2.2.1 with
    | [t] => decide ((pc : Int) + off = (t : Int))
    | _ => false
  | .tableswitch d lo hi offs => decide ((q.2.2.1.map fun (t : Nat) => (t : Int)) = ((pc : Int) + d) :: (offs.toList.map fun o => (pc : Int) + o)) && decide (q.2.2.2 = (List.range offs.size).map fun (n : Nat) => lo + (n : Int)) && decide (hi = lo + (offs.size : Int) - 1)
  | .lookupswitch d ps => decide ((q.2.2.1.map fun (t : Nat) => (t : Int)) = ((pc : Int) + d) :: (ps.toList.map fun o => (pc : Int) + o.2)) && decide (q.2.2.2 = ps.toList.map fun o => o.1) && (ps.toList.zip (ps.toList.drop 1)).all (fun (a, next) => a.1 < next.1)
  | .ireturn => match am_r i with
    | some .int => decide (q.2.2.1 = [0])
    | some .boolean => decide (q.2.2.1 = [1])
    | _ => false
  | .lreturn => decide (am_r i = some .long)
  | .return_ => decide (am_r i = none)
  | .invokevirtual idx => match q.2.2.1 with
    | 0 :: _ => am_cok i idx 0 q.2.2.1
    | [9] => Nat.beq i 75 && Nat.beq idx 30
    | [10] => Nat.beq i 75 && Nat.beq idx 36
    | _ => false
  | .invokespecial idx => match q.2.2.1 with
    | 0 :: _ => am_cok i idx 2 q.2.2.1
    | [8] => am_pok i idx 8
    | _ => false
  | .invokestatic idx => match q.2.2.1 with
    | 0 :: _ => am_cok i idx 1 q.2.2.1
    | [k] => decide (0 < k ∧ k < 8) && am_pok i idx k
    | _ => false
  | _ => true
def am_oke (i pc : Nat) (q : am_E) : Bool := decide (decode (am_c i) pc = .ok (q.1, q.2.1)) && (Nat.beq (am_len q.1) q.2.1 || Nat.beq (am_len q.1) 0) && am_okx i pc q
theorem am_bnd {f g : Nat → Option am_E} {n : Nat} (hf : ∀ pc, f pc = bif Nat.ble pc n then g pc else none) {pc : Nat} (h : n < pc) : f pc = none := by
  rw [hf, show Nat.ble pc n = false from by
    cases q : Nat.ble pc n
    · rfl
    · have := Nat.le_of_ble_eq_true q; omega]
  rfl
def am_ck (i lo n : Nat) : Bool := (List.range n).all fun k => match am_tb i (lo + k) with
  | none => true
  | some q => am_oke i (lo + k) q
def am_okr (i lo hi : Nat) : Prop := ∀ pc q, lo ≤ pc → pc < hi → am_tb i pc = some q → am_oke i pc q = true
theorem am_ck_ok {i lo n : Nat} (hc : am_ck i lo n = true) : am_okr i lo (lo + n) := by
  intro pc q h1 h2 h
  have z := List.all_eq_true.mp hc (pc - lo) (List.mem_range.mpr (by omega))
  rw [show lo + (pc - lo) = pc by omega, h] at z
  exact z
theorem am_okr_app {i a b c : Nat} (h1 : am_okr i a b) (h2 : am_okr i b c) : am_okr i a c := fun pc q l1 l2 h => by
  rcases Nat.lt_or_ge pc b with z | z
  · exact h1 pc q l1 z h
  · exact h2 pc q z l2 h
theorem am_okr_all {i n : Nat} {g : Nat → Option am_E} (hc : am_okr i 0 (n + 1)) (hf : ∀ pc, am_tb i pc = bif Nat.ble pc n then g pc else none) {pc : Nat} {q : am_E} (h : am_tb i pc = some q) : am_oke i pc q = true := by
  rcases Nat.lt_or_ge n pc with z | z
  · rw [am_bnd hf z] at h; cases h
  · exact hc pc q (Nat.zero_le pc) (by omega) h
