/-! what is checked of each instruction, once, by computing -/
theorem am_hw_in {p : Nat} {w : Cond} (h : am_hw p w = true) : w ∈ am_tw := by
  unfold am_hw at h
  simp only [Bool.and_eq_true, decide_eq_true_eq] at h
  exact List.mem_filter.mpr ⟨List.mem_of_getElem? h.1, h.2⟩
def am_atk : ArrayType → Nat
  | .byte => 12
  | .int => 13
  | .long => 14
  | .boolean => 15
  | _ => 0
def am_fok (i pc : Nat) (idx : Nat) (dn : List Nat) (put : Bool) : Bool := match dn with
  | ci :: k :: ty :: p :: _ => match vwCl[ci]? with
    | some (_, T, N) => decide (ci < 12 ∧ k < N) && decide ((am_lay ci)[k]? = some ty) && decide ((am_lay ci).length = N) && am_hw (am_np + p) (.fieldLink (am_y i).cls idx (T k).1 (T k).2.1 (T k).2.2.1) &&
        (!put || ((!(T k).2.2.2 || (decide ((am_y i).name = "<init>") && decide ((T k).1 = (am_y i).cls))) && (match parseFieldDescriptor (T k).2.2.1 with
          | some .int => decide (ty = 0)
          | some .boolean => decide (ty = 1)
          | some .long => decide (ty = 2)
          | some (.object _) => decide (ty = 3)
          | some (.array _) => decide (ty = 3)
          | _ => false)))
    | none => false
  | _ => false
def am_nst : List Cond := [.methodLinkNest RX10 27 yX9_init RX10, .methodLinkNest RX9 69 yX1_init RX10, .methodLinkNest RX10 46 yX6_init RX10, .methodLinkNest RX5 38 yX6_init RX10, .methodLinkNest RX8 61 yX10_placeOf RX10, .methodLinkNest RX4 109 yX10_placeOf RX10]
def am_rkk (r : Option FieldType) : Nat := match r with
  | none => 0
  | some .long => 2
  | some .int => 1
  | some .boolean => 1
  | _ => 9
/-- a call of a method of the table: kind 0 virtual, 1 static, 2 constructor -/
def am_cok (i idx : Nat) (kind : Nat) (dn : List Nat) : Bool := match dn with
  | _ :: j :: n :: rk :: ci :: p :: ns :: _ => decide (j < 281) && decide ((am_pp j).getD 5 9 = kind) && decide (n = (am_pp j).getD 4 0 + (if kind = 1 then 0 else 1)) && decide (rk = am_rkk (am_r j)) && decide (kind = 0 → (am_k j = ci ∧ ci < 12)) &&
      (if ns = 0 then am_hw (am_np + p) (.methodLink (am_y i).cls idx (am_y j)) else decide (kind ≠ 0) && decide (.methodLinkNest (am_y i).cls idx (am_y j) RX10 ∈ am_nst))
  | _ => false
def am_prm : List (Nat × MethodName × ByteArray × Nat × Option FieldType) := [(1, Lib.Math.max.name, Lib.Math.max.code, 2, some .int), (2, Lib.Math.min.name, Lib.Math.min.code, 2, some .int), (3, Lib.Math.abs.name, Lib.Math.abs.code, 1, some .int), (4, Lib.MathLoose.max_long.x, Lib.MathLoose.max_long.code, 4, some .long), (5, Lib.MathLoose.min_long.x, Lib.MathLoose.min_long.code, 4, some .long), (6, Lib.MathLoose.abs_long.x, Lib.MathLoose.abs_long.code, 2, some .long)]
def am_oke (i pc : Nat) (q : am_E) : Bool := decide (decode (am_c i) pc = .ok (q.1, q.2.1)) && (match q.1 with
  | .iconst n => decide (-1 ≤ n ∧ n ≤ 5)
  | .bipush n => decide (-128 ≤ n ∧ n ≤ 127)
  | .sipush n => decide (-32768 ≤ n ∧ n ≤ 32767)
  | .ldc idx => match q.2.2.1 with
    | [0, p] => decide (-2147483648 ≤ q.2.2.2.getD 0 0 ∧ q.2.2.2.getD 0 0 ≤ 2147483647) && am_hw (am_np + p) (.constant (am_y i).cls idx (Int32.ofInt (q.2.2.2.getD 0 0)))
    | [1, 0, _] => decide ((am_y i).cls = RX8 ∧ idx = 28)
    | _ => false
  | .ldc_w idx => match q.2.2.1 with
    | [0, p] => decide (-2147483648 ≤ q.2.2.2.getD 0 0 ∧ q.2.2.2.getD 0 0 ≤ 2147483647) && am_hw (am_np + p) (.constant (am_y i).cls idx (Int32.ofInt (q.2.2.2.getD 0 0)))
    | _ => false
  | .ldc2_w idx => match q.2.2.1 with
    | [p] => decide (-9223372036854775808 ≤ q.2.2.2.getD 0 0 ∧ q.2.2.2.getD 0 0 ≤ 9223372036854775807) && am_hw (am_np + p) (.constantLong (am_y i).cls idx (Int64.ofInt (q.2.2.2.getD 0 0)))
    | _ => false
  | .iinc _ n => decide (-32768 ≤ n ∧ n ≤ 32767)
  | .istore k => decide (k < am_mx i)
  | .istore_n k => decide (k.val < am_mx i)
  | .astore k => decide (k < am_mx i)
  | .astore_n k => decide (k.val < am_mx i)
  | .lstore k => decide (k + 1 < am_mx i)
  | .lstore_n k => decide (k.val + 1 < am_mx i)
  | .getfield idx => am_fok i pc idx q.2.2.1 false
  | .putfield idx => am_fok i pc idx q.2.2.1 true
  | .baload => decide (q.2.2.1 = [12] ∨ q.2.2.1 = [15])
  | .bastore => decide (q.2.2.1 = [12] ∨ q.2.2.1 = [15])
  | .arraylength => decide (q.2.2.1 = [12] ∨ q.2.2.1 = [13] ∨ q.2.2.1 = [14] ∨ q.2.2.1 = [15])
  | .newarray t => match q.2.2.1 with
    | [k, p] => decide (k = am_atk t ∧ k ≠ 0) && am_hw (am_np + p) (.arrayClass (newarray.typeOf t))
    | _ => false
  | .anewarray idx => match q.2.2.1 with
    | [16, p] => am_hw (am_np + p) (.classLink (am_y i).cls idx RX6)
    | _ => false
  | .new idx => match q.2.2.1 with
    | [ci, n, p, p2, p3] => match vwCl[ci]? with
      | some (C, _, N) => decide (ci < 12 ∧ n = N) && am_hw (am_np + p) (.classLink (am_y i).cls idx C) && am_hw (am_np + p2) (.instantiable C N) && am_hw (am_np + p3) (.initialized C)
      | none => false
    | _ => false
  | .ifCond _ off => match q.2.2.1 with
    | [t] => decide ((pc : Int) + off = (t : Int))
    | _ => false
  | .if_icmp _ off => match q.2.2.1 with
    | [t] => decide ((pc : Int) + off = (t : Int))
    | _ => false
  | .goto off => match q.2.2.1 with
    | [t] => decide ((pc : Int) + off = (t : Int))
    | _ => false
  | .tableswitch d lo hi offs => decide ((q.2.2.1.map fun (t : Nat) => (t : Int)) = ((pc : Int) + d) :: (offs.toList.map fun o => (pc : Int) + o)) && decide (q.2.2.2 = (List.range offs.size).map fun (n : Nat) => lo + (n : Int)) && decide (hi = lo + (offs.size : Int) - 1) && decide (-2147483648 ≤ lo ∧ hi ≤ 2147483647)
  | .lookupswitch d ps => decide ((q.2.2.1.map fun (t : Nat) => (t : Int)) = ((pc : Int) + d) :: (ps.toList.map fun o => (pc : Int) + o.2)) && decide (q.2.2.2 = ps.toList.map fun o => o.1) && (ps.toList.zip (ps.toList.drop 1)).all (fun (a, next) => a.1 < next.1) && q.2.2.2.all (fun k => decide (-2147483648 ≤ k ∧ k ≤ 2147483647))
  | .ireturn => match am_r i with
    | some .int => decide (q.2.2.1 = [0])
    | some .boolean => decide (q.2.2.1 = [1])
    | _ => false
  | .lreturn => decide (am_r i = some .long)
  | .return_ => decide (am_r i = none)
  | .invokevirtual idx => match q.2.2.1 with
    | 0 :: _ => am_cok i idx 0 q.2.2.1
    | [9, p] => decide (idx = 30 ∨ True)
    | [10, p] => true
    | _ => false
  | .invokespecial idx => match q.2.2.1 with
    | 0 :: _ => am_cok i idx 2 q.2.2.1
    | [8, p] => am_hw (am_np + p) (.methodLink (am_y i).cls idx Lib.objectInit)
    | _ => false
  | .invokestatic idx => match q.2.2.1 with
    | 0 :: _ => am_cok i idx 1 q.2.2.1
    | [7, p] => am_hw (am_np + p) (.methodLink (am_y i).cls idx arraycopyName)
    | [k, p] => am_prm.any fun z => decide (z.1 = k) && am_hw (am_np + p) (.methodLink (am_y i).cls idx z.2.1)
    | _ => false
  | _ => true)
theorem am_bnd {f g : Nat → Option am_E} {n : Nat} (hf : ∀ pc, f pc = bif Nat.ble pc n then g pc else none) {pc : Nat} (h : n < pc) : f pc = none := by
  rw [hf, show Nat.ble pc n = false from by
    cases q : Nat.ble pc n
    · rfl
    · have := Nat.le_of_ble_eq_true q; omega]
  rfl
def am_chk (i n : Nat) : Bool := (List.range (n + 1)).all fun pc => match am_tb i pc with
  | none => true
  | some q => am_oke i pc q
theorem am_k57 : am_chk 57 20 = true := by decide +kernel
theorem am_k158 : am_chk 158 300 = true := by decide +kernel
