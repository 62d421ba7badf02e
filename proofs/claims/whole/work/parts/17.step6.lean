/-! constants, switches, the library's own methods -/
def am_tg (x : Int) (d : Nat) : List Int → List Nat → Nat
  | k :: ks, t :: ts => if x = k then t else am_tg x d ks ts
  | _, _ => d
theorem am_sw_tg {x : Int} {d : Nat} {f : Nat → Prop} : ∀ (ks : List Int) (ts : List Nat), am_sw am_br x (f d) f ks ts → f (am_tg x d ks ts)
  | [], _, h => by unfold am_sw at h; unfold am_tg; exact h
  | _ :: _, [], h => by unfold am_sw at h; unfold am_tg; exact h
  | k :: ks, t :: ts, h => by
    unfold am_sw at h; unfold am_tg
    split
    · rename_i e; exact h.1 e
    · rename_i e; exact am_sw_tg ks ts (h.2 e)
theorem am_tg_look {x : Int} {pc : Nat} {dd : Int} : ∀ (ps : List (Int × Int)) (d : Nat) (ts : List Nat), ((d :: ts).map fun (t : Nat) => (t : Int)) = ((pc : Int) + dd) :: (ps.map fun o => (pc : Int) + o.2) → (pc : Int) + Op.lookupswitch.offset ps dd x = (am_tg x d (ps.map fun o => o.1) ts : Int)
  | [], d, ts, h => by
    simp only [List.map_cons, List.cons.injEq] at h
    cases ts with
    | nil => show (pc : Int) + Op.lookupswitch.offset [] dd x = (d : Int); rw [h.1]; rfl
    | cons t ts => simp at h
  | q :: ps, d, [], h => by simp at h
  | q :: ps, d, t :: ts, h => by
    simp only [List.map_cons, List.cons.injEq] at h
    obtain ⟨h1, h2, h3⟩ := h
    obtain ⟨a, o⟩ := q
    rw [Op.lookupswitch.offset_cons]
    show _ = ((if x = a then t else am_tg x d (ps.map fun o => o.1) ts : Nat) : Int)
    by_cases e : a = x
    · rw [if_pos e, if_pos e.symm, h2]
    · rw [if_neg e, if_neg (fun z => e z.symm)]
      exact am_tg_look ps d ts (by simp only [List.map_cons, List.cons.injEq]; exact ⟨h1, h3⟩)
theorem am_tg_out {x : Int} {d : Nat} : ∀ (ks : List Int) (ts : List Nat), (∀ k ∈ ks, x ≠ k) → am_tg x d ks ts = d
  | [], _, _ => by unfold am_tg; rfl
  | _ :: _, [], _ => by unfold am_tg; rfl
  | k :: ks, t :: ts, h => by
    unfold am_tg
    rw [if_neg (h k List.mem_cons_self)]
    exact am_tg_out ks ts (fun q hq => h q (List.mem_cons_of_mem _ hq))
theorem am_tg_at {x : Int} {d : Nat} : ∀ (ks : List Int) (ts : List Nat) (n t : Nat), ks[n]? = some x → ts[n]? = some t → (∀ q, q < n → ks[q]? ≠ some x) → am_tg x d ks ts = t
  | [], _, n, t, h, _, _ => by simp at h
  | _ :: _, [], n, t, _, h, _ => by simp at h
  | k :: ks, t0 :: ts, 0, t, h1, h2, _ => by
    simp at h1 h2
    unfold am_tg
    rw [if_pos h1.symm, h2]
  | k :: ks, t0 :: ts, n + 1, t, h1, h2, h3 => by
    unfold am_tg
    have := h3 0 (by omega)
    simp at this
    rw [if_neg (fun z => this z.symm)]
    exact am_tg_at ks ts n t h1 h2 (fun q hq => h3 (q + 1) (by omega))
theorem am_max_in {x y : Int} (hx : am_in x) (hy : am_in y) : am_in (am_max x y) := by unfold am_max; split <;> assumption
theorem am_min_in {x y : Int} (hx : am_in x) (hy : am_in y) : am_in (am_min x y) := by unfold am_min; split <;> assumption
theorem am_maxl_in {x y : Int} (hx : am_inl x) (hy : am_inl y) : am_inl (am_max x y) := by unfold am_max; split <;> assumption
theorem am_minl_in {x y : Int} (hx : am_inl x) (hy : am_inl y) : am_inl (am_min x y) := by unfold am_min; split <;> assumption
theorem am_cat_sum (b aS : Nat) : ∀ (S : List am_V), ((S.map (am_cv b aS)).map fun v => v.category).sum = am_cw S
  | [] => rfl
  | v :: t => by
    rw [List.map_cons, List.map_cons, List.sum_cons, am_cat_sum b aS t, am_cat_cv, am_cw]
    cases am_c1 v <;> rfl
section
variable {p : Program} {l : Launch} {e : Env} {R : Room} {s : State} {m : MethodId} {args : Array Value} {below : List Frame} {meth : Method} {c : Code} {Q : State → Prop}
variable {D : va_G} {cy : Nat → ClassId} {b aS n0 z0 : Nat} {tg : Bool} {i : Nat} {pc : Nat} {L : List (Option am_V)} {S : List am_V} {h : am_H}
theorem am_ci_w {idx : Nat} {v : Int} (hi : i < 281) (ho : am_ci.any (fun z => Nat.beq z.1 (am_k i) && Nat.beq z.2.1 idx && decide (z.2.2.1 = v)) = true) : am_in v ∧ Cond.constant (am_y i).cls idx (Int32.ofInt v) ∈ am_tw := by
  obtain ⟨z, hz, hz2⟩ := am_any_nat ho
  simp only [Bool.and_eq_true, decide_eq_true_eq] at hz2
  obtain ⟨⟨e1, e2⟩, e3⟩ := hz2
  have e1 := Nat.eq_of_beq_eq_true e1
  have e2 := Nat.eq_of_beq_eq_true e2
  have hk := List.all_eq_true.mp am_ci_ok z hz
  rw [e3, e1, e2, am_nm_y hi] at hk
  simp only [Bool.and_eq_true, decide_eq_true_eq] at hk
  exact ⟨hk.1, am_hw_in hk.2⟩
theorem am_cl_w {idx : Nat} {v : Int} (hi : i < 281) (ho : am_cl.any (fun z => Nat.beq z.1 (am_k i) && Nat.beq z.2.1 idx && decide (z.2.2.1 = v)) = true) : am_inl v ∧ Cond.constantLong (am_y i).cls idx (Int64.ofInt v) ∈ am_tw := by
  obtain ⟨z, hz, hz2⟩ := am_any_nat ho
  simp only [Bool.and_eq_true, decide_eq_true_eq] at hz2
  obtain ⟨⟨e1, e2⟩, e3⟩ := hz2
  have e1 := Nat.eq_of_beq_eq_true e1
  have e2 := Nat.eq_of_beq_eq_true e2
  have hk := List.all_eq_true.mp am_cl_ok z hz
  rw [e3, e1, e2, am_nm_y hi] at hk
  simp only [Bool.and_eq_true, decide_eq_true_eq] at hk
  exact ⟨hk.1, am_hw_in hk.2⟩
theorem sn_ldc (F : am_fx p l e R s m args below meth c D cy b aS n0 tg i) {idx : Nat} {v : Int} (hd : decode (am_c i) pc = .ok (.ldc idx, 2)) (ho : am_ci.any (fun z => Nat.beq z.1 (am_k i) && Nat.beq z.2.1 idx && decide (z.2.2.1 = v)) = true) (kk : am_Gd p l e R s m args below meth c Q D cy b aS n0 z0 tg i (pc + 2) L (.inl v :: S) h) : am_Gd p l e R s m args below meth c Q D cy b aS n0 z0 tg i pc L S h := by
  intro ls H locs cells slots P
  obtain ⟨hx, hb, hml, hown, hts, hK, hlocks, hrr, hname, hnst, hAO, hi, -⟩ := F
  obtain ⟨h1, h2⟩ := am_ci_w hi ho
  exact lv_ldc hx hb hown (hts _ h2) hd (kk _ _ _ _ _ (P.st (am_ok1 h1 P.2.1)))
theorem sn_ldcw (F : am_fx p l e R s m args below meth c D cy b aS n0 tg i) {idx : Nat} {v : Int} (hd : decode (am_c i) pc = .ok (.ldc_w idx, 3)) (ho : am_ci.any (fun z => Nat.beq z.1 (am_k i) && Nat.beq z.2.1 idx && decide (z.2.2.1 = v)) = true) (kk : am_Gd p l e R s m args below meth c Q D cy b aS n0 z0 tg i (pc + 3) L (.inl v :: S) h) : am_Gd p l e R s m args below meth c Q D cy b aS n0 z0 tg i pc L S h := by
  intro ls H locs cells slots P
  obtain ⟨hx, hb, hml, hown, hts, hK, hlocks, hrr, hname, hnst, hAO, hi, -⟩ := F
  obtain ⟨h1, h2⟩ := am_ci_w hi ho
  exact lv_ldcw hx hb hown (hts _ h2) hd (kk _ _ _ _ _ (P.st (am_ok1 h1 P.2.1)))
theorem sn_ldc2 (F : am_fx p l e R s m args below meth c D cy b aS n0 tg i) {idx : Nat} {v : Int} (hd : decode (am_c i) pc = .ok (.ldc2_w idx, 3)) (ho : am_cl.any (fun z => Nat.beq z.1 (am_k i) && Nat.beq z.2.1 idx && decide (z.2.2.1 = v)) = true) (kk : am_Gd p l e R s m args below meth c Q D cy b aS n0 z0 tg i (pc + 3) L (.inr (.inl v) :: S) h) : am_Gd p l e R s m args below meth c Q D cy b aS n0 z0 tg i pc L S h := by
  intro ls H locs cells slots P
  obtain ⟨hx, hb, hml, hown, hts, hK, hlocks, hrr, hname, hnst, hAO, hi, -⟩ := F
  obtain ⟨h1, h2⟩ := am_cl_w hi ho
  exact lv_ldc2 hx hb hown (hts _ h2) hd (kk _ _ _ _ _ (P.st (am_ok1 h1 P.2.1)))
theorem sn_look (F : am_fx p l e R s m args below meth c D cy b aS n0 tg i) {x dd : Int} {ps : Array (Int × Int)} {len : Nat} {dn : List Nat} {di : List Int} (hd : decode (am_c i) pc = .ok (.lookupswitch dd ps, len)) (h1 : (dn.map fun (t : Nat) => (t : Int)) = ((pc : Int) + dd) :: (ps.toList.map fun o => (pc : Int) + o.2)) (h2 : di = ps.toList.map fun o => o.1) (h3 : (ps.toList.zip (ps.toList.drop 1)).all (fun (a, next) => a.1 < next.1) = true)
    (kk : am_sw am_br x (am_Gd p l e R s m args below meth c Q D cy b aS n0 z0 tg i (dn.getD 0 0) L S h) (fun t => am_Gd p l e R s m args below meth c Q D cy b aS n0 z0 tg i t L S h) di dn.tail) : am_Gd p l e R s m args below meth c Q D cy b aS n0 z0 tg i pc L (.inl x :: S) h := by
  intro ls H locs cells slots P
  obtain ⟨o1, o2⟩ := am_ok2 P.2.1
  cases dn with
  | nil => simp at h1
  | cons d ts =>
    have k2 := am_sw_tg (f := fun t => am_Gd p l e R s m args below meth c Q D cy b aS n0 z0 tg i t L S h) (d := d) di ts kk
    rw [h2] at k2
    exact lv_lookup F.1 F.2.1 hd h3 rfl (by rw [am_toI o1]; exact am_tg_look _ _ _ h1) (k2 _ _ _ _ _ (P.st o2))
theorem sn_table (F : am_fx p l e R s m args below meth c D cy b aS n0 tg i) {x dd lo hi : Int} {offs : Array Int} {len : Nat} {dn : List Nat} {di : List Int} (hd : decode (am_c i) pc = .ok (.tableswitch dd lo hi offs, len)) (h1 : (dn.map fun (t : Nat) => (t : Int)) = ((pc : Int) + dd) :: (offs.toList.map fun o => (pc : Int) + o)) (h2 : di = (List.range offs.size).map fun (n : Nat) => lo + (n : Int)) (h3 : hi = lo + (offs.size : Int) - 1)
    (kk : am_sw am_br x (am_Gd p l e R s m args below meth c Q D cy b aS n0 z0 tg i (dn.getD 0 0) L S h) (fun t => am_Gd p l e R s m args below meth c Q D cy b aS n0 z0 tg i t L S h) di dn.tail) : am_Gd p l e R s m args below meth c Q D cy b aS n0 z0 tg i pc L (.inl x :: S) h := by
  intro ls H locs cells slots P
  obtain ⟨o1, o2⟩ := am_ok2 P.2.1
  cases dn with
  | nil => simp at h1
  | cons d ts =>
    have k2 := am_sw_tg (f := fun t => am_Gd p l e R s m args below meth c Q D cy b aS n0 z0 tg i t L S h) (d := d) di ts kk
    simp only [List.map_cons, List.cons.injEq] at h1
    obtain ⟨g1, g2⟩ := h1
    by_cases hr : x < lo ∨ hi < x
    · rw [am_tg_out di ts (by
        intro k hk
        rw [h2] at hk
        obtain ⟨n, hn, rfl⟩ := List.mem_map.mp hk
        have := List.mem_range.mp hn
        omega)] at k2
      exact lv_tableOut F.1 F.2.1 hd (by rw [am_toI o1]; exact hr) g1.symm (k2 _ _ _ _ _ (P.st o2))
    · have hn : (x - lo).toNat < offs.size := by omega
      have ht : ∃ t, ts[(x - lo).toNat]? = some t ∧ (t : Int) = (pc : Int) + offs[(x - lo).toNat] := by
        have := congrArg (fun z => z[(x - lo).toNat]?) g2
        simp only [List.getElem?_map, Array.getElem?_toList, Array.getElem?_eq_getElem hn, Option.map_some] at this
        cases hq : ts[(x - lo).toNat]? with
        | none => rw [hq] at this; simp at this
        | some t => rw [hq] at this; simp at this; exact ⟨t, rfl, this⟩
      obtain ⟨t, ht1, ht2⟩ := ht
      rw [am_tg_at di ts (x - lo).toNat t (by rw [h2, List.getElem?_map, List.getElem?_range hn]; simp; omega) ht1 (by
        intro q hq z
        rw [h2, List.getElem?_map, List.getElem?_range (by omega)] at z
        simp at z; omega)] at k2
      exact lv_tableIn F.1 F.2.1 hd (by rw [am_toI o1]; omega) (by rw [am_toI o1]; omega) (off := offs[(x - lo).toNat]) (by rw [am_toI o1]; exact Array.getElem?_eq_getElem hn) ht2.symm (k2 _ _ _ _ _ (P.st o2))
theorem am_pok_w {idx k : Nat} (hi : i < 281) (ho : am_pok i idx k = true) : Cond.methodLink (am_y i).cls idx (am_py k) ∈ am_tw := by
  unfold am_pok at ho
  simp only [Bool.and_eq_true, decide_eq_true_eq] at ho
  obtain ⟨z, hz, hz2⟩ := am_any_nat ho.2
  simp only [Bool.and_eq_true] at hz2
  have e1 := Nat.eq_of_beq_eq_true hz2.1
  have e2 := Nat.eq_of_beq_eq_true hz2.2
  have hk := am_plk_ok ho.1 hz
  unfold am_plk at hk
  rw [e1, e2, am_nm_y hi] at hk
  exact am_hw_in hk
/-- the room that the library's own methods take -/
def am_hr (R : Room) (n0 z0 : Nat) (h : am_H) : Prop := h.1.2.length ≤ R.cells + n0 ∧ am_sz h.1.2 ≤ R.slots + z0
theorem am_rest (hS : am_cw S ≤ 8) {k n : Nat} (hk : k + 8 ≤ n) : ((S.map (am_cv b aS)).map fun v => v.category).sum + k ≤ n := by rw [am_cat_sum]; omega
theorem sn_max (F : am_fx p l e R s m args below meth c D cy b aS n0 tg i) {idx : Nat} {x y : Int} (hd : decode (am_c i) pc = .ok (.invokestatic idx, 3)) (ho : am_pok i idx 1 = true) (hS : am_cw S ≤ 8) (hr : am_hr R n0 z0 h) (kk : am_Gd p l e R s m args below meth c Q D cy b aS n0 z0 tg i (pc + 3) L (.inl (am_max x y) :: S) h) : am_Gd p l e R s m args below meth c Q D cy b aS n0 z0 tg i pc L (.inl y :: .inl x :: S) h := by
  intro ls H locs cells slots P
  obtain ⟨hx, hb, hml, hown, hts, hK, hlocks, hrr, hname, hnst, hAO, hi, hf1, hf2, -⟩ := F
  obtain ⟨o1, o2⟩ := am_ok2 P.2.1
  obtain ⟨o2, o3⟩ := am_ok2 o2
  refine va_mmax hx hb (hml.trans P.1.1.symm) hown (hts _ (am_pok_w hi ho)) (hts _ am_w_p1s) (hts _ am_w_math) (hts _ am_w_p1c) hf1 (am_rest hS (by omega)) (by have := P.2.2.2.2.2.1; have := hr.1; omega) (by have := P.2.2.2.2.2.2.1; have := hr.2; omega) hd ?_
  have ee : (if Int32.ofInt x < Int32.ofInt y then Int32.ofInt y else Int32.ofInt x) = Int32.ofInt (am_max x y) := by
    unfold am_max
    by_cases q : x < y
    · rw [if_pos q, if_pos ((am_lt0 o2 o1).mpr q)]
    · rw [if_neg q, if_neg (fun z => q ((am_lt0 o2 o1).mp z))]
  rw [ee]
  exact kk _ _ _ _ _ (P.st (am_ok1 (am_max_in o2 o1) o3))
theorem sn_min (F : am_fx p l e R s m args below meth c D cy b aS n0 tg i) {idx : Nat} {x y : Int} (hd : decode (am_c i) pc = .ok (.invokestatic idx, 3)) (ho : am_pok i idx 2 = true) (hS : am_cw S ≤ 8) (hr : am_hr R n0 z0 h) (kk : am_Gd p l e R s m args below meth c Q D cy b aS n0 z0 tg i (pc + 3) L (.inl (am_min x y) :: S) h) : am_Gd p l e R s m args below meth c Q D cy b aS n0 z0 tg i pc L (.inl y :: .inl x :: S) h := by
  intro ls H locs cells slots P
  obtain ⟨hx, hb, hml, hown, hts, hK, hlocks, hrr, hname, hnst, hAO, hi, hf1, hf2, -⟩ := F
  obtain ⟨o1, o2⟩ := am_ok2 P.2.1
  obtain ⟨o2, o3⟩ := am_ok2 o2
  refine va_mmin hx hb (hml.trans P.1.1.symm) hown (hts _ (am_pok_w hi ho)) (hts _ am_w_p2s) (hts _ am_w_math) (hts _ am_w_p2c) hf1 (am_rest hS (by omega)) (by have := P.2.2.2.2.2.1; have := hr.1; omega) (by have := P.2.2.2.2.2.2.1; have := hr.2; omega) hd ?_
  have key : ∀ z : Int32, z = Int32.ofInt (am_min x y) → W p l e R s m args below meth c H locs cells slots Q (F0 m (pc + 3) ls (.int z :: S.map (am_cv b aS))) := fun z hz => by
    rw [hz]; exact kk _ _ _ _ _ (P.st (am_ok1 (am_min_in o2 o1) o3))
  refine key _ ?_
  have l1 := am_lt0 o2 o1
  have l2 := am_lt0 o1 o2
  have l3 := am_le0 o2 o1
  have l4 := am_le0 o1 o2
  unfold am_min
  first
    | (split <;> split <;> first | rfl | (apply Int32.toInt_inj.mp; rw [am_toI o1, am_toI o2]; omega) | (exfalso; first | (simp_all; done) | (simp_all; omega)))
theorem sn_abs (F : am_fx p l e R s m args below meth c D cy b aS n0 tg i) {idx : Nat} {x : Int} (hd : decode (am_c i) pc = .ok (.invokestatic idx, 3)) (ho : am_pok i idx 3 = true) (hS : am_cw S ≤ 8) (hr : am_hr R n0 z0 h) (kk : am_Gd p l e R s m args below meth c Q D cy b aS n0 z0 tg i (pc + 3) L (.inl (am_abs x) :: S) h) : am_Gd p l e R s m args below meth c Q D cy b aS n0 z0 tg i pc L (.inl x :: S) h := by
  intro ls H locs cells slots P
  obtain ⟨hx, hb, hml, hown, hts, hK, hlocks, hrr, hname, hnst, hAO, hi, hf1, hf2, -⟩ := F
  obtain ⟨o1, o3⟩ := am_ok2 P.2.1
  refine va_mabs hx hb (hml.trans P.1.1.symm) hown (hts _ (am_pok_w hi ho)) (hts _ am_w_p3s) (hts _ am_w_math) (hts _ am_w_p3c) hf1 (am_rest hS (by omega)) (by have := P.2.2.2.2.2.1; have := hr.1; omega) (by have := P.2.2.2.2.2.2.1; have := hr.2; omega) hd ?_
  have ee : (if 0 ≤ Int32.ofInt x then Int32.ofInt x else 0 - Int32.ofInt x) = Int32.ofInt (am_abs x) := by
    unfold am_abs
    have l : (0 : Int32) ≤ Int32.ofInt x ↔ 0 ≤ x := am_le0 (x := 0) (by unfold am_in; omega) o1
    by_cases q : x < 0
    · rw [if_neg (fun z => by have := l.mp z; omega), if_pos q, am_ofI_w, Int32.zero_sub, Int32.ofInt_neg]
    · rw [if_pos (l.mpr (by omega)), if_neg q, am_ofI_w]
  rw [ee]
  exact kk _ _ _ _ _ (P.st (am_ok1 (am_w_in _) o3))
theorem sn_maxl (F : am_fx p l e R s m args below meth c D cy b aS n0 tg i) {idx : Nat} {x y : Int} (hd : decode (am_c i) pc = .ok (.invokestatic idx, 3)) (ho : am_pok i idx 4 = true) (hS : am_cw S ≤ 8) (hr : am_hr R n0 z0 h) (kk : am_Gd p l e R s m args below meth c Q D cy b aS n0 z0 tg i (pc + 3) L (.inr (.inl (am_max x y)) :: S) h) : am_Gd p l e R s m args below meth c Q D cy b aS n0 z0 tg i pc L (.inr (.inl y) :: .inr (.inl x) :: S) h := by
  intro ls H locs cells slots P
  obtain ⟨hx, hb, hml, hown, hts, hK, hlocks, hrr, hname, hnst, hAO, hi, hf1, hf2, -⟩ := F
  obtain ⟨o1, o2⟩ := am_ok2 P.2.1
  obtain ⟨o2, o3⟩ := am_ok2 o2
  refine va_mmax_long hx hb (hml.trans P.1.1.symm) hown (hts _ (am_pok_w hi ho)) (hts _ am_w_p4s) (hts _ am_w_math) (hts _ am_w_p4c) hf1 (am_rest hS (by omega)) (by have := P.2.2.2.2.2.1; have := hr.1; omega) (by have := P.2.2.2.2.2.2.1; have := hr.2; omega) hd ?_
  have ee : (if Int64.ofInt y < Int64.ofInt x then Int64.ofInt x else Int64.ofInt y) = Int64.ofInt (am_max x y) := by
    unfold am_max
    by_cases q : y < x
    · rw [if_pos ((am_ltl o1 o2).mpr q), if_neg (by omega)]
    · rw [if_neg (fun z => q ((am_ltl o1 o2).mp z))]
      by_cases q2 : x < y
      · rw [if_pos q2]
      · rw [if_neg q2, show x = y by omega]
  rw [ee]
  exact kk _ _ _ _ _ (P.st (am_ok1 (am_maxl_in o2 o1) o3))
theorem sn_minl (F : am_fx p l e R s m args below meth c D cy b aS n0 tg i) {idx : Nat} {x y : Int} (hd : decode (am_c i) pc = .ok (.invokestatic idx, 3)) (ho : am_pok i idx 5 = true) (hS : am_cw S ≤ 8) (hr : am_hr R n0 z0 h) (kk : am_Gd p l e R s m args below meth c Q D cy b aS n0 z0 tg i (pc + 3) L (.inr (.inl (am_min x y)) :: S) h) : am_Gd p l e R s m args below meth c Q D cy b aS n0 z0 tg i pc L (.inr (.inl y) :: .inr (.inl x) :: S) h := by
  intro ls H locs cells slots P
  obtain ⟨hx, hb, hml, hown, hts, hK, hlocks, hrr, hname, hnst, hAO, hi, hf1, hf2, -⟩ := F
  obtain ⟨o1, o2⟩ := am_ok2 P.2.1
  obtain ⟨o2, o3⟩ := am_ok2 o2
  refine va_mmin_long hx hb (hml.trans P.1.1.symm) hown (hts _ (am_pok_w hi ho)) (hts _ am_w_p5s) (hts _ am_w_math) (hts _ am_w_p5c) hf1 (am_rest hS (by omega)) (by have := P.2.2.2.2.2.1; have := hr.1; omega) (by have := P.2.2.2.2.2.2.1; have := hr.2; omega) hd ?_
  have ee : (if Int64.ofInt y < Int64.ofInt x then Int64.ofInt y else Int64.ofInt x) = Int64.ofInt (am_min x y) := by
    unfold am_min
    by_cases q : y < x
    · rw [if_pos ((am_ltl o1 o2).mpr q), if_pos q]
    · rw [if_neg (fun z => q ((am_ltl o1 o2).mp z)), if_neg q]
  rw [ee]
  exact kk _ _ _ _ _ (P.st (am_ok1 (am_minl_in o2 o1) o3))
theorem sn_absl (F : am_fx p l e R s m args below meth c D cy b aS n0 tg i) {idx : Nat} {x : Int} (hd : decode (am_c i) pc = .ok (.invokestatic idx, 3)) (ho : am_pok i idx 6 = true) (hS : am_cw S ≤ 8) (hr : am_hr R n0 z0 h) (kk : am_Gd p l e R s m args below meth c Q D cy b aS n0 z0 tg i (pc + 3) L (.inr (.inl (am_absl x)) :: S) h) : am_Gd p l e R s m args below meth c Q D cy b aS n0 z0 tg i pc L (.inr (.inl x) :: S) h := by
  intro ls H locs cells slots P
  obtain ⟨hx, hb, hml, hown, hts, hK, hlocks, hrr, hname, hnst, hAO, hi, hf1, hf2, -⟩ := F
  obtain ⟨o1, o3⟩ := am_ok2 P.2.1
  refine va_mabs_long hx hb (hml.trans P.1.1.symm) hown (hts _ (am_pok_w hi ho)) (hts _ am_w_p6s) (hts _ am_w_math) (hts _ am_w_p6c) hf1 (am_rest hS (by omega)) (by have := P.2.2.2.2.2.1; have := hr.1; omega) (by have := P.2.2.2.2.2.2.1; have := hr.2; omega) hd ?_
  have ee : (if 0 < Int64.ofInt x then Int64.ofInt x else -Int64.ofInt x) = Int64.ofInt (am_absl x) := by
    unfold am_absl
    have l : (0 : Int64) < Int64.ofInt x ↔ 0 < x := am_ltl (x := 0) (by unfold am_inl; omega) o1
    by_cases q : x < 0
    · rw [if_neg (fun z => by have := l.mp z; omega), if_pos q, am_ofL_w, Int64.ofInt_neg]
    · rw [if_neg q, am_ofL_w]
      by_cases q2 : 0 < x
      · rw [if_pos (l.mpr q2)]
      · rw [if_neg (fun z => q2 (l.mp z)), show x = 0 by omega]; rfl
  rw [ee]
  exact kk _ _ _ _ _ (P.st (am_ok1 (am_wl_in _) o3))
theorem sn_objinit (F : am_fx p l e R s m args below meth c D cy b aS n0 tg i) {idx a : Nat} (hd : decode (am_c i) pc = .ok (.invokespecial idx, 3)) (ho : am_pok i idx 8 = true) (hS : am_cw S ≤ 8) (kk : am_Gd p l e R s m args below meth c Q D cy b aS n0 z0 tg i (pc + 3) L S h) : am_Gd p l e R s m args below meth c Q D cy b aS n0 z0 tg i pc L (.inr (.inr (.inl (some a))) :: S) h := by
  intro ls H locs cells slots P
  obtain ⟨hx, hb, hml, hown, hts, hK, hlocks, hrr, hname, hnst, hAO, hi, hf1, hf2, -⟩ := F
  obtain ⟨-, o3⟩ := am_ok2 P.2.1
  refine W.objInit hx hb hown (hts _ (am_pok_w hi ho)) (hts _ am_w_p8i) (hts _ am_w_p8c) rfl (P.1.1.trans hml.symm) rfl hd hf1 ?_ (kk _ _ _ _ _ (P.st o3))
  show 2 * 0 + _ + 12 ≤ _
  have := am_rest (b := b) (aS := aS) hS (k := 12) (n := R.locals) (by omega)
  omega
theorem sn_copy (F : am_fx p l e R s m args below meth c D cy b aS n0 tg i) {idx a a' : Nat} {sp dp n : Int} (hd : decode (am_c i) pc = .ok (.invokestatic idx, 3)) (ho : am_pok i idx 7 = true) (hS : am_cw S ≤ 8) (hk : am_kd h a = 13 ∧ am_kd h a' = 13 ∧ 0 ≤ sp ∧ 0 ≤ dp ∧ 0 ≤ n ∧ sp + n ≤ am_ln h a ∧ dp + n ≤ am_ln h a') (kk : am_Gd p l e R s m args below meth c Q D cy b aS n0 z0 tg i (pc + 3) L S (am_cp h a sp a' dp n)) : am_Gd p l e R s m args below meth c Q D cy b aS n0 z0 tg i pc L (.inl n :: .inl dp :: .inr (.inr (.inl (some a'))) :: .inl sp :: .inr (.inr (.inl (some a))) :: S) h := by
  intro ls H locs cells slots P
  obtain ⟨hx, hb, hml, hown, hts, hK, hlocks, hrr, hname, hnst, hAO, hi, hf1, hf2, -⟩ := F
  obtain ⟨q1, o⟩ := am_ok2 P.2.1
  obtain ⟨q2, o⟩ := am_ok2 o
  obtain ⟨-, o⟩ := am_ok2 o
  obtain ⟨q3, o⟩ := am_ok2 o
  obtain ⟨-, o3⟩ := am_ok2 o
  obtain ⟨k1, k2, k3, k4, k5, k6, k7⟩ := hk
  have l1 : a < h.1.2.length := am_kd_lt k1 (by omega)
  have l2 : a' < h.1.2.length := am_kd_lt k2 (by omega)
  have ng : ∀ {x : Int}, am_in x → 0 ≤ x → ¬ Int32.ofInt x < 0 := fun hx h0 z => by
    have := (am_lt0 (k := 0) hx (by unfold am_in; omega)).mp z; omega
  refine va_copyi (ty := .int) hx hb (hml.trans P.1.1.symm) hown (hts _ (am_pok_w hi ho)) (hts _ am_w_p7n) (hts _ am_w_p7s) (hts _ am_w_p7i) hK P.2.2.2.1 P.dj P.2.2.2.2.1 a a' 1 1 ((am_ws_get l1).trans (by rw [am_ce_int k1 (by omega)])) ((am_ws_get l2).trans (by rw [am_ce_int k2 (by omega)])) rfl rfl rfl (ng q3 k3) (ng q2 k4) (ng q1 k5) (by rw [am_clamp q3, am_clamp q1]; unfold am_ln at k6; omega) (by rw [am_clamp q2, am_clamp q1]; unfold am_ln at k7; omega) (fun _ _ => rfl) hf1 ?_ hd fun H1 locs1 p1 _ p3 => ?_
  · have := am_rest (b := b) (aS := aS) hS (k := nativeFrameWords "java/lang/System" "arraycopy" 5 + 11) (n := R.locals) (by
      have : nativeFrameWords "java/lang/System" "arraycopy" 5 + 11 + 8 ≤ 64 := by decide
      omega)
    omega
  · have e1 : (am_cp h a sp a' dp n).2.1 a' = fun j => if dp ≤ j ∧ j < dp + n then h.2.1 a (sp + (j - dp)) else h.2.1 a' j := by
      funext j
      show (if a' = a' ∧ dp ≤ j ∧ j < dp + n then _ else _) = _
      by_cases q : dp ≤ j ∧ j < dp + n
      · rw [if_pos ⟨rfl, q⟩, if_pos q]
      · rw [if_neg (fun z => q z.2), if_neg q]
    have hw := am_ws_set (cy := cy) (b := b) (aS := aS) (h := h) (h' := am_cp h a sp a' dp n) (a := a') rfl (fun q hq => by
      funext j
      show (if q = a' ∧ _ then _ else _) = _
      rw [if_neg (fun z => hq z.1)]) (fun _ _ => rfl) (fun _ _ => rfl) (e := Sum.inl (cy 13, (h.1.2.getD a' (99, 0)).2, Sum.inl (va_cpy (fun q : Nat => Int32.ofInt (h.2.1 a (q : Int))) (fun q : Nat => Int32.ofInt (h.2.1 a' (q : Int))) (Int32.ofInt sp).toNatClampNeg (Int32.ofInt dp).toNatClampNeg (Int32.ofInt n).toNatClampNeg))) (by
        rw [am_ce_int (h := am_cp h a sp a' dp n) k2 (by omega)]
        refine congrArg (fun z => (Sum.inl (cy 13, (h.1.2.getD a' (99, 0)).2, Sum.inl z) : va_E)) ?_
        funext q
        rw [e1, am_clamp q3, am_clamp q2, am_clamp q1]
        unfold va_cpy
        dsimp only
        by_cases z : dp ≤ (q : Int) ∧ (q : Int) < dp + n
        · rw [if_pos z, if_pos (by omega)]
          rw [show sp + ((q : Int) - dp) = ((sp.toNat + (q - dp.toNat) : Nat) : Int) by omega]
        · rw [if_neg z, if_neg (by omega)])
    have p1 : va_P D vwCl (am_ws cy b aS (am_cp h a sp a' dp n)) H1 := by
      rw [← hw]; exact p1
    refine kk _ _ _ _ _ (P.wr rfl o3 ⟨fun cc j => ?_, P.2.2.1.2⟩ p1 p3)
    show am_in (if cc = a' ∧ dp ≤ j ∧ j < dp + n then h.2.1 a (sp + (j - dp)) else h.2.1 cc j)
    split
    · exact P.2.2.1.1 _ _
    · exact P.2.2.1.1 _ _
end
