/-! every instruction: what stays so, and the machine -/
theorem am_pI_f {S : List am_V} {k : Int → List am_V → Prop} (h : am_pI False S k) : ∃ x S', S = .inl x :: S' ∧ k x S' := by
  unfold am_pI at h; split at h
  · exact ⟨_, _, rfl, h⟩
  · exact h.elim
theorem am_pL_f {S : List am_V} {k : Int → List am_V → Prop} (h : am_pL False S k) : ∃ x S', S = .inr (.inl x) :: S' ∧ k x S' := by
  unfold am_pL at h; split at h
  · exact ⟨_, _, rfl, h⟩
  · exact h.elim
theorem am_pR_f {S : List am_V} {k : Option Nat → List am_V → Prop} (h : am_pR False S k) : ∃ x S', S = .inr (.inr (.inl x)) :: S' ∧ k x S' := by
  unfold am_pR at h; split at h
  · exact ⟨_, _, rfl, h⟩
  · exact h.elim
theorem am_pS_f {S : List am_V} {k : Nat → List am_V → Prop} (h : am_pS False S k) : ∃ x S', S = .inr (.inr (.inr x)) :: S' ∧ k x S' := by
  unfold am_pS at h; split at h
  · exact ⟨_, _, rfl, h⟩
  · exact h.elim
theorem am_gI_f {r : Option am_V} {k : Int → Prop} (h : am_gI False r k) : ∃ x, r = some (.inl x) ∧ k x := by
  unfold am_gI at h; split at h
  · exact ⟨_, rfl, h⟩
  · exact h.elim
theorem am_gL_f {r : Option am_V} {k : Int → Prop} (h : am_gL False r k) : ∃ x, r = some (.inr (.inl x)) ∧ k x := by
  unfold am_gL at h; split at h
  · exact ⟨_, rfl, h⟩
  · exact h.elim
theorem am_gR_f {r : Option am_V} {k : Option Nat → Prop} (h : am_gR False r k) : ∃ x, r = some (.inr (.inr (.inl x))) ∧ k x := by
  unfold am_gR at h; split at h
  · exact ⟨_, rfl, h⟩
  · exact h.elim
theorem am_op_f {r : Option Nat} {k : Nat → Prop} (h : am_op False r k) : ∃ a, r = some a ∧ k a := by
  unfold am_op at h; split at h
  · exact ⟨_, rfl, h⟩
  · exact h.elim
theorem am_cond_f {c : Bool} {P : Prop} (h : bif c then P else False) : c = true ∧ P := by
  cases c
  · exact h.elim
  · exact ⟨rfl, h⟩
theorem am_rk_f {rk : Nat} {r : Option am_V} {k : List am_V → Prop} (h : am_rk False rk r k) : k r.toList := by
  unfold am_rk at h
  split at h
  · unfold am_gV at h; split at h
    · exact h
    · exact h.elim
  · obtain ⟨x, rfl, h⟩ := am_gI_f h; exact h
  · obtain ⟨x, rfl, h⟩ := am_gL_f h; exact h
  · obtain ⟨x, rfl, h⟩ := am_gR_f h; exact h
theorem am_sw_ex {x : Int} {d : Nat} {f : Nat → Prop} {ks : List Int} {ts : List Nat} (h : am_sw am_br x (f d) f ks ts) : ∃ t, f t := ⟨_, am_sw_tg ks ts h⟩
theorem am_sw_mono {x : Int} {d d' : Prop} {f f' : Nat → Prop} (hd : d → d') (hf : ∀ t, f t → f' t) : ∀ (ks : List Int) (ts : List Nat), am_sw am_br x d f ks ts → am_sw am_br x d' f' ks ts
  | [], _, h => by unfold am_sw at h ⊢; exact hd h
  | _ :: _, [], h => by unfold am_sw at h ⊢; exact hd h
  | k :: ks, t :: ts, h => by
    unfold am_sw at h ⊢
    exact ⟨fun e => hf _ (h.1 e), fun e => am_sw_mono hd hf ks ts (h.2 e)⟩
def am_okL (L : List (Option am_V)) : Prop := ∀ k v, am_lg L k = some v → am_okv v
theorem am_okL_s1 {L : List (Option am_V)} {k : Nat} {v : am_V} (hL : am_okL L) (hv : am_okv v) : am_okL (am_s1 L k v) := by
  intro j w hw
  unfold am_s1 at hw
  rcases am_lg_ls _ _ _ _ _ hw with ⟨_, e⟩ | ⟨_, e⟩
  · cases e; exact hv
  · exact hL _ _ (am_lg_kp _ _ _ _ e).1
theorem am_okL_s2 {L : List (Option am_V)} {k : Nat} {v : am_V} (hL : am_okL L) (hv : am_okv v) : am_okL (am_s2 L k v) := by
  intro j w hw
  unfold am_s2 at hw
  rcases am_lg_ls _ _ _ _ _ hw with ⟨_, e⟩ | ⟨_, e⟩
  · cases e
  · rcases am_lg_ls _ _ _ _ _ e with ⟨_, e'⟩ | ⟨_, e'⟩
    · cases e'; exact hv
    · exact hL _ _ (am_lg_kp _ _ _ _ e').1
/-- the heap only grows, and only while cells may be made -/
def am_gr (h h' : am_H) : Prop := h'.1.1 = h.1.1 ∧ h.1.2.length ≤ h'.1.2.length ∧ am_sz h.1.2 ≤ am_sz h'.1.2 ∧ (h.1.1 = false → h'.1 = h.1)
theorem am_gr_r {h : am_H} : am_gr h h := ⟨rfl, Nat.le_refl _, Nat.le_refl _, fun _ => rfl⟩
theorem am_gr_1 {h h' : am_H} (e : h'.1 = h.1 := by rfl) : am_gr h h' := ⟨by rw [e], by rw [e]; exact Nat.le_refl _, by rw [e]; exact Nat.le_refl _, fun _ => e⟩
theorem am_gr_n {h : am_H} {k n : Nat} (ht : h.1.1 = true) : am_gr h (am_nw h k n) := ⟨rfl, by simp [am_nw], by show am_sz h.1.2 ≤ am_sz (h.1.2 ++ _); rw [am_sz_app]; omega, fun z => by rw [ht] at z; cases z⟩
theorem am_gr_t {a b c : am_H} (h1 : am_gr a b) (h2 : am_gr b c) : am_gr a c :=
  ⟨h2.1.trans h1.1, Nat.le_trans h1.2.1 h2.2.1, Nat.le_trans h1.2.2.1 h2.2.2.1, fun z => (h2.2.2.2 (h1.1.trans z)).trans (h1.2.2.2 z)⟩
theorem am_hr_n {R : Room} {n0 z0 : Nat} {h : am_H} {k n : Nat} (hr : am_hr R n0 z0 (am_nw h k n)) : h.1.2.length + 1 ≤ R.cells + n0 ∧ am_sz h.1.2 + n ≤ R.slots + z0 := by
  obtain ⟨h1, h2⟩ := hr
  have e1 : (am_nw h k n).1.2.length = h.1.2.length + 1 := by simp [am_nw]
  have e2 : am_sz (am_nw h k n).1.2 = am_sz h.1.2 + n := by show am_sz (h.1.2 ++ [(k, n)]) = _; rw [am_sz_app]; simp [am_sz]
  omega
theorem am_okh_cp {h : am_H} {a a' : Nat} {sp dp n : Int} (hh : am_okh h) : am_okh (am_cp h a sp a' dp n) := by
  refine ⟨fun cc j => ?_, hh.2⟩
  show am_in (if cc = a' ∧ dp ≤ j ∧ j < dp + n then h.2.1 a (sp + (j - dp)) else h.2.1 cc j)
  split
  · exact hh.1 _ _
  · exact hh.1 _ _
theorem am_oke_d {i pc : Nat} {e : Instr} {len : Nat} {dn : List Nat} {di : List Int} (h : am_oke i pc (e, len, dn, di) = true) : decode (am_c i) pc = .ok (e, len) := by
  unfold am_oke at h
  simp only [Bool.and_eq_true, decide_eq_true_eq] at h
  exact h.1.1
theorem am_oke_x {i pc : Nat} {q : am_E} (h : am_oke i pc q = true) : am_okx i pc q = true := by
  unfold am_oke at h
  simp only [Bool.and_eq_true] at h
  exact h.2
theorem am_oke_l {i pc : Nat} {e : Instr} {len : Nat} {dn : List Nat} {di : List Int} (h : am_oke i pc (e, len, dn, di) = true) (hne : am_len e ≠ 0) : len = am_len e := by
  unfold am_oke at h
  simp only [Bool.and_eq_true, Bool.or_eq_true] at h
  rcases h.1.2 with q | q
  · exact (Nat.eq_of_beq_eq_true q).symm
  · exact absurd (Nat.eq_of_beq_eq_true q) hne
section
variable {len : Nat} {dn : List Nat} {di : List Int} {pc : Nat} {L : List (Option am_V)} {S : List am_V} {h : am_H} {nx : Nat → List (Option am_V) → List am_V → am_H → Prop} {rt : Option am_V → am_H → Prop} {cl : Nat → List am_V → (Option am_V → am_H → Prop) → Prop} {i : Nat}
theorem am_dup_f (st : am_st False am_gd am_br .dup len dn di pc L S h nx rt cl) : ∃ v S1, S = v :: S1 ∧ am_c1 v = true ∧ nx (pc + len) L (v :: v :: S1) h := by
  cases S with
  | nil => exact st.elim
  | cons v S1 => obtain ⟨g, st⟩ := am_cond_f st; exact ⟨v, S1, rfl, g, st⟩
theorem am_pop_f (st : am_st False am_gd am_br .pop len dn di pc L S h nx rt cl) : ∃ v S1, S = v :: S1 ∧ am_c1 v = true ∧ nx (pc + len) L S1 h := by
  cases S with
  | nil => exact st.elim
  | cons v S1 => obtain ⟨g, st⟩ := am_cond_f st; exact ⟨v, S1, rfl, g, st⟩
theorem am_dup2_f (st : am_st False am_gd am_br .dup2 len dn di pc L S h nx rt cl) : ∃ v w S1, S = v :: w :: S1 ∧ am_c1 v = true ∧ am_c1 w = true ∧ nx (pc + len) L (v :: w :: v :: w :: S1) h := by
  match S, st with
  | [], st => exact st.elim
  | [_], st => exact st.elim
  | v :: w :: S1, st =>
    replace st := am_cond_f st
    obtain ⟨g, st⟩ := st
    rw [Bool.and_eq_true] at g
    exact ⟨v, w, S1, rfl, g.1, g.2, st⟩
theorem am_getf_f {idx : Nat} (st : am_st False am_gd am_br (.getfield idx) len dn di pc L S h nx rt cl) : ∃ ci k ty dn2, dn = ci :: k :: ty :: dn2 ∧ am_pR False S fun r S => am_op False r fun a => am_kd h a = ci ∧ nx (pc + len) L (am_gf h a k ty :: S) h := by
  match dn, st with
  | ci :: k :: ty :: dn2, st => exact ⟨ci, k, ty, dn2, rfl, st⟩
  | [], st => exact st.elim
  | [_], st => exact st.elim
  | [_, _], st => exact st.elim
theorem am_fok_3 {idx : Nat} {put : Bool} (ho : am_fok i idx dn put = true) : ∃ ci k ty, dn = [ci, k, ty] := by
  unfold am_fok at ho
  split at ho
  · exact ⟨_, _, _, rfl⟩
  · cases ho
theorem am_fok_nil {idx ci k ty : Nat} {dn2 : List Nat} {put : Bool} (ho : am_fok i idx (ci :: k :: ty :: dn2) put = true) : dn2 = [] := by
  obtain ⟨a, b, c, e⟩ := am_fok_3 ho
  simp at e
  exact e.2.2.2
theorem am_fok_ty {idx ci k ty : Nat} (hi : i < 281) (ho : am_fok i idx [ci, k, ty + 4] true = true) : False := by
  obtain ⟨C, T, N, hv, hc, hkN, hl, hlN, hw, hp⟩ := am_fok_of hi ho
  obtain ⟨-, ft, -, q⟩ := hp rfl
  omega
theorem am_ldc_f {idx : Nat} (st : am_st False am_gd am_br (.ldc idx) len dn di pc L S h nx rt cl) : (∃ dn2, dn = 0 :: dn2 ∧ nx (pc + len) L (.inl (di.getD 0 0) :: S) h) ∨ ∃ z k dn2, dn = z :: k :: dn2 ∧ z ≠ 0 ∧ h.1.1 = true ∧ nx (pc + len) L (.inr (.inr (.inr k)) :: S) h := by
  match dn, st with
  | 0 :: dn2, st => exact Or.inl ⟨dn2, rfl, st⟩
  | (z + 1) :: k :: dn2, st => exact Or.inr ⟨z + 1, k, dn2, rfl, by omega, st.1, st.2⟩
  | [], st => exact st.elim
  | [_ + 1], st => exact st.elim
theorem am_ldcw_f {idx : Nat} (st : am_st False am_gd am_br (.ldc_w idx) len dn di pc L S h nx rt cl) : ∃ dn2, dn = 0 :: dn2 ∧ nx (pc + len) L (.inl (di.getD 0 0) :: S) h := by
  match dn, st with
  | 0 :: dn2, st => exact ⟨dn2, rfl, st⟩
  | (z + 1) :: dn2, st => exact st.elim
  | [], st => exact st.elim
theorem am_ldc_nil {idx : Nat} {dn2 : List Nat} (ho : am_okx i pc (.ldc idx, len, 0 :: dn2, di) = true) : dn2 = [] := by
  cases dn2 with
  | nil => rfl
  | cons a b => exact absurd ho (by simp [am_okx])
theorem am_ldcw_nil {idx : Nat} {dn2 : List Nat} (ho : am_okx i pc (.ldc_w idx, len, 0 :: dn2, di) = true) : dn2 = [] := by
  cases dn2 with
  | nil => rfl
  | cons a b => exact absurd ho (by simp [am_okx])
theorem am_ldc_str {idx z k : Nat} {dn2 : List Nat} (hz : z ≠ 0) (ho : am_okx i pc (.ldc idx, len, z :: k :: dn2, di) = true) : z = 1 ∧ k = 0 ∧ dn2 = [] ∧ am_k i = 8 ∧ idx = 28 := by
  unfold am_okx at ho
  dsimp only at ho
  split at ho
  · rename_i e; simp at e
  · rename_i e
    simp at e
    rw [Bool.and_eq_true] at ho
    exact ⟨e.1, e.2.1, e.2.2, Nat.eq_of_beq_eq_true ho.1, Nat.eq_of_beq_eq_true ho.2⟩
  · cases ho
theorem am_goto_x {off : Int} {x : List Nat} (ho : (match x with
    | [t] => decide ((pc : Int) + off = (t : Int))
    | _ => false) = true) : ∃ t, x = [t] ∧ (pc : Int) + off = (t : Int) := by
  split at ho
  · exact ⟨_, rfl, of_decide_eq_true ho⟩
  · cases ho
theorem am_nwa_x {t : ArrayType} {x : List Nat} (ho : (match x with
    | [k] => decide (k = am_atk t ∧ k ≠ 0)
    | _ => false) = true) : x.getD 0 0 = am_atk t ∧ x.getD 0 0 ≠ 0 := by
  split at ho
  · exact of_decide_eq_true ho
  · cases ho
theorem am_new_x {idx : Nat} {x : List Nat} (ho : (match x with
    | [ci, n] => am_nl.any (fun z => Nat.beq z.1 (am_k i) && Nat.beq z.2.1 idx && Nat.beq z.2.2.1 ci) && decide ((am_lay ci).length = n)
    | _ => false) = true) : ∃ ci n, x = [ci, n] ∧ am_nl.any (fun z => Nat.beq z.1 (am_k i) && Nat.beq z.2.1 idx && Nat.beq z.2.2.1 ci) = true ∧ (am_lay ci).length = n := by
  split at ho
  · rw [Bool.and_eq_true] at ho
    exact ⟨_, _, rfl, ho.1, of_decide_eq_true ho.2⟩
  · cases ho
theorem am_new_n {idx ci n : Nat} (h1 : am_nl.any (fun z => Nat.beq z.1 (am_k i) && Nat.beq z.2.1 idx && Nat.beq z.2.2.1 ci) = true) (h2 : (am_lay ci).length = n) : n ≤ 4096 := by
  obtain ⟨z, hz, hz2⟩ := am_any_nat h1
  simp only [Bool.and_eq_true] at hz2
  have e3 := Nat.eq_of_beq_eq_true hz2.2
  have key : ∀ z ∈ am_nl, (am_lay z.2.2.1).length ≤ 4096 := by decide +kernel
  have := key z hz
  rw [e3] at this
  omega
theorem am_tab_x {d lo hi : Int} {offs : Array Int} (ho : am_okx i pc (.tableswitch d lo hi offs, len, dn, di) = true) : (dn.map fun (t : Nat) => (t : Int)) = ((pc : Int) + d) :: (offs.toList.map fun o => (pc : Int) + o) ∧ di = (List.range offs.size).map (fun (n : Nat) => lo + (n : Int)) ∧ hi = lo + (offs.size : Int) - 1 := by
  have h : (decide ((dn.map fun (t : Nat) => (t : Int)) = ((pc : Int) + d) :: (offs.toList.map fun o => (pc : Int) + o)) && decide (di = (List.range offs.size).map fun (n : Nat) => lo + (n : Int)) && decide (hi = lo + (offs.size : Int) - 1)) = true := ho
  simp only [Bool.and_eq_true, decide_eq_true_eq] at h
  exact ⟨h.1.1, h.1.2, h.2⟩
theorem am_lok_x {d : Int} {ps : Array (Int × Int)} (ho : am_okx i pc (.lookupswitch d ps, len, dn, di) = true) : (dn.map fun (t : Nat) => (t : Int)) = ((pc : Int) + d) :: (ps.toList.map fun o => (pc : Int) + o.2) ∧ di = (ps.toList.map fun o => o.1) ∧ (ps.toList.zip (ps.toList.drop 1)).all (fun (a, next) => a.1 < next.1) = true := by
  have h : (decide ((dn.map fun (t : Nat) => (t : Int)) = ((pc : Int) + d) :: (ps.toList.map fun o => (pc : Int) + o.2)) && decide (di = ps.toList.map fun o => o.1) && (ps.toList.zip (ps.toList.drop 1)).all (fun (a, next) => a.1 < next.1)) = true := ho
  simp only [Bool.and_eq_true, decide_eq_true_eq] at h
  exact ⟨h.1.1, h.1.2, h.2⟩
theorem am_iret_f (st : am_st False am_gd am_br .ireturn len dn di pc L S h nx rt cl) : ∃ x, S = [.inl x] ∧ am_bv am_gd (dn.getD 0 0) x (rt (some (.inl x)) h) := by
  match S, st with
  | [.inl x], st => exact ⟨x, rfl, st⟩
  | [], st => exact st.elim
  | .inl _ :: _ :: _, st => exact st.elim
  | .inr (.inl _) :: _, st => exact st.elim
  | .inr (.inr (.inl _)) :: _, st => exact st.elim
  | .inr (.inr (.inr _)) :: _, st => exact st.elim
theorem am_bv_f {ty : Nat} {x : Int} {P : Prop} (st : am_bv am_gd ty x P) : (ty = 1 → x = 0 ∨ x = 1) ∧ P := by
  unfold am_bv at st
  split at st
  · exact ⟨fun _ => st.1, st.2⟩
  · rename_i hne; exact ⟨fun e => absurd e hne, st⟩
theorem am_iret_x {x : Int} (ho : am_okx i pc (.ireturn, len, dn, di) = true) (h1 : dn.getD 0 0 = 1 → x = 0 ∨ x = 1) : (am_r i = some .int) ∨ (am_r i = some .boolean ∧ (x = 0 ∨ x = 1)) := by
  unfold am_okx at ho
  dsimp only at ho
  split at ho
  · left; assumption
  · right
    refine ⟨by assumption, h1 ?_⟩
    rw [of_decide_eq_true ho]; rfl
  · cases ho
theorem am_lret_f (st : am_st False am_gd am_br .lreturn len dn di pc L S h nx rt cl) : ∃ x, S = [.inr (.inl x)] ∧ rt (some (.inr (.inl x))) h := by
  match S, st with
  | [.inr (.inl x)], st => exact ⟨x, rfl, st⟩
  | [], st => exact st.elim
  | .inr (.inl _) :: _ :: _, st => exact st.elim
  | .inl _ :: _, st => exact st.elim
  | .inr (.inr (.inl _)) :: _, st => exact st.elim
  | .inr (.inr (.inr _)) :: _, st => exact st.elim
theorem am_vret_f (st : am_st False am_gd am_br .return_ len dn di pc L S h nx rt cl) : S = [] ∧ rt none h := by
  match S, st with
  | [], st => exact ⟨rfl, st⟩
  | _ :: _, st => exact st.elim
theorem am_cw_app : ∀ (a b : List am_V), am_cw (a ++ b) = am_cw a + am_cw b
  | [], b => by simp [am_cw]
  | v :: a, b => by rw [List.cons_append, am_cw, am_cw, am_cw_app a b]; omega
theorem am_cw_rev : ∀ (a : List am_V), am_cw a.reverse = am_cw a
  | [] => rfl
  | v :: a => by rw [List.reverse_cons, am_cw_app, am_cw_rev a, am_cw, am_cw, am_cw]; omega
/-- a stack cut in two -/
theorem am_cut {n : Nat} {as : List am_V} {v : am_V} (hn : n ≤ S.length) (e : (S.take n).reverse = v :: as) : S = as.reverse ++ v :: S.drop n ∧ as.length + 1 = n ∧ am_cw (v :: as) = am_cw (S.take n) := by
  have e2 : S.take n = as.reverse ++ [v] := by
    have := congrArg List.reverse e
    simpa using this
  refine ⟨?_, ?_, ?_⟩
  · conv => lhs; rw [← List.take_append_drop n S, e2]
    simp
  · have := congrArg List.length e2
    simp at this
    omega
  · rw [e2, am_cw_app, am_cw_rev]
    simp [am_cw]; omega
theorem am_iv_f {idx : Nat} (st : am_st False am_gd am_br (.invokevirtual idx) len dn di pc L S h nx rt cl) :
    (∃ j n rk ci dn2 a as S1, dn = 0 :: j :: n :: rk :: ci :: dn2 ∧ S = as.reverse ++ .inr (.inr (.inl (some a))) :: S1 ∧ as.length + 1 = n ∧ am_cw S1 ≤ 8 ∧ am_cw (.inr (.inr (.inl (some a))) :: as) ≤ am_mx j ∧ am_kd h a = ci ∧ cl j (.inr (.inr (.inl (some a))) :: as) (fun r h' => am_rk False rk r fun vs => nx (pc + len) L (vs ++ S1) h')) ∨
    (∃ k S1 dn2, dn = 9 :: dn2 ∧ S = .inr (.inr (.inr k)) :: S1 ∧ h.1.1 = true ∧ am_cw S1 ≤ 8 ∧ nx (pc + len) L (.inl (am_str.length : Int) :: S1) h) ∨
    (∃ q k S1 dn2, dn = 10 :: dn2 ∧ S = .inl q :: .inr (.inr (.inr k)) :: S1 ∧ (h.1.1 = true ∧ 0 ≤ q ∧ q < am_str.length) ∧ am_cw S1 ≤ 8 ∧ nx (pc + len) L (.inl (am_str.getD q.toNat 0 : Nat) :: S1) h) := by
  unfold am_st at st
  dsimp only at st
  split at st
  · split at st
    · rename_i heq
      replace st := am_op_f st
      obtain ⟨a, rfl, g, st⟩ := st
      replace st := am_cond_f st
      obtain ⟨g2, st⟩ := st
      simp only [Bool.and_eq_true] at g2
      obtain ⟨⟨c1, c2⟩, c3⟩ := g2
      obtain ⟨e1, e2, e3⟩ := am_cut (Nat.le_of_ble_eq_true c3) heq
      exact Or.inl ⟨_, _, _, _, _, a, _, _, rfl, e1, e2, Nat.le_of_ble_eq_true c1, by rw [e3]; exact Nat.le_of_ble_eq_true c2, g, st⟩
    · exact st.elim
  · replace st := am_pS_f st
    obtain ⟨k, S1, rfl, g, st⟩ := st
    replace st := am_cond_f st
    obtain ⟨g2, st⟩ := st
    exact Or.inr (Or.inl ⟨k, S1, _, rfl, rfl, g, Nat.le_of_ble_eq_true g2, st⟩)
  · replace st := am_pI_f st
    obtain ⟨q, S0, rfl, st⟩ := st
    replace st := am_pS_f st
    obtain ⟨k, S1, rfl, g, st⟩ := st
    replace st := am_cond_f st
    obtain ⟨g2, st⟩ := st
    exact Or.inr (Or.inr ⟨q, k, S1, _, rfl, rfl, g, Nat.le_of_ble_eq_true g2, st⟩)
  · exact st.elim
theorem am_is_f {idx : Nat} (st : am_st False am_gd am_br (.invokespecial idx) len dn di pc L S h nx rt cl) :
    (∃ j n rk dn2 a as S1, dn = 0 :: j :: n :: rk :: dn2 ∧ S = as.reverse ++ .inr (.inr (.inl (some a))) :: S1 ∧ as.length + 1 = n ∧ am_cw S1 ≤ 8 ∧ am_cw (.inr (.inr (.inl (some a))) :: as) ≤ am_mx j ∧ cl j (.inr (.inr (.inl (some a))) :: as) (fun r h' => am_rk False rk r fun vs => nx (pc + len) L (vs ++ S1) h')) ∨
    (∃ a S1 dn2, dn = 8 :: dn2 ∧ S = .inr (.inr (.inl (some a))) :: S1 ∧ am_cw S1 ≤ 8 ∧ nx (pc + len) L S1 h) := by
  unfold am_st at st
  dsimp only at st
  split at st
  · split at st
    · rename_i heq
      replace st := am_op_f st
      obtain ⟨a, rfl, st⟩ := st
      replace st := am_cond_f st
      obtain ⟨g2, st⟩ := st
      simp only [Bool.and_eq_true] at g2
      obtain ⟨⟨c1, c2⟩, c3⟩ := g2
      obtain ⟨e1, e2, e3⟩ := am_cut (Nat.le_of_ble_eq_true c3) heq
      exact Or.inl ⟨_, _, _, _, a, _, _, rfl, e1, e2, Nat.le_of_ble_eq_true c1, by rw [e3]; exact Nat.le_of_ble_eq_true c2, st⟩
    · exact st.elim
  · replace st := am_pR_f st
    obtain ⟨r, S1, rfl, st⟩ := st
    replace st := am_op_f st
    obtain ⟨a, rfl, st⟩ := st
    replace st := am_cond_f st
    obtain ⟨g2, st⟩ := st
    exact Or.inr ⟨a, S1, _, rfl, rfl, Nat.le_of_ble_eq_true g2, st⟩
  · exact st.elim
theorem am_ic_f {idx : Nat} (st : am_st False am_gd am_br (.invokestatic idx) len dn di pc L S h nx rt cl) :
    (∃ j n rk dn2 as S1, dn = 0 :: j :: n :: rk :: dn2 ∧ S = as.reverse ++ S1 ∧ as.length = n ∧ am_cw S1 ≤ 8 ∧ am_cw as ≤ am_mx j ∧ cl j as (fun r h' => am_rk False rk r fun vs => nx (pc + len) L (vs ++ S1) h')) ∨
    (∃ k dn2, dn = k :: dn2 ∧ am_st False am_gd am_br (.invokestatic idx) len (k :: dn2) di pc L S h nx rt (fun _ _ _ => False)) := by
  by_cases hz : ∃ j n rk dn2, dn = 0 :: j :: n :: rk :: dn2
  · obtain ⟨j, n, rk, dn2, rfl⟩ := hz
    replace st := am_cond_f st
    obtain ⟨g2, st⟩ := st
    simp only [Bool.and_eq_true] at g2
    obtain ⟨⟨c1, c2⟩, c3⟩ := g2
    refine Or.inl ⟨j, n, rk, dn2, (S.take n).reverse, S.drop n, rfl, ?_, ?_, Nat.le_of_ble_eq_true c1, by rw [am_cw_rev]; exact Nat.le_of_ble_eq_true c2, st⟩
    · simp
    · have := Nat.le_of_ble_eq_true c3
      simp; omega
  · right
    cases dn with
    | nil => exact st.elim
    | cons k dn2 =>
      refine ⟨k, dn2, rfl, ?_⟩
      unfold am_st at st ⊢
      dsimp only at st ⊢
      split at st
      · rename_i heq; exact absurd ⟨_, _, _, _, heq⟩ hz
      all_goals first | exact st | exact st.elim
end
theorem am_ic_0 {idx len pc : Nat} {dn2 : List Nat} {di : List Int} {L : List (Option am_V)} {S : List am_V} {h : am_H} {nx : Nat → List (Option am_V) → List am_V → am_H → Prop} {rt : Option am_V → am_H → Prop} (st : am_st False am_gd am_br (.invokestatic idx) len (0 :: dn2) di pc L S h nx rt (fun _ _ _ => False)) : False := by
  match dn2, st with
  | [], st => exact st
  | [_], st => exact st
  | [_, _], st => exact st
  | _ :: _ :: _ :: _, st => exact (am_cond_f st).2
theorem am_ok_rev {as : List am_V} {v : am_V} {S1 : List am_V} (h : ∀ w ∈ as.reverse ++ v :: S1, am_okv w) : ∀ w ∈ as, am_okv w := fun w hw => h w (by simp [hw])
theorem am_ok_rest {as : List am_V} {v : am_V} {S1 : List am_V} (h : ∀ w ∈ as.reverse ++ v :: S1, am_okv w) : ∀ w ∈ S1, am_okv w := fun w hw => h w (by simp [hw])
theorem am_ok_rev2 {as S1 : List am_V} (h : ∀ w ∈ as.reverse ++ S1, am_okv w) : ∀ w ∈ as, am_okv w := fun w hw => h w (by simp [hw])
theorem am_ok_rest2 {as S1 : List am_V} (h : ∀ w ∈ as.reverse ++ S1, am_okv w) : ∀ w ∈ S1, am_okv w := fun w hw => h w (by simp [hw])
theorem am_str_in (k : Nat) : am_in ((am_str.getD k 0 : Nat) : Int) := by
  have : am_str.getD k 0 ≤ 1000 := by
    rw [List.getD_eq_getElem?_getD]
    cases hq : am_str[k]? with
    | none => exact Nat.zero_le _
    | some q =>
      have key : ∀ q ∈ am_str, q ≤ 1000 := by decide +kernel
      exact key q (List.mem_of_getElem? hq)
  unfold am_in; omega
theorem am_cok_nil {i pc idx len j n rk ci : Nat} {dn2 : List Nat} {di : List Int} (ho : am_okx i pc (.invokevirtual idx, len, 0 :: j :: n :: rk :: ci :: dn2, di) = true) : dn2 = [] := by
  have h : am_cok i idx 0 (0 :: j :: n :: rk :: ci :: dn2) = true := ho
  cases dn2 with
  | nil => rfl
  | cons a b => cases h
theorem am_cok_nil2 {i idx kind j n rk : Nat} {dn2 : List Nat} (ho : am_cok i idx kind (0 :: j :: n :: rk :: dn2) = true) : ∃ ci, dn2 = [ci] := by
  match dn2, ho with
  | [ci], _ => exact ⟨ci, rfl⟩
  | [], ho => cases ho
  | _ :: _ :: _, ho => cases ho
theorem am_s9_x {i pc idx len : Nat} {dn2 : List Nat} {di : List Int} (ho : am_okx i pc (.invokevirtual idx, len, 9 :: dn2, di) = true) : i = 75 ∧ idx = 30 ∧ dn2 = [] := by
  cases dn2 with
  | nil =>
    have h : (Nat.beq i 75 && Nat.beq idx 30) = true := ho
    rw [Bool.and_eq_true] at h
    exact ⟨Nat.eq_of_beq_eq_true h.1, Nat.eq_of_beq_eq_true h.2, rfl⟩
  | cons a b => exact absurd ho (by simp [am_okx])
theorem am_s10_x {i pc idx len : Nat} {dn2 : List Nat} {di : List Int} (ho : am_okx i pc (.invokevirtual idx, len, 10 :: dn2, di) = true) : i = 75 ∧ idx = 36 ∧ dn2 = [] := by
  cases dn2 with
  | nil =>
    have h : (Nat.beq i 75 && Nat.beq idx 36) = true := ho
    rw [Bool.and_eq_true] at h
    exact ⟨Nat.eq_of_beq_eq_true h.1, Nat.eq_of_beq_eq_true h.2, rfl⟩
  | cons a b => exact absurd ho (by simp [am_okx])
theorem am_s8_x {i pc idx len : Nat} {dn2 : List Nat} {di : List Int} (ho : am_okx i pc (.invokespecial idx, len, 8 :: dn2, di) = true) : am_pok i idx 8 = true := by
  cases dn2 with
  | nil => exact ho
  | cons a b => exact absurd ho (by simp [am_okx])
theorem am_p_x {i pc idx len k : Nat} {dn2 : List Nat} {di : List Int} (ho : am_okx i pc (.invokestatic idx, len, (k + 1) :: dn2, di) = true) : am_pok i idx (k + 1) = true := by
  cases dn2 with
  | nil =>
    have h : (decide (0 < k + 1 ∧ k + 1 < 8) && am_pok i idx (k + 1)) = true := ho
    rw [Bool.and_eq_true] at h
    exact h.2
  | cons a b => exact absurd ho (by simp [am_okx])
section
variable {p : Program} {l : Launch} {e : Env} {R : Room} {s : State} {m : MethodId} {args : Array Value} {below : List Frame} {meth : Method} {c : Code} {Q : State → Prop}
variable {D : va_G} {cy : Nat → ClassId} {b aS n0 z0 : Nat} {tg : Bool} {i : Nat} {pc : Nat} {L : List (Option am_V)} {S : List am_V} {h : am_H}
theorem am_vs {H : Heap} {locs : List Loc} (hS : va_S (am_A b n0 tg) s.heap H locs) : va_S (fun q => b ≤ q) s.heap H locs := ⟨hS.1, fun q h1 h2 => hS.2.1 q h1 (fun z => h2 z.1), fun q hq => (hS.2.2 q hq).1⟩
theorem sn_ldcS (F : am_fx p l e R s m args below meth c D cy b aS n0 tg i) (hi : am_k i = 8) (hd : decode (am_c i) pc = .ok (.ldc 28, 2)) (ht : h.1.1 = true) (kk : am_Gd p l e R s m args below meth c Q D cy b aS n0 z0 tg i (pc + 2) L (.inr (.inr (.inr 0)) :: S) h) : am_Gd p l e R s m args below meth c Q D cy b aS n0 z0 tg i pc L S h := by
  intro ls H locs cells slots P
  have htg : tg = true := P.2.2.2.2.2.2.2.1 ▸ ht
  have hsx := F.2.2.2.2.2.2.2.2.2.2.2.2.2.2.2 htg
  exact hsx.1 hi Q H locs cells slots pc ls (S.map (am_cv b aS)) (am_vs P.2.2.2.2.1) hd (kk _ _ _ _ _ (P.st (am_ok1 trivial P.2.1)))
theorem sn_strL (F : am_fx p l e R s m args below meth c D cy b aS n0 tg i) (hi : i = 75) {k : Nat} (hd : decode (am_c i) pc = .ok (.invokevirtual 30, 3)) (hw : am_cw S ≤ 8) (hr : am_hr R n0 z0 h) (ht : h.1.1 = true) (kk : am_Gd p l e R s m args below meth c Q D cy b aS n0 z0 tg i (pc + 3) L (.inl (am_str.length : Int) :: S) h) : am_Gd p l e R s m args below meth c Q D cy b aS n0 z0 tg i pc L (.inr (.inr (.inr k)) :: S) h := by
  intro ls H locs cells slots P
  have htg : tg = true := P.2.2.2.2.2.2.2.1 ▸ ht
  have hsx := F.2.2.2.2.2.2.2.2.2.2.2.2.2.2.2 htg
  subst hi
  exact (hsx.2 rfl Q H locs cells slots pc ls (S.map (am_cv b aS)) (am_vs P.2.2.2.2.1) P.1.1 (by rw [am_cat_sum]; exact hw) (by have := P.2.2.2.2.2.1; have := hr.1; omega) (by have := P.2.2.2.2.2.2.1; have := hr.2; omega)).1 hd (kk _ _ _ _ _ (P.st (am_ok1 (show am_in (am_str.length : Int) by unfold am_in; decide) (am_ok2 P.2.1).2)))
theorem sn_strC (F : am_fx p l e R s m args below meth c D cy b aS n0 tg i) (hi : i = 75) {k : Nat} {q : Int} (hd : decode (am_c i) pc = .ok (.invokevirtual 36, 3)) (hw : am_cw S ≤ 8) (hr : am_hr R n0 z0 h) (ht : h.1.1 = true ∧ 0 ≤ q ∧ q < am_str.length) (kk : am_Gd p l e R s m args below meth c Q D cy b aS n0 z0 tg i (pc + 3) L (.inl (am_str.getD q.toNat 0 : Nat) :: S) h) : am_Gd p l e R s m args below meth c Q D cy b aS n0 z0 tg i pc L (.inl q :: .inr (.inr (.inr k)) :: S) h := by
  intro ls H locs cells slots P
  have htg : tg = true := P.2.2.2.2.2.2.2.1 ▸ ht.1
  have hsx := F.2.2.2.2.2.2.2.2.2.2.2.2.2.2.2 htg
  subst hi
  have := (hsx.2 rfl Q H locs cells slots pc ls (S.map (am_cv b aS)) (am_vs P.2.2.2.2.1) P.1.1 (by rw [am_cat_sum]; exact hw) (by have := P.2.2.2.2.2.1; have := hr.1; omega) (by have := P.2.2.2.2.2.2.1; have := hr.2; omega)).2 q.toNat (by omega) hd (kk _ _ _ _ _ (P.st (am_ok1 (am_str_in _) (am_ok2 (am_ok2 P.2.1).2).2)))
  rw [show ((q.toNat : Nat) : Int) = q by omega] at this
  exact this
end

set_option maxHeartbeats 4000000 in
/-- what stays so over an instruction -/
theorem am_inv {C : Prop} {i : Nat} (hi : i < 281) (e : Instr) (len : Nat) (dn : List Nat) (di : List Int) {pc : Nat} {L : List (Option am_V)} {S : List am_V} {h : am_H} {nx : Nat → List (Option am_V) → List am_V → am_H → Prop} {rt : Option am_V → am_H → Prop} {cl : Nat → List am_V → (Option am_V → am_H → Prop) → Prop} (ho : am_oke i pc (e, len, dn, di) = true) (st : am_st False am_gd am_br e len dn di pc L S h nx rt cl) (hL : am_okL L) (hS : ∀ v ∈ S, am_okv v) (hh : am_okh h)
    (hnx : ∀ pc' L' S' h', nx pc' L' S' h' → am_gr h h' → am_okL L' → (∀ v ∈ S', am_okv v) → am_okh h' → C) (hrt : ∀ r, (∀ v, r = some v → am_okv v) → rt r h → C)
    (hcl : ∀ j as rk pc' S', (∀ v ∈ as, am_okv v) → (∀ v ∈ S', am_okv v) → am_cw as ≤ am_mx j → j < 281 → cl j as (fun r h' => am_rk False rk r fun vs => nx pc' L (vs ++ S') h') → C) : C := by
  cases e with
  | iconst n =>
    exact hnx _ _ _ _ st am_gr_r hL (am_ok1 (show am_in n by have := am_oke_x ho; unfold am_in; exact ⟨by have := of_decide_eq_true this; omega, by have := of_decide_eq_true this; omega⟩) hS) hh
  | bipush n =>
    exact hnx _ _ _ _ st am_gr_r hL (am_ok1 (show am_in n by have := of_decide_eq_true (am_oke_x ho); unfold am_in; omega) hS) hh
  | sipush n =>
    exact hnx _ _ _ _ st am_gr_r hL (am_ok1 (show am_in n by have := of_decide_eq_true (am_oke_x ho); unfold am_in; omega) hS) hh
  | lconst n =>
    exact hnx _ _ _ _ st am_gr_r hL (am_ok1 (show am_inl (n.val : Int) by unfold am_inl; omega) hS) hh
  | ldc idx =>
    replace st := am_ldc_f st
    rcases st with ⟨dn2, rfl, st⟩ | ⟨z, k, dn2, rfl, hz, g, st⟩
    · obtain rfl := am_ldc_nil (am_oke_x ho)
      exact hnx _ _ _ _ st am_gr_r hL (am_ok1 (am_ci_w hi (am_oke_x ho)).1 hS) hh
    · exact hnx _ _ _ _ st am_gr_r hL (am_ok1 trivial hS) hh
  | ldc_w idx =>
    replace st := am_ldcw_f st
    obtain ⟨dn2, rfl, st⟩ := st
    obtain rfl := am_ldcw_nil (am_oke_x ho)
    exact hnx _ _ _ _ st am_gr_r hL (am_ok1 (am_ci_w hi (am_oke_x ho)).1 hS) hh
  | ldc2_w idx =>
    exact hnx _ _ _ _ st am_gr_r hL (am_ok1 (am_cl_w hi (am_oke_x ho)).1 hS) hh
  | iload q =>
    replace st := am_gI_f st
    obtain ⟨x, hx, st⟩ := st
    exact hnx _ _ _ _ st am_gr_r hL (am_ok1 (hL _ _ hx) hS) hh
  | iload_n q =>
    replace st := am_gI_f st
    obtain ⟨x, hx, st⟩ := st
    exact hnx _ _ _ _ st am_gr_r hL (am_ok1 (hL _ _ hx) hS) hh
  | lload q =>
    replace st := am_gL_f st
    obtain ⟨x, hx, st⟩ := st
    exact hnx _ _ _ _ st am_gr_r hL (am_ok1 (hL _ _ hx) hS) hh
  | lload_n q =>
    replace st := am_gL_f st
    obtain ⟨x, hx, st⟩ := st
    exact hnx _ _ _ _ st am_gr_r hL (am_ok1 (hL _ _ hx) hS) hh
  | aload q =>
    replace st := am_gR_f st
    obtain ⟨x, hx, st⟩ := st
    exact hnx _ _ _ _ st am_gr_r hL (am_ok1 (hL _ _ hx) hS) hh
  | aload_n q =>
    replace st := am_gR_f st
    obtain ⟨x, hx, st⟩ := st
    exact hnx _ _ _ _ st am_gr_r hL (am_ok1 (hL _ _ hx) hS) hh
  | istore q =>
    replace st := am_pI_f st
    obtain ⟨x, S1, rfl, st⟩ := st
    obtain ⟨o1, o2⟩ := am_ok2 hS
    exact hnx _ _ _ _ st am_gr_r (am_okL_s1 hL o1) o2 hh
  | istore_n q =>
    replace st := am_pI_f st
    obtain ⟨x, S1, rfl, st⟩ := st
    obtain ⟨o1, o2⟩ := am_ok2 hS
    exact hnx _ _ _ _ st am_gr_r (am_okL_s1 hL o1) o2 hh
  | astore q =>
    replace st := am_pR_f st
    obtain ⟨x, S1, rfl, st⟩ := st
    obtain ⟨o1, o2⟩ := am_ok2 hS
    exact hnx _ _ _ _ st am_gr_r (am_okL_s1 hL o1) o2 hh
  | astore_n q =>
    replace st := am_pR_f st
    obtain ⟨x, S1, rfl, st⟩ := st
    obtain ⟨o1, o2⟩ := am_ok2 hS
    exact hnx _ _ _ _ st am_gr_r (am_okL_s1 hL o1) o2 hh
  | lstore q =>
    replace st := am_pL_f st
    obtain ⟨x, S1, rfl, st⟩ := st
    obtain ⟨o1, o2⟩ := am_ok2 hS
    exact hnx _ _ _ _ st am_gr_r (am_okL_s2 hL o1) o2 hh
  | lstore_n q =>
    replace st := am_pL_f st
    obtain ⟨x, S1, rfl, st⟩ := st
    obtain ⟨o1, o2⟩ := am_ok2 hS
    exact hnx _ _ _ _ st am_gr_r (am_okL_s2 hL o1) o2 hh
  | iinc q n =>
    replace st := am_gI_f st
    obtain ⟨x, hx, st⟩ := st
    exact hnx _ _ _ _ st am_gr_r (am_okL_s1 hL (am_w_in _)) hS hh
  | iadd =>
    replace st := am_pI_f st
    obtain ⟨y, S1, rfl, st⟩ := st
    replace st := am_pI_f st
    obtain ⟨x, S2, rfl, st⟩ := st
    obtain ⟨o1, o2⟩ := am_ok2 hS
    obtain ⟨o2, o3⟩ := am_ok2 o2
    exact hnx _ _ _ _ st am_gr_r hL (am_ok1 (am_w_in _) o3) hh
  | isub =>
    replace st := am_pI_f st
    obtain ⟨y, S1, rfl, st⟩ := st
    replace st := am_pI_f st
    obtain ⟨x, S2, rfl, st⟩ := st
    obtain ⟨o1, o2⟩ := am_ok2 hS
    obtain ⟨o2, o3⟩ := am_ok2 o2
    exact hnx _ _ _ _ st am_gr_r hL (am_ok1 (am_w_in _) o3) hh
  | imul =>
    replace st := am_pI_f st
    obtain ⟨y, S1, rfl, st⟩ := st
    replace st := am_pI_f st
    obtain ⟨x, S2, rfl, st⟩ := st
    obtain ⟨o1, o2⟩ := am_ok2 hS
    obtain ⟨o2, o3⟩ := am_ok2 o2
    exact hnx _ _ _ _ st am_gr_r hL (am_ok1 (am_w_in _) o3) hh
  | iand =>
    replace st := am_pI_f st
    obtain ⟨y, S1, rfl, st⟩ := st
    replace st := am_pI_f st
    obtain ⟨x, S2, rfl, st⟩ := st
    obtain ⟨o1, o2⟩ := am_ok2 hS
    obtain ⟨o2, o3⟩ := am_ok2 o2
    exact hnx _ _ _ _ st am_gr_r hL (am_ok1 (am_I_in _) o3) hh
  | ior =>
    replace st := am_pI_f st
    obtain ⟨y, S1, rfl, st⟩ := st
    replace st := am_pI_f st
    obtain ⟨x, S2, rfl, st⟩ := st
    obtain ⟨o1, o2⟩ := am_ok2 hS
    obtain ⟨o2, o3⟩ := am_ok2 o2
    exact hnx _ _ _ _ st am_gr_r hL (am_ok1 (am_I_in _) o3) hh
  | ishl =>
    replace st := am_pI_f st
    obtain ⟨y, S1, rfl, st⟩ := st
    replace st := am_pI_f st
    obtain ⟨x, S2, rfl, st⟩ := st
    obtain ⟨o1, o2⟩ := am_ok2 hS
    obtain ⟨o2, o3⟩ := am_ok2 o2
    exact hnx _ _ _ _ st am_gr_r hL (am_ok1 (am_I_in _) o3) hh
  | ishr =>
    replace st := am_pI_f st
    obtain ⟨y, S1, rfl, st⟩ := st
    replace st := am_pI_f st
    obtain ⟨x, S2, rfl, st⟩ := st
    obtain ⟨o1, o2⟩ := am_ok2 hS
    obtain ⟨o2, o3⟩ := am_ok2 o2
    exact hnx _ _ _ _ st am_gr_r hL (am_ok1 (am_I_in _) o3) hh
  | ladd =>
    replace st := am_pL_f st
    obtain ⟨y, S1, rfl, st⟩ := st
    replace st := am_pL_f st
    obtain ⟨x, S2, rfl, st⟩ := st
    obtain ⟨o1, o2⟩ := am_ok2 hS
    obtain ⟨o2, o3⟩ := am_ok2 o2
    exact hnx _ _ _ _ st am_gr_r hL (am_ok1 (am_wl_in _) o3) hh
  | lsub =>
    replace st := am_pL_f st
    obtain ⟨y, S1, rfl, st⟩ := st
    replace st := am_pL_f st
    obtain ⟨x, S2, rfl, st⟩ := st
    obtain ⟨o1, o2⟩ := am_ok2 hS
    obtain ⟨o2, o3⟩ := am_ok2 o2
    exact hnx _ _ _ _ st am_gr_r hL (am_ok1 (am_wl_in _) o3) hh
  | lmul =>
    replace st := am_pL_f st
    obtain ⟨y, S1, rfl, st⟩ := st
    replace st := am_pL_f st
    obtain ⟨x, S2, rfl, st⟩ := st
    obtain ⟨o1, o2⟩ := am_ok2 hS
    obtain ⟨o2, o3⟩ := am_ok2 o2
    exact hnx _ _ _ _ st am_gr_r hL (am_ok1 (am_wl_in _) o3) hh
  | land =>
    replace st := am_pL_f st
    obtain ⟨y, S1, rfl, st⟩ := st
    replace st := am_pL_f st
    obtain ⟨x, S2, rfl, st⟩ := st
    obtain ⟨o1, o2⟩ := am_ok2 hS
    obtain ⟨o2, o3⟩ := am_ok2 o2
    exact hnx _ _ _ _ st am_gr_r hL (am_ok1 (am_L_in _) o3) hh
  | lcmp =>
    replace st := am_pL_f st
    obtain ⟨y, S1, rfl, st⟩ := st
    replace st := am_pL_f st
    obtain ⟨x, S2, rfl, st⟩ := st
    obtain ⟨o1, o2⟩ := am_ok2 hS
    obtain ⟨o2, o3⟩ := am_ok2 o2
    exact hnx _ _ _ _ st am_gr_r hL (am_ok1 (am_cmp_in _ _) o3) hh
  | idiv =>
    replace st := am_pI_f st
    obtain ⟨y, S1, rfl, st⟩ := st
    replace st := am_pI_f st
    obtain ⟨x, S2, rfl, st⟩ := st
    obtain ⟨o1, o2⟩ := am_ok2 hS
    obtain ⟨o2, o3⟩ := am_ok2 o2
    obtain ⟨g, st⟩ := st
    exact hnx _ _ _ _ st am_gr_r hL (am_ok1 (am_w_in _) o3) hh
  | irem =>
    replace st := am_pI_f st
    obtain ⟨y, S1, rfl, st⟩ := st
    replace st := am_pI_f st
    obtain ⟨x, S2, rfl, st⟩ := st
    obtain ⟨o1, o2⟩ := am_ok2 hS
    obtain ⟨o2, o3⟩ := am_ok2 o2
    obtain ⟨g, st⟩ := st
    exact hnx _ _ _ _ st am_gr_r hL (am_ok1 (am_tmod_in o2) o3) hh
  | ldiv =>
    replace st := am_pL_f st
    obtain ⟨y, S1, rfl, st⟩ := st
    replace st := am_pL_f st
    obtain ⟨x, S2, rfl, st⟩ := st
    obtain ⟨o1, o2⟩ := am_ok2 hS
    obtain ⟨o2, o3⟩ := am_ok2 o2
    obtain ⟨g, st⟩ := st
    exact hnx _ _ _ _ st am_gr_r hL (am_ok1 (am_wl_in _) o3) hh
  | lrem =>
    replace st := am_pL_f st
    obtain ⟨y, S1, rfl, st⟩ := st
    replace st := am_pL_f st
    obtain ⟨x, S2, rfl, st⟩ := st
    obtain ⟨o1, o2⟩ := am_ok2 hS
    obtain ⟨o2, o3⟩ := am_ok2 o2
    obtain ⟨g, st⟩ := st
    exact hnx _ _ _ _ st am_gr_r hL (am_ok1 (am_tmod_inl o2) o3) hh
  | ineg =>
    replace st := am_pI_f st
    obtain ⟨x, S1, rfl, st⟩ := st
    obtain ⟨o1, o3⟩ := am_ok2 hS
    exact hnx _ _ _ _ st am_gr_r hL (am_ok1 (am_w_in _) o3) hh
  | lneg =>
    replace st := am_pL_f st
    obtain ⟨x, S1, rfl, st⟩ := st
    obtain ⟨o1, o3⟩ := am_ok2 hS
    exact hnx _ _ _ _ st am_gr_r hL (am_ok1 (am_wl_in _) o3) hh
  | i2l =>
    replace st := am_pI_f st
    obtain ⟨x, S1, rfl, st⟩ := st
    obtain ⟨o1, o3⟩ := am_ok2 hS
    exact hnx _ _ _ _ st am_gr_r hL (am_ok1 (show am_inl x by have : am_in x := o1; unfold am_in at this; unfold am_inl; omega) o3) hh
  | l2i =>
    replace st := am_pL_f st
    obtain ⟨x, S1, rfl, st⟩ := st
    obtain ⟨o1, o3⟩ := am_ok2 hS
    exact hnx _ _ _ _ st am_gr_r hL (am_ok1 (am_w_in _) o3) hh
  | i2b =>
    replace st := am_pI_f st
    obtain ⟨x, S1, rfl, st⟩ := st
    obtain ⟨o1, o3⟩ := am_ok2 hS
    exact hnx _ _ _ _ st am_gr_r hL (am_ok1 (am_wb_in _) o3) hh
  | dup =>
    replace st := am_dup_f st
    obtain ⟨v, S1, rfl, g, st⟩ := st
    exact hnx _ _ _ _ st am_gr_r hL (am_ok1 (am_ok2 hS).1 hS) hh
  | pop =>
    replace st := am_pop_f st
    obtain ⟨v, S1, rfl, g, st⟩ := st
    exact hnx _ _ _ _ st am_gr_r hL (am_ok2 hS).2 hh
  | dup2 =>
    replace st := am_dup2_f st
    obtain ⟨v, w, S1, rfl, g1, g2, st⟩ := st
    have o1 := am_ok2 hS
    have o2 := am_ok2 o1.2
    exact hnx _ _ _ _ st am_gr_r hL (am_ok1 o1.1 (am_ok1 o2.1 hS)) hh
  | getfield idx =>
    replace st := am_getf_f st
    obtain ⟨ci, k, ty, dn2, rfl, st⟩ := st
    replace st := am_pR_f st
    obtain ⟨r, S1, rfl, st⟩ := st
    replace st := am_op_f st
    obtain ⟨a, rfl, g, st⟩ := st
    obtain ⟨-, o3⟩ := am_ok2 hS
    obtain rfl := am_fok_nil (am_oke_x ho)
    exact hnx _ _ _ _ st am_gr_r hL (am_ok1 (am_gf_ok hh) o3) hh
  | putfield idx =>
    obtain ⟨ci, k, ty, rfl⟩ := am_fok_3 (am_oke_x ho)
    revert ho st
    match ty with
    | 0 =>
      intro ho st
      replace st := am_pI_f st
      obtain ⟨v, S0, rfl, st⟩ := st
      replace st := am_pR_f st
      obtain ⟨r, S1, rfl, st⟩ := st
      replace st := am_op_f st
      obtain ⟨a, rfl, g, st⟩ := st
      obtain ⟨o0, o1⟩ := am_ok2 hS
      obtain ⟨-, o3⟩ := am_ok2 o1
      exact hnx _ _ _ _ st am_gr_1 hL o3 (am_okh_sI hh o0)
    | 1 =>
      intro ho st
      replace st := am_pI_f st
      obtain ⟨v, S0, rfl, st⟩ := st
      replace st := am_pR_f st
      obtain ⟨r, S1, rfl, st⟩ := st
      replace st := am_op_f st
      obtain ⟨a, rfl, g, g2, st⟩ := st
      obtain ⟨o0, o1⟩ := am_ok2 hS
      obtain ⟨-, o3⟩ := am_ok2 o1
      exact hnx _ _ _ _ st am_gr_1 hL o3 (am_okh_sI hh o0)
    | 2 =>
      intro ho st
      replace st := am_pL_f st
      obtain ⟨v, S0, rfl, st⟩ := st
      replace st := am_pR_f st
      obtain ⟨r, S1, rfl, st⟩ := st
      replace st := am_op_f st
      obtain ⟨a, rfl, g, st⟩ := st
      obtain ⟨o0, o1⟩ := am_ok2 hS
      obtain ⟨-, o3⟩ := am_ok2 o1
      exact hnx _ _ _ _ st am_gr_1 hL o3 (am_okh_sL hh o0)
    | 3 =>
      intro ho st
      replace st := am_pR_f st
      obtain ⟨v, S0, rfl, st⟩ := st
      replace st := am_pR_f st
      obtain ⟨r, S1, rfl, st⟩ := st
      replace st := am_op_f st
      obtain ⟨a, rfl, g, st⟩ := st
      obtain ⟨o0, o1⟩ := am_ok2 hS
      obtain ⟨-, o3⟩ := am_ok2 o1
      exact hnx _ _ _ _ st am_gr_1 hL o3 (am_okh_sR hh)
    | ty + 4 => intro ho st; exact (am_fok_ty hi (am_oke_x ho)).elim
  | iaload =>
    replace st := am_pI_f st
    obtain ⟨j, S1, rfl, st⟩ := st
    replace st := am_pR_f st
    obtain ⟨r, S2, rfl, st⟩ := st
    replace st := am_op_f st
    obtain ⟨a, rfl, g, st⟩ := st
    obtain ⟨o1, o2⟩ := am_ok2 hS
    obtain ⟨-, o3⟩ := am_ok2 o2
    exact hnx _ _ _ _ st am_gr_r hL (am_ok1 (hh.1 _ _) o3) hh
  | baload =>
    replace st := am_pI_f st
    obtain ⟨j, S1, rfl, st⟩ := st
    replace st := am_pR_f st
    obtain ⟨r, S2, rfl, st⟩ := st
    replace st := am_op_f st
    obtain ⟨a, rfl, g, st⟩ := st
    obtain ⟨o1, o2⟩ := am_ok2 hS
    obtain ⟨-, o3⟩ := am_ok2 o2
    exact hnx _ _ _ _ st am_gr_r hL (am_ok1 (hh.1 _ _) o3) hh
  | laload =>
    replace st := am_pI_f st
    obtain ⟨j, S1, rfl, st⟩ := st
    replace st := am_pR_f st
    obtain ⟨r, S2, rfl, st⟩ := st
    replace st := am_op_f st
    obtain ⟨a, rfl, g, st⟩ := st
    obtain ⟨o1, o2⟩ := am_ok2 hS
    obtain ⟨-, o3⟩ := am_ok2 o2
    exact hnx _ _ _ _ st am_gr_r hL (am_ok1 (hh.2.1 _ _) o3) hh
  | aaload =>
    replace st := am_pI_f st
    obtain ⟨j, S1, rfl, st⟩ := st
    replace st := am_pR_f st
    obtain ⟨r, S2, rfl, st⟩ := st
    replace st := am_op_f st
    obtain ⟨a, rfl, g, st⟩ := st
    obtain ⟨o1, o2⟩ := am_ok2 hS
    obtain ⟨-, o3⟩ := am_ok2 o2
    exact hnx _ _ _ _ st am_gr_r hL (am_ok1 trivial o3) hh
  | iastore =>
    replace st := am_pI_f st
    obtain ⟨v, S0, rfl, st⟩ := st
    replace st := am_pI_f st
    obtain ⟨j, S1, rfl, st⟩ := st
    replace st := am_pR_f st
    obtain ⟨r, S2, rfl, st⟩ := st
    replace st := am_op_f st
    obtain ⟨a, rfl, g, st⟩ := st
    obtain ⟨o0, o1⟩ := am_ok2 hS
    obtain ⟨o1, o2⟩ := am_ok2 o1
    obtain ⟨-, o3⟩ := am_ok2 o2
    exact hnx _ _ _ _ st am_gr_1 hL o3 (am_okh_sI hh o0)
  | lastore =>
    replace st := am_pL_f st
    obtain ⟨v, S0, rfl, st⟩ := st
    replace st := am_pI_f st
    obtain ⟨j, S1, rfl, st⟩ := st
    replace st := am_pR_f st
    obtain ⟨r, S2, rfl, st⟩ := st
    replace st := am_op_f st
    obtain ⟨a, rfl, g, st⟩ := st
    obtain ⟨o0, o1⟩ := am_ok2 hS
    obtain ⟨o1, o2⟩ := am_ok2 o1
    obtain ⟨-, o3⟩ := am_ok2 o2
    exact hnx _ _ _ _ st am_gr_1 hL o3 (am_okh_sL hh o0)
  | bastore =>
    rcases (of_decide_eq_true (am_oke_x ho) : dn = [12] ∨ dn = [15]) with rfl | rfl
    · replace st := am_pI_f st
      obtain ⟨v, S0, rfl, st⟩ := st
      replace st := am_pI_f st
      obtain ⟨j, S1, rfl, st⟩ := st
      replace st := am_pR_f st
      obtain ⟨r, S2, rfl, st⟩ := st
      replace st := am_op_f st
      obtain ⟨a, rfl, g, st⟩ := st
      obtain ⟨o0, o1⟩ := am_ok2 hS
      obtain ⟨o1, o2⟩ := am_ok2 o1
      obtain ⟨-, o3⟩ := am_ok2 o2
      exact hnx _ _ _ _ st am_gr_1 hL o3 (am_okh_sI hh (am_wb_in _))
    · replace st := am_pI_f st
      obtain ⟨v, S0, rfl, st⟩ := st
      replace st := am_pI_f st
      obtain ⟨j, S1, rfl, st⟩ := st
      replace st := am_pR_f st
      obtain ⟨r, S2, rfl, st⟩ := st
      replace st := am_op_f st
      obtain ⟨a, rfl, g, g2, st⟩ := st
      obtain ⟨o0, o1⟩ := am_ok2 hS
      obtain ⟨o1, o2⟩ := am_ok2 o1
      obtain ⟨-, o3⟩ := am_ok2 o2
      exact hnx _ _ _ _ st am_gr_1 hL o3 (am_okh_sI hh o0)
  | aastore =>
    replace st := am_pR_f st
    obtain ⟨v, S0, rfl, st⟩ := st
    replace st := am_pI_f st
    obtain ⟨j, S1, rfl, st⟩ := st
    replace st := am_pR_f st
    obtain ⟨r, S2, rfl, st⟩ := st
    replace st := am_op_f st
    obtain ⟨a, rfl, st⟩ := st
    replace st := am_op_f st
    obtain ⟨w, rfl, g, st⟩ := st
    obtain ⟨o0, o1⟩ := am_ok2 hS
    obtain ⟨o1, o2⟩ := am_ok2 o1
    obtain ⟨-, o3⟩ := am_ok2 o2
    exact hnx _ _ _ _ st am_gr_1 hL o3 (am_okh_sR hh)
  | arraylength =>
    replace st := am_pR_f st
    obtain ⟨r, S2, rfl, st⟩ := st
    replace st := am_op_f st
    obtain ⟨a, rfl, g, st⟩ := st
    obtain ⟨-, o3⟩ := am_ok2 hS
    exact hnx _ _ _ _ st am_gr_r hL (am_ok1 (am_ln_in hh a).1 o3) hh
  | newarray t =>
    replace st := am_pI_f st
    obtain ⟨n, S1, rfl, g, st⟩ := st
    obtain ⟨-, o3⟩ := am_ok2 hS
    exact hnx _ _ _ _ st (am_gr_n g.1) hL (am_ok1 trivial o3) (am_okh_nw hh (by omega))
  | anewarray idx =>
    replace st := am_pI_f st
    obtain ⟨n, S1, rfl, g, st⟩ := st
    obtain ⟨-, o3⟩ := am_ok2 hS
    exact hnx _ _ _ _ st (am_gr_n g.1) hL (am_ok1 trivial o3) (am_okh_nw hh (by omega))
  | new idx =>
    obtain ⟨ci, n, rfl, h1, h2⟩ := am_new_x (am_oke_x ho)
    obtain ⟨g, st⟩ := st
    exact hnx _ _ _ _ st (am_gr_n g) hL (am_ok1 trivial hS) (am_okh_nw hh (am_new_n h1 h2))
  | ifCond cd off =>
    obtain ⟨t, rfl, ht⟩ := am_goto_x (am_oke_x ho)
    cases cd
    case eq =>
      replace st := am_pI_f st
      obtain ⟨x, S1, rfl, st⟩ := st
      exact Classical.byCases (fun q => hnx _ _ _ _ (st.1 q) am_gr_r hL (am_ok2 hS).2 hh) (fun q => hnx _ _ _ _ (st.2 q) am_gr_r hL (am_ok2 hS).2 hh)
    case ne =>
      replace st := am_pI_f st
      obtain ⟨x, S1, rfl, st⟩ := st
      exact Classical.byCases (fun q => hnx _ _ _ _ (st.1 q) am_gr_r hL (am_ok2 hS).2 hh) (fun q => hnx _ _ _ _ (st.2 q) am_gr_r hL (am_ok2 hS).2 hh)
    case lt =>
      replace st := am_pI_f st
      obtain ⟨x, S1, rfl, st⟩ := st
      exact Classical.byCases (fun q => hnx _ _ _ _ (st.1 q) am_gr_r hL (am_ok2 hS).2 hh) (fun q => hnx _ _ _ _ (st.2 q) am_gr_r hL (am_ok2 hS).2 hh)
    case ge =>
      replace st := am_pI_f st
      obtain ⟨x, S1, rfl, st⟩ := st
      exact Classical.byCases (fun q => hnx _ _ _ _ (st.1 q) am_gr_r hL (am_ok2 hS).2 hh) (fun q => hnx _ _ _ _ (st.2 q) am_gr_r hL (am_ok2 hS).2 hh)
    case gt =>
      replace st := am_pI_f st
      obtain ⟨x, S1, rfl, st⟩ := st
      exact Classical.byCases (fun q => hnx _ _ _ _ (st.1 q) am_gr_r hL (am_ok2 hS).2 hh) (fun q => hnx _ _ _ _ (st.2 q) am_gr_r hL (am_ok2 hS).2 hh)
    case le =>
      replace st := am_pI_f st
      obtain ⟨x, S1, rfl, st⟩ := st
      exact Classical.byCases (fun q => hnx _ _ _ _ (st.1 q) am_gr_r hL (am_ok2 hS).2 hh) (fun q => hnx _ _ _ _ (st.2 q) am_gr_r hL (am_ok2 hS).2 hh)
  | if_icmp cd off =>
    obtain ⟨t, rfl, ht⟩ := am_goto_x (am_oke_x ho)
    cases cd
    case eq =>
      replace st := am_pI_f st
      obtain ⟨y, S0, rfl, st⟩ := st
      replace st := am_pI_f st
      obtain ⟨x, S1, rfl, st⟩ := st
      exact Classical.byCases (fun q => hnx _ _ _ _ (st.1 q) am_gr_r hL (am_ok2 (am_ok2 hS).2).2 hh) (fun q => hnx _ _ _ _ (st.2 q) am_gr_r hL (am_ok2 (am_ok2 hS).2).2 hh)
    case ne =>
      replace st := am_pI_f st
      obtain ⟨y, S0, rfl, st⟩ := st
      replace st := am_pI_f st
      obtain ⟨x, S1, rfl, st⟩ := st
      exact Classical.byCases (fun q => hnx _ _ _ _ (st.1 q) am_gr_r hL (am_ok2 (am_ok2 hS).2).2 hh) (fun q => hnx _ _ _ _ (st.2 q) am_gr_r hL (am_ok2 (am_ok2 hS).2).2 hh)
    case lt =>
      replace st := am_pI_f st
      obtain ⟨y, S0, rfl, st⟩ := st
      replace st := am_pI_f st
      obtain ⟨x, S1, rfl, st⟩ := st
      exact Classical.byCases (fun q => hnx _ _ _ _ (st.1 q) am_gr_r hL (am_ok2 (am_ok2 hS).2).2 hh) (fun q => hnx _ _ _ _ (st.2 q) am_gr_r hL (am_ok2 (am_ok2 hS).2).2 hh)
    case ge =>
      replace st := am_pI_f st
      obtain ⟨y, S0, rfl, st⟩ := st
      replace st := am_pI_f st
      obtain ⟨x, S1, rfl, st⟩ := st
      exact Classical.byCases (fun q => hnx _ _ _ _ (st.1 q) am_gr_r hL (am_ok2 (am_ok2 hS).2).2 hh) (fun q => hnx _ _ _ _ (st.2 q) am_gr_r hL (am_ok2 (am_ok2 hS).2).2 hh)
    case gt =>
      replace st := am_pI_f st
      obtain ⟨y, S0, rfl, st⟩ := st
      replace st := am_pI_f st
      obtain ⟨x, S1, rfl, st⟩ := st
      exact Classical.byCases (fun q => hnx _ _ _ _ (st.1 q) am_gr_r hL (am_ok2 (am_ok2 hS).2).2 hh) (fun q => hnx _ _ _ _ (st.2 q) am_gr_r hL (am_ok2 (am_ok2 hS).2).2 hh)
    case le =>
      replace st := am_pI_f st
      obtain ⟨y, S0, rfl, st⟩ := st
      replace st := am_pI_f st
      obtain ⟨x, S1, rfl, st⟩ := st
      exact Classical.byCases (fun q => hnx _ _ _ _ (st.1 q) am_gr_r hL (am_ok2 (am_ok2 hS).2).2 hh) (fun q => hnx _ _ _ _ (st.2 q) am_gr_r hL (am_ok2 (am_ok2 hS).2).2 hh)
  | goto off =>
    obtain ⟨t, rfl, ht⟩ := am_goto_x (am_oke_x ho)
    exact hnx _ _ _ _ st am_gr_r hL hS hh
  | tableswitch dd lo hi offs =>
    replace st := am_pI_f st
    obtain ⟨x, S1, rfl, st⟩ := st
    replace st := am_sw_ex (d := dn.getD 0 0) (f := fun t => nx t L S1 h) st
    obtain ⟨t, st⟩ := st
    exact hnx _ _ _ _ st am_gr_r hL (am_ok2 hS).2 hh
  | lookupswitch dd ps =>
    replace st := am_pI_f st
    obtain ⟨x, S1, rfl, st⟩ := st
    replace st := am_sw_ex (d := dn.getD 0 0) (f := fun t => nx t L S1 h) st
    obtain ⟨t, st⟩ := st
    exact hnx _ _ _ _ st am_gr_r hL (am_ok2 hS).2 hh
  | ireturn =>
    replace st := am_iret_f st
    obtain ⟨x, rfl, st⟩ := st
    exact hrt _ (fun v hv => by cases hv; exact (am_ok2 hS).1) (am_bv_f st).2
  | lreturn =>
    replace st := am_lret_f st
    obtain ⟨x, rfl, st⟩ := st
    exact hrt _ (fun v hv => by cases hv; exact (am_ok2 hS).1) st
  | return_ =>
    replace st := am_vret_f st
    obtain ⟨rfl, st⟩ := st
    exact hrt _ (fun v hv => by cases hv) st
  | invokevirtual idx =>
    replace st := am_iv_f st
    rcases st with ⟨j, n, rk, ci, dn2, a, as, S1, rfl, rfl, hl, hw, hm, g, st⟩ | ⟨k, S1, dn2, rfl, rfl, g, hw, st⟩ | ⟨q, k, S1, dn2, rfl, rfl, g, hw, st⟩
    · obtain rfl := am_cok_nil (am_oke_x ho)
      exact hcl _ _ _ _ _ (am_ok1 (show am_okv (vR (some a)) from trivial) (am_ok_rev hS)) (am_ok_rest hS) hm (am_cok_of (z0 := 0) hi (am_oke_x ho)).1 st
    · exact hnx _ _ _ _ st am_gr_r hL (am_ok1 (show am_in (am_str.length : Int) by unfold am_in; decide) (am_ok2 hS).2) hh
    · exact hnx _ _ _ _ st am_gr_r hL (am_ok1 (am_str_in _) (am_ok2 (am_ok2 hS).2).2) hh
  | invokespecial idx =>
    replace st := am_is_f st
    rcases st with ⟨j, n, rk, dn2, a, as, S1, rfl, rfl, hl, hw, hm, st⟩ | ⟨a, S1, dn2, rfl, rfl, hw, st⟩
    · obtain ⟨ci, rfl⟩ := am_cok_nil2 (am_oke_x ho)
      exact hcl _ _ _ _ _ (am_ok1 (show am_okv (vR (some a)) from trivial) (am_ok_rev hS)) (am_ok_rest hS) hm (am_cok_of (z0 := 0) hi (am_oke_x ho)).1 st
    · exact hnx _ _ _ _ st am_gr_r hL (am_ok2 hS).2 hh
  | invokestatic idx =>
    replace st := am_ic_f st
    rcases st with ⟨j, n, rk, dn2, as, S1, rfl, rfl, hl, hw, hm, st⟩ | ⟨k, dn2, rfl, st⟩
    · obtain ⟨ci, rfl⟩ := am_cok_nil2 (am_oke_x ho)
      exact hcl _ _ _ _ _ (am_ok_rev2 hS) (am_ok_rest2 hS) hm (am_cok_of (z0 := 0) hi (am_oke_x ho)).1 st
    · revert st
      match k with
      | 1 =>
        intro st
        replace st := am_pI_f st
        obtain ⟨y, S0, rfl, st⟩ := st
        replace st := am_pI_f st
        obtain ⟨x, S1, rfl, st⟩ := st
        replace st := am_cond_f st
        obtain ⟨hw, st⟩ := st
        obtain ⟨o1, o2⟩ := am_ok2 hS
        obtain ⟨o2, o3⟩ := am_ok2 o2
        exact hnx _ _ _ _ st am_gr_r hL (am_ok1 (am_max_in o2 o1) o3) hh
      | 2 =>
        intro st
        replace st := am_pI_f st
        obtain ⟨y, S0, rfl, st⟩ := st
        replace st := am_pI_f st
        obtain ⟨x, S1, rfl, st⟩ := st
        replace st := am_cond_f st
        obtain ⟨hw, st⟩ := st
        obtain ⟨o1, o2⟩ := am_ok2 hS
        obtain ⟨o2, o3⟩ := am_ok2 o2
        exact hnx _ _ _ _ st am_gr_r hL (am_ok1 (am_min_in o2 o1) o3) hh
      | 3 =>
        intro st
        replace st := am_pI_f st
        obtain ⟨x, S1, rfl, st⟩ := st
        replace st := am_cond_f st
        obtain ⟨hw, st⟩ := st
        exact hnx _ _ _ _ st am_gr_r hL (am_ok1 (am_w_in _) (am_ok2 hS).2) hh
      | 4 =>
        intro st
        replace st := am_pL_f st
        obtain ⟨y, S0, rfl, st⟩ := st
        replace st := am_pL_f st
        obtain ⟨x, S1, rfl, st⟩ := st
        replace st := am_cond_f st
        obtain ⟨hw, st⟩ := st
        obtain ⟨o1, o2⟩ := am_ok2 hS
        obtain ⟨o2, o3⟩ := am_ok2 o2
        exact hnx _ _ _ _ st am_gr_r hL (am_ok1 (am_maxl_in o2 o1) o3) hh
      | 5 =>
        intro st
        replace st := am_pL_f st
        obtain ⟨y, S0, rfl, st⟩ := st
        replace st := am_pL_f st
        obtain ⟨x, S1, rfl, st⟩ := st
        replace st := am_cond_f st
        obtain ⟨hw, st⟩ := st
        obtain ⟨o1, o2⟩ := am_ok2 hS
        obtain ⟨o2, o3⟩ := am_ok2 o2
        exact hnx _ _ _ _ st am_gr_r hL (am_ok1 (am_minl_in o2 o1) o3) hh
      | 6 =>
        intro st
        replace st := am_pL_f st
        obtain ⟨x, S1, rfl, st⟩ := st
        replace st := am_cond_f st
        obtain ⟨hw, st⟩ := st
        exact hnx _ _ _ _ st am_gr_r hL (am_ok1 (am_wl_in _) (am_ok2 hS).2) hh
      | 7 =>
        intro st
        replace st := am_pI_f st
        obtain ⟨n, S0, rfl, st⟩ := st
        replace st := am_pI_f st
        obtain ⟨dp, S1, rfl, st⟩ := st
        replace st := am_pR_f st
        obtain ⟨r2, S2, rfl, st⟩ := st
        replace st := am_pI_f st
        obtain ⟨sp, S3, rfl, st⟩ := st
        replace st := am_pR_f st
        obtain ⟨r1, S4, rfl, st⟩ := st
        replace st := am_op_f st
        obtain ⟨a, rfl, st⟩ := st
        replace st := am_op_f st
        obtain ⟨a', rfl, g, st⟩ := st
        replace st := am_cond_f st
        obtain ⟨hw, st⟩ := st
        exact hnx _ _ _ _ st am_gr_1 hL (am_ok2 (am_ok2 (am_ok2 (am_ok2 (am_ok2 hS).2).2).2).2).2 (am_okh_cp hh)
      | 0 => intro st; exact (am_ic_0 st).elim
      | k + 8 => intro st; exact st.elim
  | _ => exact st.elim
section
variable {p : Program} {l : Launch} {e0 : Env} {R : Room} {s : State} {m : MethodId} {args : Array Value} {below : List Frame} {meth : Method} {c : Code} {Q : State → Prop}
variable {D : va_G} {cy : Nat → ClassId} {b aS n0 z0 : Nat} {tg : Bool} {i : Nat} {X : State → Prop} {mc ms : Nat}
set_option maxHeartbeats 8000000 in
/-- an instruction of the abstract machine is one of the machine -/
theorem am_step (F : am_fx p l e0 R s m args below meth c D cy b aS n0 tg i) (hXb : ∀ (U : State) (g : JFrame) (mk : MethodId) (a : Array Value), X U → X (U.calling g mk a)) (hXt : tg = true → am_xt X b s) (e : Instr) (len : Nat) (dn : List Nat) (di : List Int) {pc : Nat} {L : List (Option am_V)} {S : List am_V} {h : am_H} {nx : Nat → List (Option am_V) → List am_V → am_H → Prop} {rt : Option am_V → am_H → Prop} {cl : Nat → List am_V → (Option am_V → am_H → Prop) → Prop} (ho : am_oke i pc (e, len, dn, di) = true) (st : am_st False am_gd am_br e len dn di pc L S h nx rt cl) (hL : am_okL L) (hS : ∀ v ∈ S, am_okv v) (hh : am_okh h)
    (hnx : ∀ pc' L' S' h', nx pc' L' S' h' → am_gr h h' → am_okL L' → (∀ v ∈ S', am_okv v) → am_okh h' → am_hr R n0 z0 h' ∧ am_Gd p l e0 R s m args below meth c Q D cy b aS n0 z0 tg i pc' L' S' h')
    (hrt : ∀ r, rt r h → ∃ (mcms : (mc + n0 = h.1.2.length ∧ ms + z0 = am_sz h.1.2)), Q = MQ below (am_Qc D cy b aS (am_A b n0 tg) r h) args s mc ms (am_A b n0 tg))
    (hcl : ∀ j as rk pc' S', (∀ v ∈ as, am_okv v) → (∀ v ∈ S', am_okv v) → am_cw as ≤ am_mx j → j < 281 → cl j as (fun r h' => am_rk False rk r fun vs => nx pc' L (vs ++ S') h') → ∃ (d : Nat) (r1 : Option am_V) (h1 : am_H), am_Ce l X D cy b aS tg R n0 z0 d j as h r1 h1 ∧ am_Gd p l e0 R s m args below meth c Q D cy b aS n0 z0 tg i pc' L (r1.toList ++ S') h1) : am_Gd p l e0 R s m args below meth c Q D cy b aS n0 z0 tg i pc L S h := by
  have hi : i < 281 := F.2.2.2.2.2.2.2.2.2.2.2.1
  have hd0 := am_oke_d ho
  cases e with
  | iconst n =>
    obtain rfl := am_oke_l ho (Nat.succ_ne_zero _)
    have hd := hd0
    exact sn_iconst F hd (of_decide_eq_true (am_oke_x ho)) (hnx _ _ _ _ st am_gr_r hL (am_ok1 (show am_in n by have := am_oke_x ho; unfold am_in; exact ⟨by have := of_decide_eq_true this; omega, by have := of_decide_eq_true this; omega⟩) hS) hh).2
  | bipush n =>
    obtain rfl := am_oke_l ho (Nat.succ_ne_zero _)
    have hd := hd0
    exact sn_bipush F hd (of_decide_eq_true (am_oke_x ho)) (hnx _ _ _ _ st am_gr_r hL (am_ok1 (show am_in n by have := of_decide_eq_true (am_oke_x ho); unfold am_in; omega) hS) hh).2
  | sipush n =>
    obtain rfl := am_oke_l ho (Nat.succ_ne_zero _)
    have hd := hd0
    exact sn_sipush F hd (of_decide_eq_true (am_oke_x ho)) (hnx _ _ _ _ st am_gr_r hL (am_ok1 (show am_in n by have := of_decide_eq_true (am_oke_x ho); unfold am_in; omega) hS) hh).2
  | lconst n =>
    obtain rfl := am_oke_l ho (Nat.succ_ne_zero _)
    have hd := hd0
    exact sn_lconst F hd (hnx _ _ _ _ st am_gr_r hL (am_ok1 (show am_inl (n.val : Int) by unfold am_inl; omega) hS) hh).2
  | ldc idx =>
    obtain rfl := am_oke_l ho (Nat.succ_ne_zero _)
    have hd := hd0
    replace st := am_ldc_f st
    rcases st with ⟨dn2, rfl, st⟩ | ⟨z, k, dn2, rfl, hz, g, st⟩
    · obtain rfl := am_ldc_nil (am_oke_x ho)
      exact sn_ldc F hd (am_oke_x ho) (hnx _ _ _ _ st am_gr_r hL (am_ok1 (am_ci_w hi (am_oke_x ho)).1 hS) hh).2
    · obtain ⟨rfl, rfl, rfl, h1, h2⟩ := am_ldc_str hz (am_oke_x ho)
      obtain rfl := h2
      exact sn_ldcS F h1 hd g (hnx _ _ _ _ st am_gr_r hL (am_ok1 trivial hS) hh).2
  | ldc_w idx =>
    obtain rfl := am_oke_l ho (Nat.succ_ne_zero _)
    have hd := hd0
    replace st := am_ldcw_f st
    obtain ⟨dn2, rfl, st⟩ := st
    obtain rfl := am_ldcw_nil (am_oke_x ho)
    exact sn_ldcw F hd (am_oke_x ho) (hnx _ _ _ _ st am_gr_r hL (am_ok1 (am_ci_w hi (am_oke_x ho)).1 hS) hh).2
  | ldc2_w idx =>
    obtain rfl := am_oke_l ho (Nat.succ_ne_zero _)
    have hd := hd0
    exact sn_ldc2 F hd (am_oke_x ho) (hnx _ _ _ _ st am_gr_r hL (am_ok1 (am_cl_w hi (am_oke_x ho)).1 hS) hh).2
  | iload q =>
    obtain rfl := am_oke_l ho (Nat.succ_ne_zero _)
    have hd := hd0
    replace st := am_gI_f st
    obtain ⟨x, hx, st⟩ := st
    exact sn_iload F hd hx (hnx _ _ _ _ st am_gr_r hL (am_ok1 (hL _ _ hx) hS) hh).2
  | iload_n q =>
    obtain rfl := am_oke_l ho (Nat.succ_ne_zero _)
    have hd := hd0
    replace st := am_gI_f st
    obtain ⟨x, hx, st⟩ := st
    exact sn_iload_n F hd hx (hnx _ _ _ _ st am_gr_r hL (am_ok1 (hL _ _ hx) hS) hh).2
  | lload q =>
    obtain rfl := am_oke_l ho (Nat.succ_ne_zero _)
    have hd := hd0
    replace st := am_gL_f st
    obtain ⟨x, hx, st⟩ := st
    exact sn_lload F hd hx (hnx _ _ _ _ st am_gr_r hL (am_ok1 (hL _ _ hx) hS) hh).2
  | lload_n q =>
    obtain rfl := am_oke_l ho (Nat.succ_ne_zero _)
    have hd := hd0
    replace st := am_gL_f st
    obtain ⟨x, hx, st⟩ := st
    exact sn_lload_n F hd hx (hnx _ _ _ _ st am_gr_r hL (am_ok1 (hL _ _ hx) hS) hh).2
  | aload q =>
    obtain rfl := am_oke_l ho (Nat.succ_ne_zero _)
    have hd := hd0
    replace st := am_gR_f st
    obtain ⟨x, hx, st⟩ := st
    exact sn_aload F hd hx (hnx _ _ _ _ st am_gr_r hL (am_ok1 (hL _ _ hx) hS) hh).2
  | aload_n q =>
    obtain rfl := am_oke_l ho (Nat.succ_ne_zero _)
    have hd := hd0
    replace st := am_gR_f st
    obtain ⟨x, hx, st⟩ := st
    exact sn_aload_n F hd hx (hnx _ _ _ _ st am_gr_r hL (am_ok1 (hL _ _ hx) hS) hh).2
  | istore q =>
    obtain rfl := am_oke_l ho (Nat.succ_ne_zero _)
    have hd := hd0
    replace st := am_pI_f st
    obtain ⟨x, S1, rfl, st⟩ := st
    obtain ⟨o1, o2⟩ := am_ok2 hS
    exact sn_istore F hd (of_decide_eq_true (am_oke_x ho)) (hnx _ _ _ _ st am_gr_r (am_okL_s1 hL o1) o2 hh).2
  | istore_n q =>
    obtain rfl := am_oke_l ho (Nat.succ_ne_zero _)
    have hd := hd0
    replace st := am_pI_f st
    obtain ⟨x, S1, rfl, st⟩ := st
    obtain ⟨o1, o2⟩ := am_ok2 hS
    exact sn_istore_n F hd (of_decide_eq_true (am_oke_x ho)) (hnx _ _ _ _ st am_gr_r (am_okL_s1 hL o1) o2 hh).2
  | astore q =>
    obtain rfl := am_oke_l ho (Nat.succ_ne_zero _)
    have hd := hd0
    replace st := am_pR_f st
    obtain ⟨x, S1, rfl, st⟩ := st
    obtain ⟨o1, o2⟩ := am_ok2 hS
    exact sn_astore F hd (of_decide_eq_true (am_oke_x ho)) (hnx _ _ _ _ st am_gr_r (am_okL_s1 hL o1) o2 hh).2
  | astore_n q =>
    obtain rfl := am_oke_l ho (Nat.succ_ne_zero _)
    have hd := hd0
    replace st := am_pR_f st
    obtain ⟨x, S1, rfl, st⟩ := st
    obtain ⟨o1, o2⟩ := am_ok2 hS
    exact sn_astore_n F hd (of_decide_eq_true (am_oke_x ho)) (hnx _ _ _ _ st am_gr_r (am_okL_s1 hL o1) o2 hh).2
  | lstore q =>
    obtain rfl := am_oke_l ho (Nat.succ_ne_zero _)
    have hd := hd0
    replace st := am_pL_f st
    obtain ⟨x, S1, rfl, st⟩ := st
    obtain ⟨o1, o2⟩ := am_ok2 hS
    exact sn_lstore F hd (of_decide_eq_true (am_oke_x ho)) (hnx _ _ _ _ st am_gr_r (am_okL_s2 hL o1) o2 hh).2
  | lstore_n q =>
    obtain rfl := am_oke_l ho (Nat.succ_ne_zero _)
    have hd := hd0
    replace st := am_pL_f st
    obtain ⟨x, S1, rfl, st⟩ := st
    obtain ⟨o1, o2⟩ := am_ok2 hS
    exact sn_lstore_n F hd (of_decide_eq_true (am_oke_x ho)) (hnx _ _ _ _ st am_gr_r (am_okL_s2 hL o1) o2 hh).2
  | iinc q n =>
    obtain rfl := am_oke_l ho (Nat.succ_ne_zero _)
    have hd := hd0
    replace st := am_gI_f st
    obtain ⟨x, hx, st⟩ := st
    exact sn_iinc F hd hx (hnx _ _ _ _ st am_gr_r (am_okL_s1 hL (am_w_in _)) hS hh).2
  | iadd =>
    obtain rfl := am_oke_l ho (Nat.succ_ne_zero _)
    have hd := hd0
    replace st := am_pI_f st
    obtain ⟨y, S1, rfl, st⟩ := st
    replace st := am_pI_f st
    obtain ⟨x, S2, rfl, st⟩ := st
    obtain ⟨o1, o2⟩ := am_ok2 hS
    obtain ⟨o2, o3⟩ := am_ok2 o2
    exact sn_iadd F hd (hnx _ _ _ _ st am_gr_r hL (am_ok1 (am_w_in _) o3) hh).2
  | isub =>
    obtain rfl := am_oke_l ho (Nat.succ_ne_zero _)
    have hd := hd0
    replace st := am_pI_f st
    obtain ⟨y, S1, rfl, st⟩ := st
    replace st := am_pI_f st
    obtain ⟨x, S2, rfl, st⟩ := st
    obtain ⟨o1, o2⟩ := am_ok2 hS
    obtain ⟨o2, o3⟩ := am_ok2 o2
    exact sn_isub F hd (hnx _ _ _ _ st am_gr_r hL (am_ok1 (am_w_in _) o3) hh).2
  | imul =>
    obtain rfl := am_oke_l ho (Nat.succ_ne_zero _)
    have hd := hd0
    replace st := am_pI_f st
    obtain ⟨y, S1, rfl, st⟩ := st
    replace st := am_pI_f st
    obtain ⟨x, S2, rfl, st⟩ := st
    obtain ⟨o1, o2⟩ := am_ok2 hS
    obtain ⟨o2, o3⟩ := am_ok2 o2
    exact sn_imul F hd (hnx _ _ _ _ st am_gr_r hL (am_ok1 (am_w_in _) o3) hh).2
  | iand =>
    obtain rfl := am_oke_l ho (Nat.succ_ne_zero _)
    have hd := hd0
    replace st := am_pI_f st
    obtain ⟨y, S1, rfl, st⟩ := st
    replace st := am_pI_f st
    obtain ⟨x, S2, rfl, st⟩ := st
    obtain ⟨o1, o2⟩ := am_ok2 hS
    obtain ⟨o2, o3⟩ := am_ok2 o2
    exact sn_iand F hd (hnx _ _ _ _ st am_gr_r hL (am_ok1 (am_I_in _) o3) hh).2
  | ior =>
    obtain rfl := am_oke_l ho (Nat.succ_ne_zero _)
    have hd := hd0
    replace st := am_pI_f st
    obtain ⟨y, S1, rfl, st⟩ := st
    replace st := am_pI_f st
    obtain ⟨x, S2, rfl, st⟩ := st
    obtain ⟨o1, o2⟩ := am_ok2 hS
    obtain ⟨o2, o3⟩ := am_ok2 o2
    exact sn_ior F hd (hnx _ _ _ _ st am_gr_r hL (am_ok1 (am_I_in _) o3) hh).2
  | ishl =>
    obtain rfl := am_oke_l ho (Nat.succ_ne_zero _)
    have hd := hd0
    replace st := am_pI_f st
    obtain ⟨y, S1, rfl, st⟩ := st
    replace st := am_pI_f st
    obtain ⟨x, S2, rfl, st⟩ := st
    obtain ⟨o1, o2⟩ := am_ok2 hS
    obtain ⟨o2, o3⟩ := am_ok2 o2
    exact sn_ishl F hd (hnx _ _ _ _ st am_gr_r hL (am_ok1 (am_I_in _) o3) hh).2
  | ishr =>
    obtain rfl := am_oke_l ho (Nat.succ_ne_zero _)
    have hd := hd0
    replace st := am_pI_f st
    obtain ⟨y, S1, rfl, st⟩ := st
    replace st := am_pI_f st
    obtain ⟨x, S2, rfl, st⟩ := st
    obtain ⟨o1, o2⟩ := am_ok2 hS
    obtain ⟨o2, o3⟩ := am_ok2 o2
    exact sn_ishr F hd (hnx _ _ _ _ st am_gr_r hL (am_ok1 (am_I_in _) o3) hh).2
  | ladd =>
    obtain rfl := am_oke_l ho (Nat.succ_ne_zero _)
    have hd := hd0
    replace st := am_pL_f st
    obtain ⟨y, S1, rfl, st⟩ := st
    replace st := am_pL_f st
    obtain ⟨x, S2, rfl, st⟩ := st
    obtain ⟨o1, o2⟩ := am_ok2 hS
    obtain ⟨o2, o3⟩ := am_ok2 o2
    exact sn_ladd F hd (hnx _ _ _ _ st am_gr_r hL (am_ok1 (am_wl_in _) o3) hh).2
  | lsub =>
    obtain rfl := am_oke_l ho (Nat.succ_ne_zero _)
    have hd := hd0
    replace st := am_pL_f st
    obtain ⟨y, S1, rfl, st⟩ := st
    replace st := am_pL_f st
    obtain ⟨x, S2, rfl, st⟩ := st
    obtain ⟨o1, o2⟩ := am_ok2 hS
    obtain ⟨o2, o3⟩ := am_ok2 o2
    exact sn_lsub F hd (hnx _ _ _ _ st am_gr_r hL (am_ok1 (am_wl_in _) o3) hh).2
  | lmul =>
    obtain rfl := am_oke_l ho (Nat.succ_ne_zero _)
    have hd := hd0
    replace st := am_pL_f st
    obtain ⟨y, S1, rfl, st⟩ := st
    replace st := am_pL_f st
    obtain ⟨x, S2, rfl, st⟩ := st
    obtain ⟨o1, o2⟩ := am_ok2 hS
    obtain ⟨o2, o3⟩ := am_ok2 o2
    exact sn_lmul F hd (hnx _ _ _ _ st am_gr_r hL (am_ok1 (am_wl_in _) o3) hh).2
  | land =>
    obtain rfl := am_oke_l ho (Nat.succ_ne_zero _)
    have hd := hd0
    replace st := am_pL_f st
    obtain ⟨y, S1, rfl, st⟩ := st
    replace st := am_pL_f st
    obtain ⟨x, S2, rfl, st⟩ := st
    obtain ⟨o1, o2⟩ := am_ok2 hS
    obtain ⟨o2, o3⟩ := am_ok2 o2
    exact sn_land F hd (hnx _ _ _ _ st am_gr_r hL (am_ok1 (am_L_in _) o3) hh).2
  | lcmp =>
    obtain rfl := am_oke_l ho (Nat.succ_ne_zero _)
    have hd := hd0
    replace st := am_pL_f st
    obtain ⟨y, S1, rfl, st⟩ := st
    replace st := am_pL_f st
    obtain ⟨x, S2, rfl, st⟩ := st
    obtain ⟨o1, o2⟩ := am_ok2 hS
    obtain ⟨o2, o3⟩ := am_ok2 o2
    exact sn_lcmp F hd (hnx _ _ _ _ st am_gr_r hL (am_ok1 (am_cmp_in _ _) o3) hh).2
  | idiv =>
    obtain rfl := am_oke_l ho (Nat.succ_ne_zero _)
    have hd := hd0
    replace st := am_pI_f st
    obtain ⟨y, S1, rfl, st⟩ := st
    replace st := am_pI_f st
    obtain ⟨x, S2, rfl, st⟩ := st
    obtain ⟨o1, o2⟩ := am_ok2 hS
    obtain ⟨o2, o3⟩ := am_ok2 o2
    obtain ⟨g, st⟩ := st
    exact sn_idiv F hd g (hnx _ _ _ _ st am_gr_r hL (am_ok1 (am_w_in _) o3) hh).2
  | irem =>
    obtain rfl := am_oke_l ho (Nat.succ_ne_zero _)
    have hd := hd0
    replace st := am_pI_f st
    obtain ⟨y, S1, rfl, st⟩ := st
    replace st := am_pI_f st
    obtain ⟨x, S2, rfl, st⟩ := st
    obtain ⟨o1, o2⟩ := am_ok2 hS
    obtain ⟨o2, o3⟩ := am_ok2 o2
    obtain ⟨g, st⟩ := st
    exact sn_irem F hd g (hnx _ _ _ _ st am_gr_r hL (am_ok1 (am_tmod_in o2) o3) hh).2
  | ldiv =>
    obtain rfl := am_oke_l ho (Nat.succ_ne_zero _)
    have hd := hd0
    replace st := am_pL_f st
    obtain ⟨y, S1, rfl, st⟩ := st
    replace st := am_pL_f st
    obtain ⟨x, S2, rfl, st⟩ := st
    obtain ⟨o1, o2⟩ := am_ok2 hS
    obtain ⟨o2, o3⟩ := am_ok2 o2
    obtain ⟨g, st⟩ := st
    exact sn_ldiv F hd g (hnx _ _ _ _ st am_gr_r hL (am_ok1 (am_wl_in _) o3) hh).2
  | lrem =>
    obtain rfl := am_oke_l ho (Nat.succ_ne_zero _)
    have hd := hd0
    replace st := am_pL_f st
    obtain ⟨y, S1, rfl, st⟩ := st
    replace st := am_pL_f st
    obtain ⟨x, S2, rfl, st⟩ := st
    obtain ⟨o1, o2⟩ := am_ok2 hS
    obtain ⟨o2, o3⟩ := am_ok2 o2
    obtain ⟨g, st⟩ := st
    exact sn_lrem F hd g (hnx _ _ _ _ st am_gr_r hL (am_ok1 (am_tmod_inl o2) o3) hh).2
  | ineg =>
    obtain rfl := am_oke_l ho (Nat.succ_ne_zero _)
    have hd := hd0
    replace st := am_pI_f st
    obtain ⟨x, S1, rfl, st⟩ := st
    obtain ⟨o1, o3⟩ := am_ok2 hS
    exact sn_ineg F hd (hnx _ _ _ _ st am_gr_r hL (am_ok1 (am_w_in _) o3) hh).2
  | lneg =>
    obtain rfl := am_oke_l ho (Nat.succ_ne_zero _)
    have hd := hd0
    replace st := am_pL_f st
    obtain ⟨x, S1, rfl, st⟩ := st
    obtain ⟨o1, o3⟩ := am_ok2 hS
    exact sn_lneg F hd (hnx _ _ _ _ st am_gr_r hL (am_ok1 (am_wl_in _) o3) hh).2
  | i2l =>
    obtain rfl := am_oke_l ho (Nat.succ_ne_zero _)
    have hd := hd0
    replace st := am_pI_f st
    obtain ⟨x, S1, rfl, st⟩ := st
    obtain ⟨o1, o3⟩ := am_ok2 hS
    exact sn_i2l F hd (hnx _ _ _ _ st am_gr_r hL (am_ok1 (show am_inl x by have : am_in x := o1; unfold am_in at this; unfold am_inl; omega) o3) hh).2
  | l2i =>
    obtain rfl := am_oke_l ho (Nat.succ_ne_zero _)
    have hd := hd0
    replace st := am_pL_f st
    obtain ⟨x, S1, rfl, st⟩ := st
    obtain ⟨o1, o3⟩ := am_ok2 hS
    exact sn_l2i F hd (hnx _ _ _ _ st am_gr_r hL (am_ok1 (am_w_in _) o3) hh).2
  | i2b =>
    obtain rfl := am_oke_l ho (Nat.succ_ne_zero _)
    have hd := hd0
    replace st := am_pI_f st
    obtain ⟨x, S1, rfl, st⟩ := st
    obtain ⟨o1, o3⟩ := am_ok2 hS
    exact sn_i2b F hd (hnx _ _ _ _ st am_gr_r hL (am_ok1 (am_wb_in _) o3) hh).2
  | dup =>
    obtain rfl := am_oke_l ho (Nat.succ_ne_zero _)
    have hd := hd0
    replace st := am_dup_f st
    obtain ⟨v, S1, rfl, g, st⟩ := st
    exact sn_dup F hd g (hnx _ _ _ _ st am_gr_r hL (am_ok1 (am_ok2 hS).1 hS) hh).2
  | pop =>
    obtain rfl := am_oke_l ho (Nat.succ_ne_zero _)
    have hd := hd0
    replace st := am_pop_f st
    obtain ⟨v, S1, rfl, g, st⟩ := st
    exact sn_pop F hd g (hnx _ _ _ _ st am_gr_r hL (am_ok2 hS).2 hh).2
  | dup2 =>
    obtain rfl := am_oke_l ho (Nat.succ_ne_zero _)
    have hd := hd0
    replace st := am_dup2_f st
    obtain ⟨v, w, S1, rfl, g1, g2, st⟩ := st
    have o1 := am_ok2 hS
    have o2 := am_ok2 o1.2
    exact sn_dup2 F hd g1 g2 (hnx _ _ _ _ st am_gr_r hL (am_ok1 o1.1 (am_ok1 o2.1 hS)) hh).2
  | getfield idx =>
    obtain rfl := am_oke_l ho (Nat.succ_ne_zero _)
    have hd := hd0
    replace st := am_getf_f st
    obtain ⟨ci, k, ty, dn2, rfl, st⟩ := st
    replace st := am_pR_f st
    obtain ⟨r, S1, rfl, st⟩ := st
    replace st := am_op_f st
    obtain ⟨a, rfl, g, st⟩ := st
    obtain ⟨-, o3⟩ := am_ok2 hS
    obtain rfl := am_fok_nil (am_oke_x ho)
    exact sn_getfield F hd (am_oke_x ho) g (hnx _ _ _ _ st am_gr_r hL (am_ok1 (am_gf_ok hh) o3) hh).2
  | putfield idx =>
    obtain rfl := am_oke_l ho (Nat.succ_ne_zero _)
    have hd := hd0
    obtain ⟨ci, k, ty, rfl⟩ := am_fok_3 (am_oke_x ho)
    revert ho st
    match ty with
    | 0 =>
      intro ho st
      replace st := am_pI_f st
      obtain ⟨v, S0, rfl, st⟩ := st
      replace st := am_pR_f st
      obtain ⟨r, S1, rfl, st⟩ := st
      replace st := am_op_f st
      obtain ⟨a, rfl, g, st⟩ := st
      obtain ⟨o0, o1⟩ := am_ok2 hS
      obtain ⟨-, o3⟩ := am_ok2 o1
      exact sn_putI F hd (am_oke_x ho) g (hnx _ _ _ _ st am_gr_1 hL o3 (am_okh_sI hh o0)).2
    | 1 =>
      intro ho st
      replace st := am_pI_f st
      obtain ⟨v, S0, rfl, st⟩ := st
      replace st := am_pR_f st
      obtain ⟨r, S1, rfl, st⟩ := st
      replace st := am_op_f st
      obtain ⟨a, rfl, g, g2, st⟩ := st
      obtain ⟨o0, o1⟩ := am_ok2 hS
      obtain ⟨-, o3⟩ := am_ok2 o1
      exact sn_putZ F hd (am_oke_x ho) g g2 (hnx _ _ _ _ st am_gr_1 hL o3 (am_okh_sI hh o0)).2
    | 2 =>
      intro ho st
      replace st := am_pL_f st
      obtain ⟨v, S0, rfl, st⟩ := st
      replace st := am_pR_f st
      obtain ⟨r, S1, rfl, st⟩ := st
      replace st := am_op_f st
      obtain ⟨a, rfl, g, st⟩ := st
      obtain ⟨o0, o1⟩ := am_ok2 hS
      obtain ⟨-, o3⟩ := am_ok2 o1
      exact sn_putL F hd (am_oke_x ho) g (hnx _ _ _ _ st am_gr_1 hL o3 (am_okh_sL hh o0)).2
    | 3 =>
      intro ho st
      replace st := am_pR_f st
      obtain ⟨v, S0, rfl, st⟩ := st
      replace st := am_pR_f st
      obtain ⟨r, S1, rfl, st⟩ := st
      replace st := am_op_f st
      obtain ⟨a, rfl, g, st⟩ := st
      obtain ⟨o0, o1⟩ := am_ok2 hS
      obtain ⟨-, o3⟩ := am_ok2 o1
      exact sn_putR F hd (am_oke_x ho) g (hnx _ _ _ _ st am_gr_1 hL o3 (am_okh_sR hh)).2
    | ty + 4 => intro ho st; exact (am_fok_ty hi (am_oke_x ho)).elim
  | iaload =>
    obtain rfl := am_oke_l ho (Nat.succ_ne_zero _)
    have hd := hd0
    replace st := am_pI_f st
    obtain ⟨j, S1, rfl, st⟩ := st
    replace st := am_pR_f st
    obtain ⟨r, S2, rfl, st⟩ := st
    replace st := am_op_f st
    obtain ⟨a, rfl, g, st⟩ := st
    obtain ⟨o1, o2⟩ := am_ok2 hS
    obtain ⟨-, o3⟩ := am_ok2 o2
    exact sn_iald F hd g (hnx _ _ _ _ st am_gr_r hL (am_ok1 (hh.1 _ _) o3) hh).2
  | baload =>
    obtain rfl := am_oke_l ho (Nat.succ_ne_zero _)
    have hd := hd0
    replace st := am_pI_f st
    obtain ⟨j, S1, rfl, st⟩ := st
    replace st := am_pR_f st
    obtain ⟨r, S2, rfl, st⟩ := st
    replace st := am_op_f st
    obtain ⟨a, rfl, g, st⟩ := st
    obtain ⟨o1, o2⟩ := am_ok2 hS
    obtain ⟨-, o3⟩ := am_ok2 o2
    exact sn_bald F hd (by have := of_decide_eq_true (am_oke_x ho); rcases this with q | q <;> (dsimp only at q; rw [q]; decide)) g (hnx _ _ _ _ st am_gr_r hL (am_ok1 (hh.1 _ _) o3) hh).2
  | laload =>
    obtain rfl := am_oke_l ho (Nat.succ_ne_zero _)
    have hd := hd0
    replace st := am_pI_f st
    obtain ⟨j, S1, rfl, st⟩ := st
    replace st := am_pR_f st
    obtain ⟨r, S2, rfl, st⟩ := st
    replace st := am_op_f st
    obtain ⟨a, rfl, g, st⟩ := st
    obtain ⟨o1, o2⟩ := am_ok2 hS
    obtain ⟨-, o3⟩ := am_ok2 o2
    exact sn_lald F hd g (hnx _ _ _ _ st am_gr_r hL (am_ok1 (hh.2.1 _ _) o3) hh).2
  | aaload =>
    obtain rfl := am_oke_l ho (Nat.succ_ne_zero _)
    have hd := hd0
    replace st := am_pI_f st
    obtain ⟨j, S1, rfl, st⟩ := st
    replace st := am_pR_f st
    obtain ⟨r, S2, rfl, st⟩ := st
    replace st := am_op_f st
    obtain ⟨a, rfl, g, st⟩ := st
    obtain ⟨o1, o2⟩ := am_ok2 hS
    obtain ⟨-, o3⟩ := am_ok2 o2
    exact sn_aald F hd g (hnx _ _ _ _ st am_gr_r hL (am_ok1 trivial o3) hh).2
  | iastore =>
    obtain rfl := am_oke_l ho (Nat.succ_ne_zero _)
    have hd := hd0
    replace st := am_pI_f st
    obtain ⟨v, S0, rfl, st⟩ := st
    replace st := am_pI_f st
    obtain ⟨j, S1, rfl, st⟩ := st
    replace st := am_pR_f st
    obtain ⟨r, S2, rfl, st⟩ := st
    replace st := am_op_f st
    obtain ⟨a, rfl, g, st⟩ := st
    obtain ⟨o0, o1⟩ := am_ok2 hS
    obtain ⟨o1, o2⟩ := am_ok2 o1
    obtain ⟨-, o3⟩ := am_ok2 o2
    exact sn_iast F hd g (hnx _ _ _ _ st am_gr_1 hL o3 (am_okh_sI hh o0)).2
  | lastore =>
    obtain rfl := am_oke_l ho (Nat.succ_ne_zero _)
    have hd := hd0
    replace st := am_pL_f st
    obtain ⟨v, S0, rfl, st⟩ := st
    replace st := am_pI_f st
    obtain ⟨j, S1, rfl, st⟩ := st
    replace st := am_pR_f st
    obtain ⟨r, S2, rfl, st⟩ := st
    replace st := am_op_f st
    obtain ⟨a, rfl, g, st⟩ := st
    obtain ⟨o0, o1⟩ := am_ok2 hS
    obtain ⟨o1, o2⟩ := am_ok2 o1
    obtain ⟨-, o3⟩ := am_ok2 o2
    exact sn_last F hd g (hnx _ _ _ _ st am_gr_1 hL o3 (am_okh_sL hh o0)).2
  | bastore =>
    obtain rfl := am_oke_l ho (Nat.succ_ne_zero _)
    have hd := hd0
    rcases (of_decide_eq_true (am_oke_x ho) : dn = [12] ∨ dn = [15]) with rfl | rfl
    · replace st := am_pI_f st
      obtain ⟨v, S0, rfl, st⟩ := st
      replace st := am_pI_f st
      obtain ⟨j, S1, rfl, st⟩ := st
      replace st := am_pR_f st
      obtain ⟨r, S2, rfl, st⟩ := st
      replace st := am_op_f st
      obtain ⟨a, rfl, g, st⟩ := st
      obtain ⟨o0, o1⟩ := am_ok2 hS
      obtain ⟨o1, o2⟩ := am_ok2 o1
      obtain ⟨-, o3⟩ := am_ok2 o2
      exact sn_bast F hd g (hnx _ _ _ _ st am_gr_1 hL o3 (am_okh_sI hh (am_wb_in _))).2
    · replace st := am_pI_f st
      obtain ⟨v, S0, rfl, st⟩ := st
      replace st := am_pI_f st
      obtain ⟨j, S1, rfl, st⟩ := st
      replace st := am_pR_f st
      obtain ⟨r, S2, rfl, st⟩ := st
      replace st := am_op_f st
      obtain ⟨a, rfl, g, g2, st⟩ := st
      obtain ⟨o0, o1⟩ := am_ok2 hS
      obtain ⟨o1, o2⟩ := am_ok2 o1
      obtain ⟨-, o3⟩ := am_ok2 o2
      exact sn_zast F hd g g2 (hnx _ _ _ _ st am_gr_1 hL o3 (am_okh_sI hh o0)).2
  | aastore =>
    obtain rfl := am_oke_l ho (Nat.succ_ne_zero _)
    have hd := hd0
    replace st := am_pR_f st
    obtain ⟨v, S0, rfl, st⟩ := st
    replace st := am_pI_f st
    obtain ⟨j, S1, rfl, st⟩ := st
    replace st := am_pR_f st
    obtain ⟨r, S2, rfl, st⟩ := st
    replace st := am_op_f st
    obtain ⟨a, rfl, st⟩ := st
    replace st := am_op_f st
    obtain ⟨w, rfl, g, st⟩ := st
    obtain ⟨o0, o1⟩ := am_ok2 hS
    obtain ⟨o1, o2⟩ := am_ok2 o1
    obtain ⟨-, o3⟩ := am_ok2 o2
    exact sn_aast F hd g (hnx _ _ _ _ st am_gr_1 hL o3 (am_okh_sR hh)).2
  | arraylength =>
    obtain rfl := am_oke_l ho (Nat.succ_ne_zero _)
    have hd := hd0
    replace st := am_pR_f st
    obtain ⟨r, S2, rfl, st⟩ := st
    replace st := am_op_f st
    obtain ⟨a, rfl, g, st⟩ := st
    obtain ⟨-, o3⟩ := am_ok2 hS
    exact sn_alen F hd (by have := of_decide_eq_true (am_oke_x ho); rcases this with q | q | q | q <;> (dsimp only at q; rw [q]; decide)) g (hnx _ _ _ _ st am_gr_r hL (am_ok1 (am_ln_in hh a).1 o3) hh).2
  | newarray t =>
    obtain rfl := am_oke_l ho (Nat.succ_ne_zero _)
    have hd := hd0
    replace st := am_pI_f st
    obtain ⟨n, S1, rfl, g, st⟩ := st
    obtain ⟨-, o3⟩ := am_ok2 hS
    exact sn_newarray F hd (am_nwa_x (am_oke_x ho)) (am_hr_n (hnx _ _ _ _ st (am_gr_n g.1) hL (am_ok1 trivial o3) (am_okh_nw hh (by omega))).1) g (hnx _ _ _ _ st (am_gr_n g.1) hL (am_ok1 trivial o3) (am_okh_nw hh (by omega))).2
  | anewarray idx =>
    obtain rfl := am_oke_l ho (Nat.succ_ne_zero _)
    have hd := hd0
    replace st := am_pI_f st
    obtain ⟨n, S1, rfl, g, st⟩ := st
    obtain ⟨-, o3⟩ := am_ok2 hS
    exact sn_anew F hd (by have := am_oke_x ho; exact ((Bool.and_eq_true _ _).mp this).2) (am_hr_n (hnx _ _ _ _ st (am_gr_n g.1) hL (am_ok1 trivial o3) (am_okh_nw hh (by omega))).1) g (hnx _ _ _ _ st (am_gr_n g.1) hL (am_ok1 trivial o3) (am_okh_nw hh (by omega))).2
  | new idx =>
    obtain rfl := am_oke_l ho (Nat.succ_ne_zero _)
    have hd := hd0
    obtain ⟨ci, n, rfl, h1, h2⟩ := am_new_x (am_oke_x ho)
    obtain ⟨g, st⟩ := st
    exact sn_new F hd h1 h2 (am_hr_n (hnx _ _ _ _ st (am_gr_n g) hL (am_ok1 trivial hS) (am_okh_nw hh (am_new_n h1 h2))).1) g (hnx _ _ _ _ st (am_gr_n g) hL (am_ok1 trivial hS) (am_okh_nw hh (am_new_n h1 h2))).2
  | ifCond cd off =>
    obtain rfl := am_oke_l ho (Nat.succ_ne_zero _)
    have hd := hd0
    obtain ⟨t, rfl, ht⟩ := am_goto_x (am_oke_x ho)
    cases cd
    case eq =>
      replace st := am_pI_f st
      obtain ⟨x, S1, rfl, st⟩ := st
      exact sn_if_eq F hd ht (fun q => (hnx _ _ _ _ (st.1 q) am_gr_r hL (am_ok2 hS).2 hh).2) (fun q => (hnx _ _ _ _ (st.2 q) am_gr_r hL (am_ok2 hS).2 hh).2)
    case ne =>
      replace st := am_pI_f st
      obtain ⟨x, S1, rfl, st⟩ := st
      exact sn_if_ne F hd ht (fun q => (hnx _ _ _ _ (st.1 q) am_gr_r hL (am_ok2 hS).2 hh).2) (fun q => (hnx _ _ _ _ (st.2 q) am_gr_r hL (am_ok2 hS).2 hh).2)
    case lt =>
      replace st := am_pI_f st
      obtain ⟨x, S1, rfl, st⟩ := st
      exact sn_if_lt F hd ht (fun q => (hnx _ _ _ _ (st.1 q) am_gr_r hL (am_ok2 hS).2 hh).2) (fun q => (hnx _ _ _ _ (st.2 q) am_gr_r hL (am_ok2 hS).2 hh).2)
    case ge =>
      replace st := am_pI_f st
      obtain ⟨x, S1, rfl, st⟩ := st
      exact sn_if_ge F hd ht (fun q => (hnx _ _ _ _ (st.1 q) am_gr_r hL (am_ok2 hS).2 hh).2) (fun q => (hnx _ _ _ _ (st.2 q) am_gr_r hL (am_ok2 hS).2 hh).2)
    case gt =>
      replace st := am_pI_f st
      obtain ⟨x, S1, rfl, st⟩ := st
      exact sn_if_gt F hd ht (fun q => (hnx _ _ _ _ (st.1 q) am_gr_r hL (am_ok2 hS).2 hh).2) (fun q => (hnx _ _ _ _ (st.2 q) am_gr_r hL (am_ok2 hS).2 hh).2)
    case le =>
      replace st := am_pI_f st
      obtain ⟨x, S1, rfl, st⟩ := st
      exact sn_if_le F hd ht (fun q => (hnx _ _ _ _ (st.1 q) am_gr_r hL (am_ok2 hS).2 hh).2) (fun q => (hnx _ _ _ _ (st.2 q) am_gr_r hL (am_ok2 hS).2 hh).2)
  | if_icmp cd off =>
    obtain rfl := am_oke_l ho (Nat.succ_ne_zero _)
    have hd := hd0
    obtain ⟨t, rfl, ht⟩ := am_goto_x (am_oke_x ho)
    cases cd
    case eq =>
      replace st := am_pI_f st
      obtain ⟨y, S0, rfl, st⟩ := st
      replace st := am_pI_f st
      obtain ⟨x, S1, rfl, st⟩ := st
      exact sn_icmp_eq F hd ht (fun q => (hnx _ _ _ _ (st.1 q) am_gr_r hL (am_ok2 (am_ok2 hS).2).2 hh).2) (fun q => (hnx _ _ _ _ (st.2 q) am_gr_r hL (am_ok2 (am_ok2 hS).2).2 hh).2)
    case ne =>
      replace st := am_pI_f st
      obtain ⟨y, S0, rfl, st⟩ := st
      replace st := am_pI_f st
      obtain ⟨x, S1, rfl, st⟩ := st
      exact sn_icmp_ne F hd ht (fun q => (hnx _ _ _ _ (st.1 q) am_gr_r hL (am_ok2 (am_ok2 hS).2).2 hh).2) (fun q => (hnx _ _ _ _ (st.2 q) am_gr_r hL (am_ok2 (am_ok2 hS).2).2 hh).2)
    case lt =>
      replace st := am_pI_f st
      obtain ⟨y, S0, rfl, st⟩ := st
      replace st := am_pI_f st
      obtain ⟨x, S1, rfl, st⟩ := st
      exact sn_icmp_lt F hd ht (fun q => (hnx _ _ _ _ (st.1 q) am_gr_r hL (am_ok2 (am_ok2 hS).2).2 hh).2) (fun q => (hnx _ _ _ _ (st.2 q) am_gr_r hL (am_ok2 (am_ok2 hS).2).2 hh).2)
    case ge =>
      replace st := am_pI_f st
      obtain ⟨y, S0, rfl, st⟩ := st
      replace st := am_pI_f st
      obtain ⟨x, S1, rfl, st⟩ := st
      exact sn_icmp_ge F hd ht (fun q => (hnx _ _ _ _ (st.1 q) am_gr_r hL (am_ok2 (am_ok2 hS).2).2 hh).2) (fun q => (hnx _ _ _ _ (st.2 q) am_gr_r hL (am_ok2 (am_ok2 hS).2).2 hh).2)
    case gt =>
      replace st := am_pI_f st
      obtain ⟨y, S0, rfl, st⟩ := st
      replace st := am_pI_f st
      obtain ⟨x, S1, rfl, st⟩ := st
      exact sn_icmp_gt F hd ht (fun q => (hnx _ _ _ _ (st.1 q) am_gr_r hL (am_ok2 (am_ok2 hS).2).2 hh).2) (fun q => (hnx _ _ _ _ (st.2 q) am_gr_r hL (am_ok2 (am_ok2 hS).2).2 hh).2)
    case le =>
      replace st := am_pI_f st
      obtain ⟨y, S0, rfl, st⟩ := st
      replace st := am_pI_f st
      obtain ⟨x, S1, rfl, st⟩ := st
      exact sn_icmp_le F hd ht (fun q => (hnx _ _ _ _ (st.1 q) am_gr_r hL (am_ok2 (am_ok2 hS).2).2 hh).2) (fun q => (hnx _ _ _ _ (st.2 q) am_gr_r hL (am_ok2 (am_ok2 hS).2).2 hh).2)
  | goto off =>
    obtain rfl := am_oke_l ho (Nat.succ_ne_zero _)
    have hd := hd0
    obtain ⟨t, rfl, ht⟩ := am_goto_x (am_oke_x ho)
    exact sn_goto F hd ht (hnx _ _ _ _ st am_gr_r hL hS hh).2
  | tableswitch dd lo hi offs =>
    have hd := hd0
    replace st := am_pI_f st
    obtain ⟨x, S1, rfl, st⟩ := st
    obtain ⟨h1, h2, h3⟩ := am_tab_x (am_oke_x ho)
    exact sn_table F hd h1 h2 h3 (am_sw_mono (fun z => (hnx _ _ _ _ z am_gr_r hL (am_ok2 hS).2 hh).2) (fun t z => (hnx t _ _ _ z am_gr_r hL (am_ok2 hS).2 hh).2) _ _ st)
  | lookupswitch dd ps =>
    have hd := hd0
    replace st := am_pI_f st
    obtain ⟨x, S1, rfl, st⟩ := st
    obtain ⟨h1, h2, h3⟩ := am_lok_x (am_oke_x ho)
    exact sn_look F hd h1 h2 h3 (am_sw_mono (fun z => (hnx _ _ _ _ z am_gr_r hL (am_ok2 hS).2 hh).2) (fun t z => (hnx t _ _ _ z am_gr_r hL (am_ok2 hS).2 hh).2) _ _ st)
  | ireturn =>
    obtain rfl := am_oke_l ho (Nat.succ_ne_zero _)
    have hd := hd0
    replace st := am_iret_f st
    obtain ⟨x, rfl, st⟩ := st
    replace st := am_bv_f st
    obtain ⟨h1, st⟩ := st
    obtain ⟨hm, hQ⟩ := hrt _ st
    exact sn_iret F hd (am_iret_x (am_oke_x ho) h1) hm hQ
  | lreturn =>
    obtain rfl := am_oke_l ho (Nat.succ_ne_zero _)
    have hd := hd0
    replace st := am_lret_f st
    obtain ⟨x, rfl, st⟩ := st
    obtain ⟨hm, hQ⟩ := hrt _ st
    exact sn_lret F hd (of_decide_eq_true (am_oke_x ho)) hm hQ
  | return_ =>
    obtain rfl := am_oke_l ho (Nat.succ_ne_zero _)
    have hd := hd0
    replace st := am_vret_f st
    obtain ⟨rfl, st⟩ := st
    obtain ⟨hm, hQ⟩ := hrt _ st
    exact sn_vret F hd (of_decide_eq_true (am_oke_x ho)) hm hQ
  | invokevirtual idx =>
    obtain rfl := am_oke_l ho (Nat.succ_ne_zero _)
    have hd := hd0
    replace st := am_iv_f st
    rcases st with ⟨j, n, rk, ci, dn2, a, as, S1, rfl, rfl, hl, hw, hm, g, st⟩ | ⟨k, S1, dn2, rfl, rfl, g, hw, st⟩ | ⟨q, k, S1, dn2, rfl, rfl, g, hw, st⟩
    · obtain rfl := am_cok_nil (am_oke_x ho)
      obtain ⟨d, r1, h1, hC, k2⟩ := hcl _ _ _ _ _ (am_ok1 (show am_okv (vR (some a)) from trivial) (am_ok_rev hS)) (am_ok_rest hS) hm (am_cok_of (z0 := 0) hi (am_oke_x ho)).1 st
      exact sn_callV F hXb hXt hd (am_oke_x ho) hl hw g hC k2
    · obtain ⟨h1, rfl, rfl⟩ := am_s9_x (am_oke_x ho)
      exact sn_strL F h1 hd hw (hnx _ _ _ _ st am_gr_r hL (am_ok1 (show am_in (am_str.length : Int) by unfold am_in; decide) (am_ok2 hS).2) hh).1 g (hnx _ _ _ _ st am_gr_r hL (am_ok1 (show am_in (am_str.length : Int) by unfold am_in; decide) (am_ok2 hS).2) hh).2
    · obtain ⟨h1, rfl, rfl⟩ := am_s10_x (am_oke_x ho)
      exact sn_strC F h1 hd hw (hnx _ _ _ _ st am_gr_r hL (am_ok1 (am_str_in _) (am_ok2 (am_ok2 hS).2).2) hh).1 g (hnx _ _ _ _ st am_gr_r hL (am_ok1 (am_str_in _) (am_ok2 (am_ok2 hS).2).2) hh).2
  | invokespecial idx =>
    obtain rfl := am_oke_l ho (Nat.succ_ne_zero _)
    have hd := hd0
    replace st := am_is_f st
    rcases st with ⟨j, n, rk, dn2, a, as, S1, rfl, rfl, hl, hw, hm, st⟩ | ⟨a, S1, dn2, rfl, rfl, hw, st⟩
    · obtain ⟨ci, rfl⟩ := am_cok_nil2 (am_oke_x ho)
      obtain ⟨d, r1, h1, hC, k2⟩ := hcl _ _ _ _ _ (am_ok1 (show am_okv (vR (some a)) from trivial) (am_ok_rev hS)) (am_ok_rest hS) hm (am_cok_of (z0 := 0) hi (am_oke_x ho)).1 st
      exact sn_callI F hXb hXt hd (am_oke_x ho) hl hw hC k2
    · exact sn_objinit F hd (am_s8_x (am_oke_x ho)) hw (hnx _ _ _ _ st am_gr_r hL (am_ok2 hS).2 hh).2
  | invokestatic idx =>
    obtain rfl := am_oke_l ho (Nat.succ_ne_zero _)
    have hd := hd0
    replace st := am_ic_f st
    rcases st with ⟨j, n, rk, dn2, as, S1, rfl, rfl, hl, hw, hm, st⟩ | ⟨k, dn2, rfl, st⟩
    · obtain ⟨ci, rfl⟩ := am_cok_nil2 (am_oke_x ho)
      obtain ⟨d, r1, h1, hC, k2⟩ := hcl _ _ _ _ _ (am_ok_rev2 hS) (am_ok_rest2 hS) hm (am_cok_of (z0 := 0) hi (am_oke_x ho)).1 st
      exact sn_callS F hXb hXt hd (am_oke_x ho) hl hw hC k2
    · revert ho st
      match k with
      | 1 =>
        intro st ho
        replace st := am_pI_f st
        obtain ⟨y, S0, rfl, st⟩ := st
        replace st := am_pI_f st
        obtain ⟨x, S1, rfl, st⟩ := st
        replace st := am_cond_f st
        obtain ⟨hw, st⟩ := st
        obtain ⟨o1, o2⟩ := am_ok2 hS
        obtain ⟨o2, o3⟩ := am_ok2 o2
        exact sn_max F hd (am_p_x (am_oke_x ho)) (Nat.le_of_ble_eq_true hw) (hnx _ _ _ _ st am_gr_r hL (am_ok1 (am_max_in o2 o1) o3) hh).1 (hnx _ _ _ _ st am_gr_r hL (am_ok1 (am_max_in o2 o1) o3) hh).2
      | 2 =>
        intro st ho
        replace st := am_pI_f st
        obtain ⟨y, S0, rfl, st⟩ := st
        replace st := am_pI_f st
        obtain ⟨x, S1, rfl, st⟩ := st
        replace st := am_cond_f st
        obtain ⟨hw, st⟩ := st
        obtain ⟨o1, o2⟩ := am_ok2 hS
        obtain ⟨o2, o3⟩ := am_ok2 o2
        exact sn_min F hd (am_p_x (am_oke_x ho)) (Nat.le_of_ble_eq_true hw) (hnx _ _ _ _ st am_gr_r hL (am_ok1 (am_min_in o2 o1) o3) hh).1 (hnx _ _ _ _ st am_gr_r hL (am_ok1 (am_min_in o2 o1) o3) hh).2
      | 3 =>
        intro st ho
        replace st := am_pI_f st
        obtain ⟨x, S1, rfl, st⟩ := st
        replace st := am_cond_f st
        obtain ⟨hw, st⟩ := st
        exact sn_abs F hd (am_p_x (am_oke_x ho)) (Nat.le_of_ble_eq_true hw) (hnx _ _ _ _ st am_gr_r hL (am_ok1 (am_w_in _) (am_ok2 hS).2) hh).1 (hnx _ _ _ _ st am_gr_r hL (am_ok1 (am_w_in _) (am_ok2 hS).2) hh).2
      | 4 =>
        intro st ho
        replace st := am_pL_f st
        obtain ⟨y, S0, rfl, st⟩ := st
        replace st := am_pL_f st
        obtain ⟨x, S1, rfl, st⟩ := st
        replace st := am_cond_f st
        obtain ⟨hw, st⟩ := st
        obtain ⟨o1, o2⟩ := am_ok2 hS
        obtain ⟨o2, o3⟩ := am_ok2 o2
        exact sn_maxl F hd (am_p_x (am_oke_x ho)) (Nat.le_of_ble_eq_true hw) (hnx _ _ _ _ st am_gr_r hL (am_ok1 (am_maxl_in o2 o1) o3) hh).1 (hnx _ _ _ _ st am_gr_r hL (am_ok1 (am_maxl_in o2 o1) o3) hh).2
      | 5 =>
        intro st ho
        replace st := am_pL_f st
        obtain ⟨y, S0, rfl, st⟩ := st
        replace st := am_pL_f st
        obtain ⟨x, S1, rfl, st⟩ := st
        replace st := am_cond_f st
        obtain ⟨hw, st⟩ := st
        obtain ⟨o1, o2⟩ := am_ok2 hS
        obtain ⟨o2, o3⟩ := am_ok2 o2
        exact sn_minl F hd (am_p_x (am_oke_x ho)) (Nat.le_of_ble_eq_true hw) (hnx _ _ _ _ st am_gr_r hL (am_ok1 (am_minl_in o2 o1) o3) hh).1 (hnx _ _ _ _ st am_gr_r hL (am_ok1 (am_minl_in o2 o1) o3) hh).2
      | 6 =>
        intro st ho
        replace st := am_pL_f st
        obtain ⟨x, S1, rfl, st⟩ := st
        replace st := am_cond_f st
        obtain ⟨hw, st⟩ := st
        exact sn_absl F hd (am_p_x (am_oke_x ho)) (Nat.le_of_ble_eq_true hw) (hnx _ _ _ _ st am_gr_r hL (am_ok1 (am_wl_in _) (am_ok2 hS).2) hh).1 (hnx _ _ _ _ st am_gr_r hL (am_ok1 (am_wl_in _) (am_ok2 hS).2) hh).2
      | 7 =>
        intro st ho
        replace st := am_pI_f st
        obtain ⟨n, S0, rfl, st⟩ := st
        replace st := am_pI_f st
        obtain ⟨dp, S1, rfl, st⟩ := st
        replace st := am_pR_f st
        obtain ⟨r2, S2, rfl, st⟩ := st
        replace st := am_pI_f st
        obtain ⟨sp, S3, rfl, st⟩ := st
        replace st := am_pR_f st
        obtain ⟨r1, S4, rfl, st⟩ := st
        replace st := am_op_f st
        obtain ⟨a, rfl, st⟩ := st
        replace st := am_op_f st
        obtain ⟨a', rfl, g, st⟩ := st
        replace st := am_cond_f st
        obtain ⟨hw, st⟩ := st
        exact sn_copy F hd (am_p_x (am_oke_x ho)) (Nat.le_of_ble_eq_true hw) g (hnx _ _ _ _ st am_gr_1 hL (am_ok2 (am_ok2 (am_ok2 (am_ok2 (am_ok2 hS).2).2).2).2).2 (am_okh_cp hh)).2
      | 0 => intro st ho; exact (am_ic_0 st).elim
      | k + 8 => intro st ho; exact st.elim
  | _ => exact st.elim
end
