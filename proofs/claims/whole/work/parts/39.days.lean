/-! 39: what a day leaves as it is; days; copies, starts -/
theorem px_heal_o {V σ : (Nat → Int → Int)} {lw : Int → (Int → Int) → Int} {F : Int → Int} {k t : Int} {a : Nat} (h : a ≠ 1) : px_heal V lw F σ k t a = σ a := am_up_a _ _ _ _ h
theorem px_for_o {f : Nat → (Nat → Int → Int) → (Nat → Int → Int)} {a : Nat} (h : ∀ i σ, f i σ a = σ a) : ∀ (n : Nat) (σ : (Nat → Int → Int)), px_for f n σ a = σ a
  | 0, _ => rfl
  | n + 1, σ => by rw [px_for, h, px_for_o h n σ]
theorem px_d2_o {V σ : (Nat → Int → Int)} {lw : Int → (Int → Int) → Int} {F : Int → Int} {a : Nat} (h : a ≠ 1) : px_d2 V lw F σ a = σ a := by
  unfold px_d2; split
  · rfl
  · exact px_for_o (fun i σ => by rw [px_heal_o h, px_heal_o h]) _ _
theorem px_d3_o {V σ : (Nat → Int → Int)} {F : Int → Int} {a : Nat} (h : a ≠ 2) : px_d3 V F σ a = σ a := by
  unfold px_d3 px_wg; split
  · rfl
  · rw [am_up_a _ _ _ _ h, am_up_a _ _ _ _ h]
theorem px_t1_o {V σ : (Nat → Int → Int)} {lw : Int → (Int → Int) → Int} {F : Int → Int} {j : Int} (hj : V 12 j ≠ σ 0 3) : ∀ i : Nat, px_for (px_t1 V lw F) i σ 3 j = σ 3 j
  | 0 => rfl
  | i + 1 => by
    have ih := px_t1_o (V := V) (σ := σ) (lw := lw) (F := F) hj i
    have td := px_t1_d (V := V) (σ := σ) (lw := lw) (F := F) i
    rw [px_for]
    generalize px_for (px_t1 V lw F) i σ = σ' at ih td
    unfold px_t1
    split
    · rename_i h
      by_cases e : j = i
      · subst e; exact absurd (h.1.trans td.1) hj
      · rw [(px_try_d (V := V) (σ := σ') (lw := lw) (F := F) (i := (i : Int))).2 j e, ih]
    · exact ih
theorem px_day_d {V σ : (Nat → Int → Int)} {lw : Int → (Int → Int) → Int} {F : Int → Int} : px_day V lw F σ 0 3 = σ 0 3 + 1 ∧ ∀ j, V 12 j ≠ σ 0 3 → px_day V lw F σ 3 j = σ 3 j := by
  unfold px_day px_d4
  refine ⟨?_, fun j hj => ?_⟩
  · rw [am_up_s, px_d3_o (by decide), px_d2_o (by decide), px_d1_eq, (px_t1_d _).1]
  · rw [am_up_a _ _ _ _ (by decide), am_up_a _ _ _ _ (by decide), px_d3_o (by decide), px_d2_o (by decide), px_d1_eq, px_t1_o hj]
theorem NY.day {V σ : (Nat → Int → Int)} {lw : Int → (Int → Int) → Int} {F : Int → Int} (h : NY V σ) : NY V (px_day V lw F σ) := by
  intro i h0 h1 h2
  have := px_day_d (V := V) (σ := σ) (lw := lw) (F := F)
  rw [this.1] at h2
  rw [this.2 i (by omega)]
  exact h i h0 h1 (by omega)
theorem NY.days {V σ : (Nat → Int → Int)} {lw : Int → (Int → Int) → Int} {F : Int → Int} (h : NY V σ) : ∀ n, NY V (px_days V lw F n σ)
  | 0 => h
  | n + 1 => (NY.days h n).day
theorem s6 {d : Nat} {w : Nat × Nat × Nat × Nat} {I L : Nat → Int → Int} {V σ : (Nat → Int → Int)} {lw : Int → (Int → Int) → Int} {F : Int → Int} {s n m : Nat} {D : Int} (C : CC w I V lw F) (hs : isS s) (hR : RS I s σ) (hW : WS D σ) (hn : V 0 2 = n) (hC : CT I s n) (hN : NY V σ) (hm : D + m ≤ 20000) {Q : Option am_V → am_H → Prop} (q : ∀ I' L', RS I' s (px_days V lw F m σ) → CT I' s n → Fr (fun a => s ≤ a ∧ a ≤ s + 3) I I' → LF L L' → Q none (mkH w I' L')) : am_Sp (d + 6) 6 [vR (some 63), vR (some s), vI (m : Int)] (mkH w I L) Q := by
  have hss := isS_le hs
  have hD : 0 ≤ D := by have := hW.2.2.1; omega
  rw [S6]
  refine am_loop (α := (Nat → Int → Int) × (Nat → Int → Int)) m (fun i x => am_WP (d + 6) 6 2 [some (vR (some 63)), some (vR (some s)), some (vI (m : Int)), some (vI (i : Int))] [] (mkH w x.1 x.2) Q) (fun i x => RS x.1 s (px_days V lw F i σ) ∧ CT x.1 s n ∧ Fr (fun a => s ≤ a ∧ a ≤ s + 3) I x.1 ∧ LF L x.2) ?_ ?_ 0 (I, L) (Nat.zero_le _) ⟨hR, hC, Fr.rf, LF.rf⟩
  · intro i ⟨Ia, La⟩ hi ⟨Ra, CTa, Fa, Lfa⟩ ih
    dsimp only at Ra CTa Fa Lfa ⊢
    have Ca : CC w Ia V lw F := C.fr (fun a ha => Fa a (by omega))
    rw [B6_2]
    simp (disch := omega) only [KC, GA, GR, GRc, GO, GI, GL, GV, am_w_i, am_ga, am_it, am_if, true_and, and_true, or_true, true_or, ne_eq, not_false_eq_true, not_true_eq_false, false_imp_iff, true_imp_iff, Int.reduceEq, Int.reduceLT, Int.reduceLE, Int.reduceAdd, Int.reduceSub, Int.reduceMul, Int.reduceNeg]
    refine s7 Ca hs Ra (hW.days C.2.2.2.1 C.2.2.2.2.2 i (by omega)) hn CTa (hN.days i) (fun Ib Lb Rb CTb fb lb => ?_)
    simp (disch := omega) only [GA, GR, GRc, GO, GI, GL, GV, am_w_i, am_ga, am_it, am_if, true_and, and_true, or_true, true_or, ne_eq, not_false_eq_true, not_true_eq_false, false_imp_iff, true_imp_iff, Int.reduceEq, Int.reduceLT, Int.reduceLE, Int.reduceAdd, Int.reduceSub, Int.reduceMul, Int.reduceNeg]
    exact ih (Ib, Lb) ⟨Rb, CTb, Fa.tr fb, Lfa.tr lb⟩
  · intro ⟨Ia, La⟩ ⟨Ra, CTa, Fa, Lfa⟩
    dsimp only at Ra CTa Fa Lfa ⊢
    rw [B6_2]
    simp (disch := omega) only [GA, GR, GRc, GO, GI, GL, GV, am_w_i, am_ga, am_it, am_if, true_and, and_true, or_true, true_or, ne_eq, not_false_eq_true, not_true_eq_false, false_imp_iff, true_imp_iff, Int.reduceEq, Int.reduceLT, Int.reduceLE, Int.reduceAdd, Int.reduceSub, Int.reduceMul, Int.reduceNeg]
    exact q Ia La Ra CTa Fa Lfa
def cz_tk (I : (Nat → Int → Int)) (lk : Int) : (Nat → Int → Int) := am_up (am_up (am_up (am_up (am_up (am_up I 63 7 lk) 63 1 1) 63 2 1) 63 3 1) 63 4 (-1)) 63 5 (-1)
theorem s1 {d : Nat} {w : Nat × Nat × Nat × Nat} {I L : Nat → Int → Int} {wd : Nat} {lk : Int} (Q : Option am_V → am_H → Prop) : am_Sp d 1 [vR (some 63), vR (some wd), vI lk] (mkH w I L) Q ↔ Q none (mkH (w.1, w.2.1, w.2.2.1, wd) (cz_tk I lk) L) := by
  simp (disch := omega) only [S1, B1_5, B1_10, B1_15, B1_20, B1_25, B1_30, KC, mk_w4, cz_tk, GA, GR, GRc, GO, GI, GL, GV, am_w_i, am_ga, am_it, am_if, true_and, and_true, or_true, true_or, ne_eq, not_false_eq_true, not_true_eq_false, false_imp_iff, true_imp_iff, Int.reduceEq, Int.reduceLT, Int.reduceLE, Int.reduceAdd, Int.reduceSub, Int.reduceMul, Int.reduceNeg]
/-- as the text tells, luck by lk -/
def FT (lk : Int) : Int → Int := fun j => if j = 1 ∨ j = 2 ∨ j = 3 then 1 else if j = 4 ∨ j = 5 then -1 else if j = 7 then lk else 0
theorem CC.tk {w : (Nat × Nat × Nat × Nat)} {I V : (Nat → Int → Int)} {lw : Int → (Int → Int) → Int} {wd : Nat} {lk : Int} (hw : isW wd) (h1 : RW I wd V) (h2 : RLw I wd lw) (hV : WV V) : CC (w.1, w.2.1, w.2.2.1, wd) (cz_tk I lk) V lw (FT lk) := by
  have := isW_le hw
  have f : ∀ a, a ≠ 63 → cz_tk I lk a = I a := fun a ha => by
    unfold cz_tk; rw [am_up_a _ _ _ _ ha, am_up_a _ _ _ _ ha, am_up_a _ _ _ _ ha, am_up_a _ _ _ _ ha, am_up_a _ _ _ _ ha, am_up_a _ _ _ _ ha]
  refine ⟨hw, h1.fr (fun a _ _ => f a (by show a ≠ 63; have : a ≤ wd + 20 := by assumption
                                          omega)), h2.fr (fun a _ _ => f a (by have : a ≤ wd + 20 := by assumption
                                                                               omega)), hV, ?_, by unfold WF FT; simp⟩
  unfold cz_tk FT am_up; simp
def cz_copy (I : (Nat → Int → Int)) (s t : Nat) : (Nat → Int → Int) := am_up (am_up (am_up (am_up (am_up (am_up (cz_cp (cz_cp (cz_cp I (t + 1) 0 (s + 1) 0 12) (t + 2) 0 (s + 2) 0 2) (t + 3) 0 (s + 3) 0 12) s 3 (I t 3)) s 4 (I t 4)) s 5 (I t 5)) s 6 (I t 6)) s 7 (I t 7)) s 8 (I t 8)
theorem s58 {d : Nat} {w : Nat × Nat × Nat × Nat} {I L : Nat → Int → Int} {s t : Nat} (hs : isS s) (ht : isS t) (hst : s ≠ t) (Q : Option am_V → am_H → Prop) : am_Sp d 58 [vR (some s), vR (some t)] (mkH w I L) Q ↔ Q none (mkH w (cz_copy I s t) L) := by
  have h1 := isS_le hs
  have h2 := isS_le ht
  have h3 : s + 4 ≤ t ∨ t + 4 ≤ s := by unfold isS at hs ht; omega
  simp (disch := omega) only [S58, B58_18, B58_32, B58_47, B58_55, B58_63, B58_71, B58_79, B58_87, HS hs, HS ht, am_up_a, cz_cp_a, cz_copy, GA, GR, GRc, GO, GI, GL, GV, am_w_i, am_ga, am_it, am_if, true_and, and_true, or_true, true_or, ne_eq, not_false_eq_true, not_true_eq_false, false_imp_iff, true_imp_iff, Int.reduceEq, Int.reduceLT, Int.reduceLE, Int.reduceAdd, Int.reduceSub, Int.reduceMul, Int.reduceNeg]
theorem cz_copy_at {I : (Nat → Int → Int)} {s t : Nat} (hst : s + 4 ≤ t ∨ t + 4 ≤ s) : (∀ j, 0 ≤ j → j < 12 → cz_copy I s t (s + 1) j = I (t + 1) j) ∧ (∀ j, 0 ≤ j → j < 2 → cz_copy I s t (s + 2) j = I (t + 2) j) ∧ (∀ j, 0 ≤ j → j < 12 → cz_copy I s t (s + 3) j = I (t + 3) j) ∧ (∀ j, 3 ≤ j → j ≤ 8 → cz_copy I s t s j = I t j) ∧ Fr (fun a => s ≤ a ∧ a ≤ s + 3) I (cz_copy I s t) := by
  unfold cz_copy
  refine ⟨fun j h0 h1 => ?_, fun j h0 h1 => ?_, fun j h0 h1 => ?_, fun j h0 h1 => ?_, ?_⟩
  · simp (disch := omega) only [am_up_a, cz_cp_a, cz_cp_b]; congr 1; omega
  · simp (disch := omega) only [am_up_a, cz_cp_a, cz_cp_b]; congr 1; omega
  · simp (disch := omega) only [am_up_a, cz_cp_a, cz_cp_b]; congr 1; omega
  · rcases (show j = 3 ∨ j = 4 ∨ j = 5 ∨ j = 6 ∨ j = 7 ∨ j = 8 by omega) with rfl | rfl | rfl | rfl | rfl | rfl <;> simp (disch := decide) only [am_up_s, am_up_n]
  · exact ((((((((Fr.rf.cp (by omega)).cp (by omega)).cp (by omega)).up (by omega)).up (by omega)).up (by omega)).up (by omega)).up (by omega)).up (by omega)
theorem RS.copy {I : (Nat → Int → Int)} {s t : Nat} {σ : (Nat → Int → Int)} (hst : s + 4 ≤ t ∨ t + 4 ≤ s) (h : RS I t σ) : RS (cz_copy I s t) s σ := by
  obtain ⟨a, b, c, e, _⟩ := cz_copy_at (I := I) hst
  obtain ⟨x, y, z, u, v, k⟩ := h
  exact ⟨fun j h0 h1 => (a j h0 h1).trans (x j h0 h1), fun j h0 h1 => (b j h0 h1).trans (y j h0 h1), fun j h0 h1 => (c j h0 h1).trans (z j h0 h1), (e 3 (by omega) (by omega)).trans u, (e 4 (by omega) (by omega)).trans v, (e 8 (by omega) (by omega)).trans k⟩
theorem px_cnt_c {f g : Int → Int} {v : Int} : ∀ {n : Nat}, (∀ j : Nat, j < n → f j = g j) → px_cnt f v n = px_cnt g v n
  | 0, _ => rfl
  | n + 1, h => by rw [px_cnt, px_cnt, px_cnt_c (fun j hj => h j (Nat.lt_succ_of_lt hj)), h n (Nat.lt_succ_self n)]
theorem CT.copy {I : (Nat → Int → Int)} {s t n : Nat} (hst : s + 4 ≤ t ∨ t + 4 ≤ s) (hn : n ≤ 12) (h : CT I t n) : CT (cz_copy I s t) s n := by
  obtain ⟨a, b, c, e, _⟩ := cz_copy_at (I := I) hst
  have g : ∀ v, px_cnt (cz_copy I s t (s + 3)) v n = px_cnt (I (t + 3)) v n := fun v => px_cnt_c (fun j hj => c j (by omega) (by omega))
  obtain ⟨x, y, z⟩ := h
  exact ⟨by rw [e 5 (by omega) (by omega), g, x], by rw [e 6 (by omega) (by omega), g, y], by rw [e 7 (by omega) (by omega), g, z]⟩
/-- a state at its start -/
def px_beg (V : (Nat → Int → Int)) : (Nat → Int → Int) := fun a j => if a = 1 then V 4 j else if a = 2 then V 13 j else if a = 3 then 0 else if j = 8 then V 0 3 else 0
def cz_beg (I : (Nat → Int → Int)) (s t : Nat) : (Nat → Int → Int) := am_up (am_up (am_up (am_up (am_up (am_up (cz_fl (cz_cp (cz_cp I (t + 4) 0 (s + 1) 0 12) (t + 13) 0 (s + 2) 0 2) (s + 3) ((12 : Nat) : Int) 0) s 3 0) s 4 0) s 5 0) s 6 0) s 7 0) s 8 (I t 17)
theorem cz_fl_a (I : (Nat → Int → Int)) (a : Nat) (n v : Int) {c : Nat} (h : c ≠ a) : cz_fl I a n v c = I c := by funext j; simp [cz_fl, h]
theorem cz_fl_b (I : (Nat → Int → Int)) (a : Nat) (n v : Int) {j : Int} (h0 : 0 ≤ j) (h1 : j < n) : cz_fl I a n v a j = v := by simp [cz_fl, h0, h1]
theorem s57 {d : Nat} {w : Nat × Nat × Nat × Nat} {I L : Nat → Int → Int} {s t : Nat} (hs : isS s) (ht : isW t) (Q : Option am_V → am_H → Prop) : am_Sp (d + 1) 57 [vR (some s), vR (some t)] (mkH w I L) Q ↔ Q none (mkH w (cz_beg I s t) L) := by
  have h1 := isS_le hs
  have h2 := isW_le ht
  have k1 : ∀ J, am_kd (mkH w J L) (s + 3) = 13 := fun J => (HS hs w J L).2.2.2.2.2.2.2.2.1
  have k2 : ∀ J, am_ln (mkH w J L) (s + 3) = ((12 : Nat) : Int) := fun J => (HS hs w J L).2.2.2.2.2.2.2.2.2
  simp (disch := omega) only [S57, B57_18, B57_32, B57_45, B57_50, B57_55, B57_60, B57_65, HS hs, HW ht, s280 (show (12 : Nat) ≤ 4096 by omega) k1 k2, am_up_a, cz_cp_a, cz_fl_a, cz_beg, GA, GR, GRc, GO, GI, GL, GV, am_w_i, am_ga, am_it, am_if, true_and, and_true, or_true, true_or, ne_eq, not_false_eq_true, not_true_eq_false, false_imp_iff, true_imp_iff, Int.reduceEq, Int.reduceLT, Int.reduceLE, Int.reduceAdd, Int.reduceSub, Int.reduceMul, Int.reduceNeg]
theorem cz_beg_at {I : (Nat → Int → Int)} {s t : Nat} (hst : t + 20 < s) : (∀ j, 0 ≤ j → j < 12 → cz_beg I s t (s + 1) j = I (t + 4) j) ∧ (∀ j, 0 ≤ j → j < 2 → cz_beg I s t (s + 2) j = I (t + 13) j) ∧ (∀ j, 0 ≤ j → j < 12 → cz_beg I s t (s + 3) j = 0) ∧ (cz_beg I s t s 3 = 0 ∧ cz_beg I s t s 4 = 0 ∧ cz_beg I s t s 5 = 0 ∧ cz_beg I s t s 6 = 0 ∧ cz_beg I s t s 7 = 0 ∧ cz_beg I s t s 8 = I t 17) ∧ Fr (fun a => s ≤ a ∧ a ≤ s + 3) I (cz_beg I s t) := by
  unfold cz_beg
  refine ⟨fun j h0 h1 => ?_, fun j h0 h1 => ?_, fun j h0 h1 => ?_, ?_, ?_⟩
  · simp (disch := omega) only [am_up_a, cz_cp_a, cz_cp_b, cz_fl_a]; congr 1; omega
  · simp (disch := omega) only [am_up_a, cz_cp_a, cz_cp_b, cz_fl_a]; congr 1; omega
  · simp (disch := omega) only [am_up_a, cz_fl_b]
  · refine ⟨?_, ?_, ?_, ?_, ?_, ?_⟩ <;> simp (disch := decide) only [am_up_s, am_up_n]
  · intro a ha
    simp (disch := omega) only [am_up_a, cz_cp_a, cz_fl_a]
theorem RS.beg {I V : (Nat → Int → Int)} {s t : Nat} (hst : t + 20 < s) (h : RW I t V) : RS (cz_beg I s t) s (px_beg V) := by
  obtain ⟨a, b, c, e, _⟩ := cz_beg_at (I := I) hst
  obtain ⟨-, -, -, -, h5, h6, h7, -⟩ := h
  exact ⟨fun j h0 h1 => (a j h0 h1).trans (h6 j h0 h1), fun j h0 h1 => (b j h0 h1).trans (h5 j h0 h1).2, fun j h0 h1 => c j h0 h1, e.1, e.2.1, e.2.2.2.2.2.trans h7⟩
theorem px_cnt_0 {f : Int → Int} {v : Int} (hv : v ≠ 0) : ∀ {n : Nat}, (∀ j : Nat, j < n → f j = 0) → px_cnt f v n = 0
  | 0, _ => rfl
  | n + 1, h => by rw [px_cnt, px_cnt_0 hv (fun j hj => h j (Nat.lt_succ_of_lt hj)), h n (Nat.lt_succ_self n), if_neg (Ne.symm hv)]; rfl
theorem CT.beg {I : (Nat → Int → Int)} {s t n : Nat} (hst : t + 20 < s) (hn : n ≤ 12) : CT (cz_beg I s t) s n := by
  obtain ⟨a, b, c, e, _⟩ := cz_beg_at (I := I) hst
  have g : ∀ v, v ≠ 0 → px_cnt (cz_beg I s t (s + 3)) v n = 0 := fun v hv => px_cnt_0 hv (fun j hj => c j (by omega) (by omega))
  exact ⟨by rw [e.2.2.1, g 1 (by decide)], by rw [e.2.2.2.1, g 2 (by decide)], by rw [e.2.2.2.2.1, g 3 (by decide)]⟩
theorem WS.beg {V : (Nat → Int → Int)} (hV : WV V) : WS 0 (px_beg V) := by
  refine ⟨fun j h0 h1 => ?_, fun t h0 h1 => ?_, ?_, ?_, ?_, by omega⟩
  · have := hV.2.2.2.2.2.1 j h0 h1; show -999 ≤ V 4 j ∧ V 4 j ≤ 999; omega
  · have := (hV.2.2.2.2.1 t h0 h1).2; show 0 ≤ V 13 t ∧ V 13 t ≤ 9999; omega
  · show (0 : Int) ≤ 0 ∧ (0 : Int) ≤ 0; omega
  · show (0 : Int) ≤ 0 ∧ (0 : Int) ≤ 0; omega
  · have := hV.2.2.2.2.2.2; show 0 ≤ V 0 3 ∧ V 0 3 ≤ 2147483647; omega
theorem NY.beg {V : (Nat → Int → Int)} : NY V (px_beg V) := fun _ _ _ _ => rfl
