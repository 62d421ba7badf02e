/-! 70: count, go -/
set_option maxHeartbeats 1000000 in
theorem p_count {a : Int} : PM 149 279 [vI a] := by
  intro d w I L hG
  have no := fun r => PM.no (d := d) (j1 := 149) (j2 := 279) (as := [vI a]) r hG
  obtain ⟨V, lw, σ, n, f, g, G⟩ := hG
  obtain ⟨⟨hw, hR, hL, hV, hM, hN⟩, rS, mS, wS, ny, ct⟩ := G.1
  obtain ⟨u, hl⟩ := G.2.2.2.2.2.2.1
  obtain ⟨T, m, kb, t1, t2, t3⟩ := G.2.2.2.2.2.2.2.1
  have h12 := hV.1.2.2
  obtain ⟨n2, hn2⟩ : ∃ n2 : Nat, V 0 2 = n2 := ⟨(V 0 2).toNat, by omega⟩
  rw [hn2, Int.toNat_natCast] at ct
  have hMt := hM.t (v := 0)
  have mSt := mS.t (v := 0)
  have x1 := hR.1.1
  have x2 := hR.1.2.1
  have x3 := hR.1.2.2
  have x4 := hR.2.2.2.2.2.2.2
  have x5 := rS.2.2.2.1
  have x6 := rS.2.2.2.2.1
  have x7 : I 51 5 = px_cnt (σ 3) 1 n2 := by rw [ct.1, rS.cnt (by omega)]
  have x8 : I 51 6 = px_cnt (σ 3) 2 n2 := by rw [ct.2.1, rS.cnt (by omega)]
  have x9 : I 51 7 = px_cnt (σ 3) 3 n2 := by rw [ct.2.2, rS.cnt (by omega)]
  have xa := t1.1
  have xb := t1.2.1
  have xc := hl.2.1
  have y1 := hMt.1.1
  have y2 := hMt.1.2.1
  have y3 := hMt.1.2.2
  have y4 := hMt.2.2.2.2.2.2.2
  have y5 := mSt.2.2.2.1
  have y6 := mSt.2.2.2.2.1
  have ya : am_up I 99 2 0 99 70 = m := by rw [am_up_n _ _ _ _ (by decide)]; exact t2.1
  have yb : am_up I 99 2 0 99 71 = kb := by rw [am_up_n _ _ _ _ (by decide)]; exact t2.2.1
  have yc : am_up I 99 2 0 99 74 = u := by rw [am_up_n _ _ _ _ (by decide)]; exact hl.2.2.1
  have s69 : ∀ (d : Nat) (Q : Option am_V → am_H → Prop), am_Sp d 69 [vR (some 92)] (mkH w I L) Q ↔ Q (some (vI (if 0 ≤ kb then kb else m))) (mkH w I L) := by
    intro d Q
    rw [S69]
    by_cases c : 0 ≤ kb
    · have e : am_min kb m = kb := by unfold am_min; have := t3.2.1; split <;> omega
      simp (disch := omega) only [KT, xa, xb, c, B69_25, if_true, e, GA, GR, GRc, GO, GI, GL, GV, am_w_i, am_ga, am_it, am_if, true_and, and_true, or_true, true_or, ne_eq, not_false_eq_true, not_true_eq_false, false_imp_iff, true_imp_iff, Int.reduceEq, Int.reduceLT, Int.reduceLE, Int.reduceAdd, Int.reduceSub, Int.reduceMul, Int.reduceNeg]
    · simp (disch := omega) only [KT, xa, xb, c, B69_25, if_false, GA, GR, GRc, GO, GI, GL, GV, am_w_i, am_ga, am_it, am_if, true_and, and_true, or_true, true_or, ne_eq, not_false_eq_true, not_true_eq_false, false_imp_iff, true_imp_iff, Int.reduceEq, Int.reduceLT, Int.reduceLE, Int.reduceAdd, Int.reduceSub, Int.reduceMul, Int.reduceNeg]
  have s265 : ∀ (d : Nat) (Q : Option am_V → am_H → Prop), am_Sp d 265 [vR (some 99)] (mkH w (am_up I 99 2 0) L) Q ↔ Q (some (vI (if 0 ≤ kb then kb else m))) (mkH w (am_up I 99 2 0) L) := by
    intro d Q
    rw [S265]
    by_cases c : 0 ≤ kb
    · simp (disch := omega) only [Kk, ya, yb, c, B265_18, if_true, GA, GR, GRc, GO, GI, GL, GV, am_w_i, am_ga, am_it, am_if, true_and, and_true, or_true, true_or, ne_eq, not_false_eq_true, not_true_eq_false, false_imp_iff, true_imp_iff, Int.reduceEq, Int.reduceLT, Int.reduceLE, Int.reduceAdd, Int.reduceSub, Int.reduceMul, Int.reduceNeg]
    · simp (disch := omega) only [Kk, ya, yb, c, B265_18, if_false, GA, GR, GRc, GO, GI, GL, GV, am_w_i, am_ga, am_it, am_if, true_and, and_true, or_true, true_or, ne_eq, not_false_eq_true, not_true_eq_false, false_imp_iff, true_imp_iff, Int.reduceEq, Int.reduceLT, Int.reduceLE, Int.reduceAdd, Int.reduceSub, Int.reduceMul, Int.reduceNeg]
  by_cases ca : 0 ≤ a ∧ a ≤ 11
  · rcases (show a = 0 ∨ a = 1 ∨ a = 2 ∨ a = 3 ∨ a = 4 ∨ a = 5 ∨ a = 6 ∨ a = 7 ∨ a = 8 ∨ a = 9 ∨ a = 10 ∨ a = 11 by omega) with e | e | e | e | e | e | e | e | e | e | e | e <;> subst e
    · refine no (V 0 0) ?_ ?_
      · rw [S149]; simp (disch := omega) only [KX, HW hw, x1, GA, GR, GRc, GO, GI, GL, GV, am_w_i, am_ga, am_it, am_if, true_and, and_true, or_true, true_or, ne_eq, not_false_eq_true, not_true_eq_false, false_imp_iff, true_imp_iff, Int.reduceEq, Int.reduceLT, Int.reduceLE, Int.reduceAdd, Int.reduceSub, Int.reduceMul, Int.reduceNeg]
      · rw [S279]; simp (disch := omega) only [Kk, B279_5, y1, GA, GR, GRc, GO, GI, GL, GV, am_w_i, am_ga, am_it, am_if, true_and, and_true, or_true, true_or, ne_eq, not_false_eq_true, not_true_eq_false, false_imp_iff, true_imp_iff, Int.reduceEq, Int.reduceLT, Int.reduceLE, Int.reduceAdd, Int.reduceSub, Int.reduceMul, Int.reduceNeg]
    · refine no (V 0 1) ?_ ?_
      · rw [S149]; simp (disch := omega) only [KX, HW hw, x2, GA, GR, GRc, GO, GI, GL, GV, am_w_i, am_ga, am_it, am_if, true_and, and_true, or_true, true_or, ne_eq, not_false_eq_true, not_true_eq_false, false_imp_iff, true_imp_iff, Int.reduceEq, Int.reduceLT, Int.reduceLE, Int.reduceAdd, Int.reduceSub, Int.reduceMul, Int.reduceNeg]
      · rw [S279]; simp (disch := omega) only [Kk, B279_5, y2, GA, GR, GRc, GO, GI, GL, GV, am_w_i, am_ga, am_it, am_if, true_and, and_true, or_true, true_or, ne_eq, not_false_eq_true, not_true_eq_false, false_imp_iff, true_imp_iff, Int.reduceEq, Int.reduceLT, Int.reduceLE, Int.reduceAdd, Int.reduceSub, Int.reduceMul, Int.reduceNeg]
    · refine no (V 0 2) ?_ ?_
      · rw [S149]; simp (disch := omega) only [KX, HW hw, x3, GA, GR, GRc, GO, GI, GL, GV, am_w_i, am_ga, am_it, am_if, true_and, and_true, or_true, true_or, ne_eq, not_false_eq_true, not_true_eq_false, false_imp_iff, true_imp_iff, Int.reduceEq, Int.reduceLT, Int.reduceLE, Int.reduceAdd, Int.reduceSub, Int.reduceMul, Int.reduceNeg]
      · rw [S279]; simp (disch := omega) only [Kk, B279_5, y3, GA, GR, GRc, GO, GI, GL, GV, am_w_i, am_ga, am_it, am_if, true_and, and_true, or_true, true_or, ne_eq, not_false_eq_true, not_true_eq_false, false_imp_iff, true_imp_iff, Int.reduceEq, Int.reduceLT, Int.reduceLE, Int.reduceAdd, Int.reduceSub, Int.reduceMul, Int.reduceNeg]
    · refine no (V 0 4) ?_ ?_
      · rw [S149]; simp (disch := omega) only [KX, HW hw, x4, GA, GR, GRc, GO, GI, GL, GV, am_w_i, am_ga, am_it, am_if, true_and, and_true, or_true, true_or, ne_eq, not_false_eq_true, not_true_eq_false, false_imp_iff, true_imp_iff, Int.reduceEq, Int.reduceLT, Int.reduceLE, Int.reduceAdd, Int.reduceSub, Int.reduceMul, Int.reduceNeg]
      · rw [S279]; simp (disch := omega) only [Kk, B279_5, y4, GA, GR, GRc, GO, GI, GL, GV, am_w_i, am_ga, am_it, am_if, true_and, and_true, or_true, true_or, ne_eq, not_false_eq_true, not_true_eq_false, false_imp_iff, true_imp_iff, Int.reduceEq, Int.reduceLT, Int.reduceLE, Int.reduceAdd, Int.reduceSub, Int.reduceMul, Int.reduceNeg]
    · refine no (σ 0 3) ?_ ?_
      · rw [S149]; simp (disch := omega) only [KX, HS is51, x5, GA, GR, GRc, GO, GI, GL, GV, am_w_i, am_ga, am_it, am_if, true_and, and_true, or_true, true_or, ne_eq, not_false_eq_true, not_true_eq_false, false_imp_iff, true_imp_iff, Int.reduceEq, Int.reduceLT, Int.reduceLE, Int.reduceAdd, Int.reduceSub, Int.reduceMul, Int.reduceNeg]
      · rw [S279]; simp (disch := omega) only [Kk, Ks, B279_5, y5, GA, GR, GRc, GO, GI, GL, GV, am_w_i, am_ga, am_it, am_if, true_and, and_true, or_true, true_or, ne_eq, not_false_eq_true, not_true_eq_false, false_imp_iff, true_imp_iff, Int.reduceEq, Int.reduceLT, Int.reduceLE, Int.reduceAdd, Int.reduceSub, Int.reduceMul, Int.reduceNeg]
    · refine no (σ 0 4) ?_ ?_
      · rw [S149]; simp (disch := omega) only [KX, HS is51, x6, GA, GR, GRc, GO, GI, GL, GV, am_w_i, am_ga, am_it, am_if, true_and, and_true, or_true, true_or, ne_eq, not_false_eq_true, not_true_eq_false, false_imp_iff, true_imp_iff, Int.reduceEq, Int.reduceLT, Int.reduceLE, Int.reduceAdd, Int.reduceSub, Int.reduceMul, Int.reduceNeg]
      · rw [S279]; simp (disch := omega) only [Kk, Ks, B279_5, y6, GA, GR, GRc, GO, GI, GL, GV, am_w_i, am_ga, am_it, am_if, true_and, and_true, or_true, true_or, ne_eq, not_false_eq_true, not_true_eq_false, false_imp_iff, true_imp_iff, Int.reduceEq, Int.reduceLT, Int.reduceLE, Int.reduceAdd, Int.reduceSub, Int.reduceMul, Int.reduceNeg]
    · refine no (px_cnt (σ 3) 1 n2) ?_ ?_
      · rw [S149]; simp (disch := omega) only [KX, HS is51, x7, GA, GR, GRc, GO, GI, GL, GV, am_w_i, am_ga, am_it, am_if, true_and, and_true, or_true, true_or, ne_eq, not_false_eq_true, not_true_eq_false, false_imp_iff, true_imp_iff, Int.reduceEq, Int.reduceLT, Int.reduceLE, Int.reduceAdd, Int.reduceSub, Int.reduceMul, Int.reduceNeg]
      · rw [S279]; simp (disch := omega) only [Kk, Ks, B279_5, s219 hMt hV hn2 (Or.inl rfl) mSt, GA, GR, GRc, GO, GI, GL, GV, am_w_i, am_ga, am_it, am_if, true_and, and_true, or_true, true_or, ne_eq, not_false_eq_true, not_true_eq_false, false_imp_iff, true_imp_iff, Int.reduceEq, Int.reduceLT, Int.reduceLE, Int.reduceAdd, Int.reduceSub, Int.reduceMul, Int.reduceNeg]
    · refine no (px_cnt (σ 3) 2 n2) ?_ ?_
      · rw [S149]; simp (disch := omega) only [KX, HS is51, x8, GA, GR, GRc, GO, GI, GL, GV, am_w_i, am_ga, am_it, am_if, true_and, and_true, or_true, true_or, ne_eq, not_false_eq_true, not_true_eq_false, false_imp_iff, true_imp_iff, Int.reduceEq, Int.reduceLT, Int.reduceLE, Int.reduceAdd, Int.reduceSub, Int.reduceMul, Int.reduceNeg]
      · rw [S279]; simp (disch := omega) only [Kk, Ks, B279_5, s219 hMt hV hn2 (Or.inl rfl) mSt, GA, GR, GRc, GO, GI, GL, GV, am_w_i, am_ga, am_it, am_if, true_and, and_true, or_true, true_or, ne_eq, not_false_eq_true, not_true_eq_false, false_imp_iff, true_imp_iff, Int.reduceEq, Int.reduceLT, Int.reduceLE, Int.reduceAdd, Int.reduceSub, Int.reduceMul, Int.reduceNeg]
    · refine no (px_cnt (σ 3) 3 n2) ?_ ?_
      · rw [S149]; simp (disch := omega) only [KX, HS is51, x9, GA, GR, GRc, GO, GI, GL, GV, am_w_i, am_ga, am_it, am_if, true_and, and_true, or_true, true_or, ne_eq, not_false_eq_true, not_true_eq_false, false_imp_iff, true_imp_iff, Int.reduceEq, Int.reduceLT, Int.reduceLE, Int.reduceAdd, Int.reduceSub, Int.reduceMul, Int.reduceNeg]
      · rw [S279]; simp (disch := omega) only [Kk, Ks, B279_5, s219 hMt hV hn2 (Or.inl rfl) mSt, GA, GR, GRc, GO, GI, GL, GV, am_w_i, am_ga, am_it, am_if, true_and, and_true, or_true, true_or, ne_eq, not_false_eq_true, not_true_eq_false, false_imp_iff, true_imp_iff, Int.reduceEq, Int.reduceLT, Int.reduceLE, Int.reduceAdd, Int.reduceSub, Int.reduceMul, Int.reduceNeg]
    · refine no m ?_ ?_
      · rw [S149]; simp (disch := omega) only [KX, KT, xa, GA, GR, GRc, GO, GI, GL, GV, am_w_i, am_ga, am_it, am_if, true_and, and_true, or_true, true_or, ne_eq, not_false_eq_true, not_true_eq_false, false_imp_iff, true_imp_iff, Int.reduceEq, Int.reduceLT, Int.reduceLE, Int.reduceAdd, Int.reduceSub, Int.reduceMul, Int.reduceNeg]
      · rw [S279]; simp (disch := omega) only [Kk, B279_5, ya, GA, GR, GRc, GO, GI, GL, GV, am_w_i, am_ga, am_it, am_if, true_and, and_true, or_true, true_or, ne_eq, not_false_eq_true, not_true_eq_false, false_imp_iff, true_imp_iff, Int.reduceEq, Int.reduceLT, Int.reduceLE, Int.reduceAdd, Int.reduceSub, Int.reduceMul, Int.reduceNeg]
    · refine no (if 0 ≤ kb then kb else m) ?_ ?_
      · rw [S149]; simp (disch := omega) only [KX, KT, s69, GA, GR, GRc, GO, GI, GL, GV, am_w_i, am_ga, am_it, am_if, true_and, and_true, or_true, true_or, ne_eq, not_false_eq_true, not_true_eq_false, false_imp_iff, true_imp_iff, Int.reduceEq, Int.reduceLT, Int.reduceLE, Int.reduceAdd, Int.reduceSub, Int.reduceMul, Int.reduceNeg]
      · rw [S279]; simp (disch := omega) only [Kk, B279_5, s265, GA, GR, GRc, GO, GI, GL, GV, am_w_i, am_ga, am_it, am_if, true_and, and_true, or_true, true_or, ne_eq, not_false_eq_true, not_true_eq_false, false_imp_iff, true_imp_iff, Int.reduceEq, Int.reduceLT, Int.reduceLE, Int.reduceAdd, Int.reduceSub, Int.reduceMul, Int.reduceNeg]
    · refine no u ?_ ?_
      · rw [S149]; simp (disch := omega) only [KX, KG, xc, GA, GR, GRc, GO, GI, GL, GV, am_w_i, am_ga, am_it, am_if, true_and, and_true, or_true, true_or, ne_eq, not_false_eq_true, not_true_eq_false, false_imp_iff, true_imp_iff, Int.reduceEq, Int.reduceLT, Int.reduceLE, Int.reduceAdd, Int.reduceSub, Int.reduceMul, Int.reduceNeg]
      · rw [S279]; simp (disch := omega) only [Kk, B279_5, yc, GA, GR, GRc, GO, GI, GL, GV, am_w_i, am_ga, am_it, am_if, true_and, and_true, or_true, true_or, ne_eq, not_false_eq_true, not_true_eq_false, false_imp_iff, true_imp_iff, Int.reduceEq, Int.reduceLT, Int.reduceLE, Int.reduceAdd, Int.reduceSub, Int.reduceMul, Int.reduceNeg]
  · refine no (-1) ?_ ?_
    · rw [S149]; simp (disch := omega) only [GA, GR, GRc, GO, GI, GL, GV, am_w_i, am_ga, am_it, am_if, true_and, and_true, or_true, true_or, ne_eq, not_false_eq_true, not_true_eq_false, false_imp_iff, true_imp_iff, Int.reduceEq, Int.reduceLT, Int.reduceLE, Int.reduceAdd, Int.reduceSub, Int.reduceMul, Int.reduceNeg]
    · rw [S279]; simp (disch := omega) only [Kk, B279_5, GA, GR, GRc, GO, GI, GL, GV, am_w_i, am_ga, am_it, am_if, true_and, and_true, or_true, true_or, ne_eq, not_false_eq_true, not_true_eq_false, false_imp_iff, true_imp_iff, Int.reduceEq, Int.reduceLT, Int.reduceLE, Int.reduceAdd, Int.reduceSub, Int.reduceMul, Int.reduceNeg]
theorem px_try_n {V σ : (Nat → Int → Int)} {lw : (Int → (Int → Int) → Int)} {F : Int → Int} {i : Int} : px_try V lw F σ i 3 i ≠ 0 := by
  unfold px_try
  split
  · rw [am_up_s]; decide
  · split
    · rw [am_up_s]; decide
    · rw [am_up_s]; decide
theorem px_t1_n {V σ : (Nat → Int → Int)} {lw : (Int → (Int → Int) → Int)} {F : Int → Int} {j : Int} (h0 : 0 ≤ j) (h : V 12 j = σ 0 3) (h4 : V 10 j ≠ F 4) : ∀ i : Nat, j < i → px_for (px_t1 V lw F) i σ 3 j ≠ 0
  | 0, hi => by omega
  | i + 1, hi => by
    have td := px_t1_d (V := V) (σ := σ) (lw := lw) (F := F) i
    rw [px_for]
    by_cases e : j = i
    · generalize px_for (px_t1 V lw F) i σ = σ' at td
      subst e
      unfold px_t1
      rw [if_pos ⟨h.trans td.1.symm, h4⟩]
      exact px_try_n
    · have ih := px_t1_n (V := V) (σ := σ) (lw := lw) (F := F) h0 h h4 i (by omega)
      generalize px_for (px_t1 V lw F) i σ = σ' at td ih
      unfold px_t1
      split
      · rw [(px_try_d (V := V) (σ := σ') (lw := lw) (F := F) (i := (i : Int))).2 j e]; exact ih
      · exact ih
theorem DN.day {V σ : (Nat → Int → Int)} {lw : (Int → (Int → Int) → Int)} {F : Int → Int} (h : DN V σ) (hV : WV V) (h4 : F 4 = -1) : DN V (px_day V lw F σ) := by
  intro i i0 i1 hi
  have pd := px_day_d (V := V) (σ := σ) (lw := lw) (F := F)
  rw [pd.1] at hi
  by_cases e : V 12 i = σ 0 3
  · have v := hV.2.2.2.1 i i0 i1
    unfold px_day px_d4
    rw [am_up_a _ _ _ _ (by decide), am_up_a _ _ _ _ (by decide), px_d3_o (by decide), px_d2_o (by decide), px_d1_eq]
    exact px_t1_n i0 e (by omega) _ (by omega)
  · rw [pd.2 i e]; exact h i i0 i1 (by omega)
theorem DN.days {V σ : (Nat → Int → Int)} {lw : (Int → (Int → Int) → Int)} {F : Int → Int} (h : DN V σ) (hV : WV V) (h4 : F 4 = -1) : ∀ n, DN V (px_days V lw F n σ)
  | 0 => h
  | n + 1 => (DN.days h hV h4 n).day hV h4
theorem px_days_d {V σ : (Nat → Int → Int)} {lw : (Int → (Int → Int) → Int)} {F : Int → Int} : ∀ n : Nat, px_days V lw F n σ 0 3 = σ 0 3 + n
  | 0 => by rw [px_days]; omega
  | n + 1 => by rw [px_days, px_day_d.1, px_days_d n]; omega
set_option maxHeartbeats 2000000 in
theorem p_go {n0 : Int} : PM 107 232 [vI n0] := by
  intro d w I L hG
  have no := fun r => PM.no (d := d) (j1 := 107) (j2 := 232) (as := [vI n0]) r hG
  obtain ⟨V, lw, σ, n, f, g, G⟩ := hG
  obtain ⟨⟨hw, hR, hL, hV, hM, hN⟩, rS, mS, wS, ny, ct⟩ := G.1
  have e3 : I 51 3 = σ 0 3 := rS.2.2.2.1
  have e131 : am_up I 99 2 0 131 0 = σ 0 3 := mS.t.2.2.2.1
  have b3 := wS.2.2.1
  by_cases c1 : 0 ≤ n0 ∧ n0 ≤ 200
  · by_cases c2 : σ 0 3 + n0 ≤ 9000
    · obtain ⟨m, hm⟩ : ∃ m : Nat, n0 = m := ⟨n0.toNat, by omega⟩
      subst hm
      have h12 := hV.1.2.2
      have W0 : WS (σ 0 3) σ := by
        obtain ⟨a1, a2, a3, a4, a5, a6⟩ := wS
        exact ⟨a1, a2, ⟨a3.1, Int.le_refl _⟩, a4, a5, by omega⟩
      have WD : ∀ i : Nat, i ≤ m → WS 9000 (px_days V lw (FT 0) i σ) := fun i hi => (W0.days (lw := lw) (F := FT 0) hV FT_WF i (by omega)).mo (by omega) (by omega)
      have fin : ∀ w' I1 L1, (w'.1 = w.1 ∧ w'.2.1 = w.2.1) → RS I1 51 (px_days V lw (FT 0) m σ) → CT I1 51 (V 0 2).toNat → (∀ a, ¬ (51 ≤ a ∧ a ≤ 54) → a ≠ 63 → a ≠ 64 → a ≠ 90 → I1 a = I a) → LF L L1 → (m = 0 → I1 = I) → (m ≠ 0 → I1 90 0 = 0 ∧ I1 64 0 = 0) → am_WP (d + 20) 107 71 [some (vR (some 0)), some (vI (m : Int))] [] (mkH w' I1 L1) (fun r h1 => am_Sp (d + 20) 232 [vR (some 99), vI (m : Int)] h1 (fun r' h2 => r' = r ∧ r ≠ none ∧ ∃ w2 I2 L2, h2 = mkH w2 I2 L2 ∧ GG w2 I2 L2)) := by
        intro w' I1 L1 j0 j1 j2 j3 j4 j5 j6
        have g3 : I1 51 3 = px_days V lw (FT 0) m σ 0 3 := j1.2.2.2.1
        have mJ : MS (am_up I1 99 2 0) L1 0 σ := by
          have a : MS (am_up I1 99 2 0) L 0 σ := (mS.k (fun a _ _ => j3 a (by omega) (by omega) (by omega) (by omega))).t
          obtain ⟨b1, b2, b3, b4, b5, b6⟩ := a
          exact ⟨b1, b2, b3, b4, b5, by rw [j4 99 (by decide)]; exact b6⟩
        have hMJ : MW (am_up I1 99 2 0) V := (hM.fr (fun a _ _ => j3 a (by omega) (by omega) (by omega) (by omega)) (fun j _ _ => by rw [j3 99 (by decide) (by decide) (by decide) (by decide)])).t
        have hNJ : ML (am_up I1 99 2 0) lw := hN.fr (fun a _ _ => by rw [am_up_a _ _ _ _ (by omega), j3 a (by omega) (by omega) (by omega) (by omega)])
        have g131 : am_up I1 99 2 0 131 0 = σ 0 3 := mJ.2.2.2.1
        have cp := cz_pl_at (I := am_up I1 99 2 0)
        have C0 : MC (am_up (cz_pl (am_up I1 99 2 0)) 99 60 1) V lw (FT 0) := (MC.pl hMJ hNJ hV).fl (fun a ha => am_up_a _ _ _ _ ha) (fun j hj => am_up_n _ _ _ _ (by omega)) (by unfold MFl cz_pl FT am_up; simp) FT_WF
        have m0 : MS (am_up (cz_pl (am_up I1 99 2 0)) 99 60 1) L1 0 σ := mJ.pl.f (fun a ha => am_up_a _ _ _ _ ha)
        rw [B107_71]
        simp (disch := omega) only [KX, HS is51, g3, GA, GR, GRc, GO, GI, GL, GV, am_w_i, am_ga, am_it, am_if, true_and, and_true, or_true, true_or, ne_eq, not_false_eq_true, not_true_eq_false, false_imp_iff, true_imp_iff, Int.reduceEq, Int.reduceLT, Int.reduceLE, Int.reduceAdd, Int.reduceSub, Int.reduceMul, Int.reduceNeg]
        rw [S232]
        simp (disch := omega) only [Kk, B232_5, s153, c1, if_true, Ks, g131, c2, s197, B232_41, GA, GR, GRc, GO, GI, GL, GV, am_w_i, am_ga, am_it, am_if, true_and, and_true, or_true, true_or, ne_eq, not_false_eq_true, not_true_eq_false, false_imp_iff, true_imp_iff, Int.reduceEq, Int.reduceLT, Int.reduceLE, Int.reduceAdd, Int.reduceSub, Int.reduceMul, Int.reduceNeg]
        have z0 : ∀ j, j ≠ 2 → (j < 60 ∨ 68 ≤ j) → am_up (cz_pl (am_up I1 99 2 0)) 99 60 1 99 j = I 99 j := fun j x1 x2 => by rw [am_up_n _ _ _ _ (by omega), cp.2.1 j x2, am_up_n _ _ _ _ x1, j3 99 (by decide) (by decide) (by decide) (by decide)]
        have z1 : ∀ a, a ≠ 99 → am_up (cz_pl (am_up I1 99 2 0)) 99 60 1 a = I1 a := fun a x1 => by rw [am_up_a _ _ _ _ x1, cp.1 a x1, am_up_a _ _ _ _ x1]
        generalize am_up (cz_pl (am_up I1 99 2 0)) 99 60 1 = J0 at *
        refine am_loop (α := (Nat → Int → Int) × (Nat → Int → Int)) m (fun i x => am_WP (d + 20) 232 43 [some (vR (some 99)), some (vI (m : Int)), some (vI (i : Int))] [] (mkH w' x.1 x.2) (fun r' h2 => r' = some (vI (px_days V lw (FT 0) m σ 0 3)) ∧ some (vI (px_days V lw (FT 0) m σ 0 3)) ≠ none ∧ ∃ w2 I2 L2, h2 = mkH w2 I2 L2 ∧ GG w2 I2 L2)) (fun i x => MS x.1 x.2 0 (px_days V lw (FT 0) i σ) ∧ MFr 0 J0 x.1 ∧ LM L1 x.2) ?_ ?_ 0 (J0, L1) (Nat.zero_le _) ⟨m0, MFr.rf, LM.rf⟩
        · intro i ⟨Ia, La⟩ hi ⟨Ra, Fa, la⟩ ih
          dsimp only at Ra Fa la ⊢
          rw [B232_43]
          simp (disch := omega) only [Kk, GA, GR, GRc, GO, GI, GL, GV, am_w_i, am_ga, am_it, am_if, true_and, and_true, or_true, true_or, ne_eq, not_false_eq_true, not_true_eq_false, false_imp_iff, true_imp_iff, Int.reduceEq, Int.reduceLT, Int.reduceLE, Int.reduceAdd, Int.reduceSub, Int.reduceMul, Int.reduceNeg]
          refine s217 (C0.fr Fa) (Or.inl rfl) Ra (WD i (by omega)) (fun Ib Lb Rb fb lb => ?_)
          simp (disch := omega) only [GA, GR, GRc, GO, GI, GL, GV, am_w_i, am_ga, am_it, am_if, true_and, and_true, or_true, true_or, ne_eq, not_false_eq_true, not_true_eq_false, false_imp_iff, true_imp_iff, Int.reduceEq, Int.reduceLT, Int.reduceLE, Int.reduceAdd, Int.reduceSub, Int.reduceMul, Int.reduceNeg]
          exact ih (Ib, Lb) ⟨Rb, Fa.tr fb, la.tr lb⟩
        · intro ⟨Ia, La⟩ ⟨Ra, Fa, la⟩
          dsimp only at Ra Fa la ⊢
          have o131 : Ia 131 0 = px_days V lw (FT 0) m σ 0 3 := Ra.2.2.2.1
          have lst : ∀ v, v = (if m = 0 then I 99 74 else 0) → am_WP (d + 20) 232 77 [some (vR (some 99)), some (vI (m : Int)), some (vI (m : Int))] [vI v, vR (some 99)] (mkH w' (am_up Ia 99 60 0) La) (fun r' h2 => r' = some (vI (px_days V lw (FT 0) m σ 0 3)) ∧ some (vI (px_days V lw (FT 0) m σ 0 3)) ≠ none ∧ ∃ w2 I2 L2, h2 = mkH w2 I2 L2 ∧ GG w2 I2 L2) := by
            intro v hv
            have y0 : ∀ j, j ≠ 2 → j ≠ 53 → j ≠ 74 → (j < 60 ∨ 68 ≤ j) → am_up (am_up Ia 99 60 0) 99 74 v 99 j = I 99 j := fun j x1 x2 x3 x4 => by rw [am_up_n _ _ _ _ x3, am_up_n _ _ _ _ (by omega), Fa.2.1 j x2, z0 j x1 x4]
            have y1 : ∀ a, a ≠ 99 → (a < 127 ∨ 131 < a) → am_up (am_up Ia 99 60 0) 99 74 v a = I1 a := fun a x1 x2 => by rw [am_up_a _ _ _ _ x1, am_up_a _ _ _ _ x1, Fa.1 a x1 x2, z1 a x1]
            have y4 : am_up (am_up Ia 99 60 0) 99 74 v 99 74 = v := am_up_s _ _ _ _
            have Ms : MS (am_up (am_up Ia 99 60 0) 99 74 v) La 0 (px_days V lw (FT 0) m σ) := (Ra.f (fun a ha => am_up_a _ _ _ _ ha)).f (fun a ha => am_up_a _ _ _ _ ha)
            rw [B232_77]
            simp (disch := omega) only [Kk, B232_80, Ks, am_up_a, o131, GA, GR, GRc, GO, GI, GL, GV, am_w_i, am_ga, am_it, am_if, true_and, and_true, or_true, true_or, ne_eq, not_false_eq_true, not_true_eq_false, false_imp_iff, true_imp_iff, Int.reduceEq, Int.reduceLT, Int.reduceLE, Int.reduceAdd, Int.reduceSub, Int.reduceMul, Int.reduceNeg]
            refine ⟨by simp, w', _, La, rfl, V, lw, px_days V lw (FT 0) m σ, n, f, g, G.nw ?_ (j1.fr (fun a _ _ => y1 a (by omega) (by omega))) Ms (WD m (Nat.le_refl _)) (ny.days m) (G.2.1.days hV rfl m) (j2.fr (y1 54 (by decide) (by decide)) ?_) ?_ ⟨fun a ha => ?_, fun j hj => y0 j (by omega) (by omega) (by omega) (by omega)⟩ ?_ j0⟩
            · by_cases e : m = 0
              · have := j5 e
                subst this
                rw [if_pos e] at hv
                rw [show px_days V lw (FT 0) m σ = σ by rw [e]; rfl]
                exact G.2.2.2.2.2.2.1.fr (by rw [y1 90 (by decide) (by decide)]) (by rw [y4, hv]) (y1 91 (by decide) (by decide)) (y1 136 (by decide) (by decide))
              · rw [if_neg e] at hv
                exact ⟨0, by omega, by rw [y1 90 (by decide) (by decide)]; exact (j6 e).1, by rw [y4, hv]; rfl, fun i hi => by omega⟩
            · rw [y1 51 (by decide) (by decide)]; exact ⟨rfl, rfl, rfl⟩
            · by_cases e : m = 0
              · have := j5 e
                subst this
                rw [show px_days V lw (FT 0) m σ = σ by rw [e]; rfl]
                exact G.2.2.2.2.2.2.2.2.1.fr (y1 64 (by decide) (by decide)) (y1 65 (by decide) (by decide))
              · exact GPl.no (by rw [y1 64 (by decide) (by decide)]; exact (j6 e).2)
            · rw [y1 a (by omega) (by omega), j3 a (by omega) (by omega) (by omega) (by omega)]
            · rw [la.2 79 (by decide), j4 99 (by decide)]
          rw [B232_43]
          by_cases e : m = 0
          · have v74 : am_up Ia 99 60 0 99 74 = I 99 74 := by rw [am_up_n _ _ _ _ (by decide), Fa.2.1 74 (by decide), z0 74 (by decide) (by decide)]
            have z := lst (I 99 74) (by rw [if_pos e])
            first | (simp (disch := omega) only [Kk, B232_64, v74, GA, GR, GRc, GO, GI, GL, GV, am_w_i, am_ga, am_it, am_if, true_and, and_true, or_true, true_or, ne_eq, not_false_eq_true, not_true_eq_false, false_imp_iff, true_imp_iff, Int.reduceEq, Int.reduceLT, Int.reduceLE, Int.reduceAdd, Int.reduceSub, Int.reduceMul, Int.reduceNeg]; exact z) | simp (disch := omega) only [Kk, B232_64, v74, z, GA, GR, GRc, GO, GI, GL, GV, am_w_i, am_ga, am_it, am_if, true_and, and_true, or_true, true_or, ne_eq, not_false_eq_true, not_true_eq_false, false_imp_iff, true_imp_iff, Int.reduceEq, Int.reduceLT, Int.reduceLE, Int.reduceAdd, Int.reduceSub, Int.reduceMul, Int.reduceNeg]
          · have z := lst 0 (by rw [if_neg e])
            first | (simp (disch := omega) only [Kk, B232_64, GA, GR, GRc, GO, GI, GL, GV, am_w_i, am_ga, am_it, am_if, true_and, and_true, or_true, true_or, ne_eq, not_false_eq_true, not_true_eq_false, false_imp_iff, true_imp_iff, Int.reduceEq, Int.reduceLT, Int.reduceLE, Int.reduceAdd, Int.reduceSub, Int.reduceMul, Int.reduceNeg]; exact z) | simp (disch := omega) only [Kk, B232_64, z, GA, GR, GRc, GO, GI, GL, GV, am_w_i, am_ga, am_it, am_if, true_and, and_true, or_true, true_or, ne_eq, not_false_eq_true, not_true_eq_false, false_imp_iff, true_imp_iff, Int.reduceEq, Int.reduceLT, Int.reduceLE, Int.reduceAdd, Int.reduceSub, Int.reduceMul, Int.reduceNeg]
      by_cases e : m = 0
      · subst e
        have z := fin w I L ⟨rfl, rfl⟩ rS ct (fun _ _ _ _ _ => rfl) LF.rf (fun _ => rfl) (fun y => absurd rfl y)
        rw [S107]
        first | (simp (disch := omega) only [s96, c1, if_true, KX, HS is51, e3, c2, GA, GR, GRc, GO, GI, GL, GV, am_w_i, am_ga, am_it, am_if, true_and, and_true, or_true, true_or, ne_eq, not_false_eq_true, not_true_eq_false, false_imp_iff, true_imp_iff, Int.reduceEq, Int.reduceLT, Int.reduceLE, Int.reduceAdd, Int.reduceSub, Int.reduceMul, Int.reduceNeg]; exact z) | simp (disch := omega) only [s96, c1, if_true, KX, HS is51, e3, c2, z, GA, GR, GRc, GO, GI, GL, GV, am_w_i, am_ga, am_it, am_if, true_and, and_true, or_true, true_or, ne_eq, not_false_eq_true, not_true_eq_false, false_imp_iff, true_imp_iff, Int.reduceEq, Int.reduceLT, Int.reduceLE, Int.reduceAdd, Int.reduceSub, Int.reduceMul, Int.reduceNeg]
      · have tk := G.1.tk 0
        rw [S107]
        simp (disch := omega) only [s96, c1, if_true, KX, HS is51, e3, c2, s1, KC, GA, GR, GRc, GO, GI, GL, GV, am_w_i, am_ga, am_it, am_if, true_and, and_true, or_true, true_or, ne_eq, not_false_eq_true, not_true_eq_false, false_imp_iff, true_imp_iff, Int.reduceEq, Int.reduceLT, Int.reduceLE, Int.reduceAdd, Int.reduceSub, Int.reduceMul, Int.reduceNeg]
        refine s6 tk.1 is51 tk.2.1 W0 (n := (V 0 2).toNat) (by omega) tk.2.2 ny (by omega) (fun I1 L1 r1 t1 f1 l1 => ?_)
        simp (disch := omega) only [KX, KG, S18, KP, KN, GA, GR, GRc, GO, GI, GL, GV, am_w_i, am_ga, am_it, am_if, true_and, and_true, or_true, true_or, ne_eq, not_false_eq_true, not_true_eq_false, false_imp_iff, true_imp_iff, Int.reduceEq, Int.reduceLT, Int.reduceLE, Int.reduceAdd, Int.reduceSub, Int.reduceMul, Int.reduceNeg]
        refine fin _ _ L1 ⟨rfl, rfl⟩ (r1.fr (fun a _ _ => ?_)) (t1.fr ?_ ?_) (fun a x1 x2 x3 x4 => ?_) l1 (fun y => absurd y e) (fun _ => ⟨?_, ?_⟩)
        · rw [am_up_a _ _ _ _ (by omega), am_up_a _ _ _ _ (by omega)]
        · rw [am_up_a _ _ _ _ (by omega), am_up_a _ _ _ _ (by omega)]
        · rw [am_up_a _ _ _ _ (by omega), am_up_a _ _ _ _ (by omega)]; exact ⟨rfl, rfl, rfl⟩
        · rw [am_up_a _ _ _ _ x3, am_up_a _ _ _ _ x4, f1 a (by omega), cz_tk_a x2]
        · rw [am_up_a _ _ _ _ (by decide), am_up_s]
        · rw [am_up_s]
    · refine no (-1) ?_ ?_
      · rw [S107]
        simp (disch := omega) only [s96, c1, if_true, KX, HS is51, e3, c2, B107_26, GA, GR, GRc, GO, GI, GL, GV, am_w_i, am_ga, am_it, am_if, true_and, and_true, or_true, true_or, ne_eq, not_false_eq_true, not_true_eq_false, false_imp_iff, true_imp_iff, Int.reduceEq, Int.reduceLT, Int.reduceLE, Int.reduceAdd, Int.reduceSub, Int.reduceMul, Int.reduceNeg]
      · rw [S232]
        simp (disch := omega) only [Kk, B232_5, s153, c1, if_true, Ks, e131, c2, B232_30, GA, GR, GRc, GO, GI, GL, GV, am_w_i, am_ga, am_it, am_if, true_and, and_true, or_true, true_or, ne_eq, not_false_eq_true, not_true_eq_false, false_imp_iff, true_imp_iff, Int.reduceEq, Int.reduceLT, Int.reduceLE, Int.reduceAdd, Int.reduceSub, Int.reduceMul, Int.reduceNeg]
  · refine no (-1) ?_ ?_
    · rw [S107]
      simp (disch := omega) only [s96, c1, if_false, B107_26, GA, GR, GRc, GO, GI, GL, GV, am_w_i, am_ga, am_it, am_if, true_and, and_true, or_true, true_or, ne_eq, not_false_eq_true, not_true_eq_false, false_imp_iff, true_imp_iff, Int.reduceEq, Int.reduceLT, Int.reduceLE, Int.reduceAdd, Int.reduceSub, Int.reduceMul, Int.reduceNeg]
    · rw [S232]
      simp (disch := omega) only [Kk, B232_5, s153, c1, if_false, B232_30, GA, GR, GRc, GO, GI, GL, GV, am_w_i, am_ga, am_it, am_if, true_and, and_true, or_true, true_or, ne_eq, not_false_eq_true, not_true_eq_false, false_imp_iff, true_imp_iff, Int.reduceEq, Int.reduceLT, Int.reduceLE, Int.reduceAdd, Int.reduceSub, Int.reduceMul, Int.reduceNeg]
