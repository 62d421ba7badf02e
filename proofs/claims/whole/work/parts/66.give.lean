/-! 66: give, exchange -/
theorem MS.k {I I2 L σ : (Nat → Int → Int)} (h : MS I L 0 σ) (k4 : ∀ a, 127 ≤ a → a ≤ 131 → I2 a = I a) : MS I2 L 0 σ := h.fb ⟨fun _ _ _ => by rw [k4 127 (by decide) (by decide)], fun _ _ _ => by rw [k4 128 (by decide) (by decide)], fun _ _ _ => by rw [k4 129 (by decide) (by decide)], by rw [k4 130 (by decide) (by decide)], by rw [k4 131 (by decide) (by decide)]⟩ rfl
set_option maxHeartbeats 1000000 in
theorem p_give {t a : Int} : PM 104 230 [vI t, vI a] := by
  intro d w I L hG
  have no := fun r => PM.no (d := d) (j1 := 104) (j2 := 230) (as := [vI t, vI a]) r hG
  obtain ⟨V, lw, σ, n, f, g, G⟩ := hG
  obtain ⟨⟨hw, hR, hL, hV, hM, hN⟩, rS, mS, wS, ny, ct⟩ := G.1
  obtain ⟨u, hl⟩ := G.2.2.2.2.2.2.1
  by_cases c1 : t = 0 ∨ t = 1
  · by_cases c2 : 1 ≤ a ∧ a ≤ 99
    · have ht : 0 ≤ t ∧ t < 2 := by omega
      have ws2 := wS.2.1 t ht.1 ht.2
      have hu := hl.2.1
      have h20 := hl.1
      have mm : am_min 9999 (σ 2 t + a) = am_max 0 (am_min 9999 (σ 2 t + a)) := by unfold am_min am_max; split <;> split <;> omega
      have W1 : WS 9000 (am_up σ 2 t (am_min 9999 (σ 2 t + a))) := wS.u2 (by unfold am_min; split <;> omega)
      rw [S104]
      simp (disch := omega) only [s95, c1, if_true, s96, c2, KX, GA, GR, GRc, GO, GI, GL, GV, am_w_i, am_ga, am_it, am_if, true_and, and_true, or_true, true_or, ne_eq, not_false_eq_true, not_true_eq_false, false_imp_iff, true_imp_iff, Int.reduceEq, Int.reduceLT, Int.reduceLE, Int.reduceAdd, Int.reduceSub, Int.reduceMul, Int.reduceNeg]
      refine s106 (k := -1) rS wS hu h20 (by omega) (fun I1 p1 p2 p3 => ?_)
      have r1 : RS I1 51 σ := rS.fr (fun a _ _ => p3 a (by omega))
      have f53 : I1 (51 + 2) t = σ 2 t := r1.2.1 t ht.1 ht.2
      have ru := r1.u2 (i := t) (v := am_min 9999 (σ 2 t + a))
      have fu : Fr (fun a => a = 52 ∨ a = 53) I1 (am_up I1 (51 + 2) t (am_min 9999 (σ 2 t + a))) := Fr.rf.up (Or.inr rfl)
      have g53 : am_up I1 (51 + 2) t (am_min 9999 (σ 2 t + a)) (51 + 2) t = am_min 9999 (σ 2 t + a) := am_up_s _ _ _ _
      simp (disch := omega) only [KX, HS (show isS 51 from Or.inl rfl), f53, B104_50, g53, GA, GR, GRc, GO, GI, GL, GV, am_w_i, am_ga, am_it, am_if, true_and, and_true, or_true, true_or, ne_eq, not_false_eq_true, not_true_eq_false, false_imp_iff, true_imp_iff, Int.reduceEq, Int.reduceLT, Int.reduceLE, Int.reduceAdd, Int.reduceSub, Int.reduceMul, Int.reduceNeg]
      generalize hJ : am_up I1 (51 + 2) t (am_min 9999 (σ 2 t + a)) = J at *
      have fj : ∀ a, a ≠ 52 → a ≠ 53 → a ≠ 90 → a ≠ 91 → a ≠ 64 → J a = I a := fun a x1 x2 x3 x4 x5 => by rw [fu a (by omega), p3 a (by omega)]
      have mJ : MS (am_up J 99 2 0) L 0 σ := (mS.k (fun a _ _ => fj a (by omega) (by omega) (by omega) (by omega) (by omega))).t
      have u74 : am_up J 99 2 0 99 74 = u := by rw [am_up_n _ _ _ _ (by decide), fj 99 (by decide) (by decide) (by decide) (by decide) (by decide)]; exact hl.2.2.1
      rw [S230]
      simp (disch := omega) only [Kk, B230_5, s201, c1, if_true, s153, c2, GA, GR, GRc, GO, GI, GL, GV, am_w_i, am_ga, am_it, am_if, true_and, and_true, or_true, true_or, ne_eq, not_false_eq_true, not_true_eq_false, false_imp_iff, true_imp_iff, Int.reduceEq, Int.reduceLT, Int.reduceLE, Int.reduceAdd, Int.reduceSub, Int.reduceMul, Int.reduceNeg]
      refine s275 mJ u74 h20 (fun I2 k1 k2 k3 k4 k5 => ?_)
      have mI : MS I2 L 0 σ := mJ.k (fun a _ _ => k4 a (by omega) (by omega))
      have i128 : I2 128 t = σ 2 t := mI.p0 ht.1 ht.2
      have mu : MS (am_up I2 128 t (am_min 9999 (σ 2 t + a))) L 0 (am_up σ 2 t (am_min 9999 (σ 2 t + a))) := by
        have := mI.u2 (i := t) (v := am_min 9999 (σ 2 t + a))
        rw [show 2 * 0 + t = t by omega] at this; exact this
      have fm : Fr (fun a => a = 127 ∨ a = 128) I2 (am_up I2 128 t (am_min 9999 (σ 2 t + a))) := Fr.rf.up (Or.inr rfl)
      simp (disch := omega) only [Kk, Ks, i128, s203 (a := 0) (b := 9999), B230_49, am_up_s, GA, GR, GRc, GO, GI, GL, GV, am_w_i, am_ga, am_it, am_if, true_and, and_true, or_true, true_or, ne_eq, not_false_eq_true, not_true_eq_false, false_imp_iff, true_imp_iff, Int.reduceEq, Int.reduceLT, Int.reduceLE, Int.reduceAdd, Int.reduceSub, Int.reduceMul, Int.reduceNeg]
      refine ⟨by rw [← mm], by simp, w, _, L, rfl, V, lw, _, n, f, g, G.ps hl (k := -1) (by have := hV.1.1; omega) (fun j j0 j1 hj => ?_) ?_ ?_ W1 p1 p2 p3 fu ru ⟨k1, k2, k3⟩ k4 k5 ?_ ?_⟩
      · rw [am_up_a _ _ _ _ (by decide)]
      · rw [am_up_a _ _ _ _ (by decide)]
      · rw [am_up_a _ _ _ _ (by decide)]
      · exact Fr.rf.up (Or.inr rfl)
      · rw [← mm]; exact mu
    · refine no (-1) ?_ ?_
      · rw [S104]
        simp (disch := omega) only [s95, c1, if_true, s96, c2, if_false, B104_17, GA, GR, GRc, GO, GI, GL, GV, am_w_i, am_ga, am_it, am_if, true_and, and_true, or_true, true_or, ne_eq, not_false_eq_true, not_true_eq_false, false_imp_iff, true_imp_iff, Int.reduceEq, Int.reduceLT, Int.reduceLE, Int.reduceAdd, Int.reduceSub, Int.reduceMul, Int.reduceNeg]
      · rw [S230]
        simp (disch := omega) only [Kk, B230_5, s201, c1, if_true, s153, c2, if_false, B230_22, GA, GR, GRc, GO, GI, GL, GV, am_w_i, am_ga, am_it, am_if, true_and, and_true, or_true, true_or, ne_eq, not_false_eq_true, not_true_eq_false, false_imp_iff, true_imp_iff, Int.reduceEq, Int.reduceLT, Int.reduceLE, Int.reduceAdd, Int.reduceSub, Int.reduceMul, Int.reduceNeg]
  · refine no (-1) ?_ ?_
    · rw [S104]
      simp (disch := omega) only [s95, c1, if_false, B104_17, GA, GR, GRc, GO, GI, GL, GV, am_w_i, am_ga, am_it, am_if, true_and, and_true, or_true, true_or, ne_eq, not_false_eq_true, not_true_eq_false, false_imp_iff, true_imp_iff, Int.reduceEq, Int.reduceLT, Int.reduceLE, Int.reduceAdd, Int.reduceSub, Int.reduceMul, Int.reduceNeg]
    · rw [S230]
      simp (disch := omega) only [Kk, B230_5, s201, c1, if_false, B230_22, GA, GR, GRc, GO, GI, GL, GV, am_w_i, am_ga, am_it, am_if, true_and, and_true, or_true, true_or, ne_eq, not_false_eq_true, not_true_eq_false, false_imp_iff, true_imp_iff, Int.reduceEq, Int.reduceLT, Int.reduceLE, Int.reduceAdd, Int.reduceSub, Int.reduceMul, Int.reduceNeg]
set_option maxHeartbeats 1000000 in
theorem p_exchange {k : Int} : PM 105 231 [vI k] := by
  intro d w I L hG
  have no := fun r => PM.no (d := d) (j1 := 105) (j2 := 231) (as := [vI k]) r hG
  obtain ⟨V, lw, σ, n, f, g, G⟩ := hG
  obtain ⟨⟨hw, hR, hL, hV, hM, hN⟩, rS, mS, wS, ny, ct⟩ := G.1
  obtain ⟨u, hl⟩ := G.2.2.2.2.2.2.1
  by_cases c1 : 0 ≤ k ∧ k < V 0 0
  · have h6 := hV.1.1
    have hk : 0 ≤ k ∧ k < 6 := by omega
    have gp := rS.gap (k := k) (by omega) (by omega)
    by_cases c2 : px_gap σ k = 0
    · refine no 0 ?_ ?_
      · rw [S105]
        simp (disch := omega) only [s93 hw hR, c1, if_true, KX, HS (show isS 51 from Or.inl rfl), s62 (s := 51) (Or.inl rfl) hk (rS.bA wS.1), gp, c2, B105_19, GA, GR, GRc, GO, GI, GL, GV, am_w_i, am_ga, am_it, am_if, true_and, and_true, or_true, true_or, ne_eq, not_false_eq_true, not_true_eq_false, false_imp_iff, true_imp_iff, Int.reduceEq, Int.reduceLT, Int.reduceLE, Int.reduceAdd, Int.reduceSub, Int.reduceMul, Int.reduceNeg]
      · rw [S231]
        simp (disch := omega) only [Kk, B231_5, s199 hM.t, c1, if_true, s205 (b := 0) (Or.inl rfl) hk mS.t wS, c2, B231_22, GA, GR, GRc, GO, GI, GL, GV, am_w_i, am_ga, am_it, am_if, true_and, and_true, or_true, true_or, ne_eq, not_false_eq_true, not_true_eq_false, false_imp_iff, true_imp_iff, Int.reduceEq, Int.reduceLT, Int.reduceLE, Int.reduceAdd, Int.reduceSub, Int.reduceMul, Int.reduceNeg]
    · have hu := hl.2.1
      have h20 := hl.1
      have W1 : WS 9000 (am_up (am_up σ 1 (2 * k) (σ 1 (2 * k + 1))) 1 (2 * k + 1) (σ 1 (2 * k))) := (wS.u1 (wS.1 _ (by omega) (by omega))).u1 (wS.1 _ (by omega) (by omega))
      rw [S105]
      simp (disch := omega) only [s93 hw hR, c1, if_true, KX, HS (show isS 51 from Or.inl rfl), s62 (s := 51) (Or.inl rfl) hk (rS.bA wS.1), gp, c2, GA, GR, GRc, GO, GI, GL, GV, am_w_i, am_ga, am_it, am_if, true_and, and_true, or_true, true_or, ne_eq, not_false_eq_true, not_true_eq_false, false_imp_iff, true_imp_iff, Int.reduceEq, Int.reduceLT, Int.reduceLE, Int.reduceAdd, Int.reduceSub, Int.reduceMul, Int.reduceNeg]
      refine s106 (k := k) rS wS hu h20 (by omega) (fun I1 p1 p2 p3 => ?_)
      have r1 : RS I1 51 σ := rS.fr (fun a _ _ => p3 a (by omega))
      have f0 : I1 (51 + 1) (2 * k) = σ 1 (2 * k) := r1.1 _ (by omega) (by omega)
      have f1 : I1 (51 + 1) (2 * k + 1) = σ 1 (2 * k + 1) := r1.1 _ (by omega) (by omega)
      simp (disch := omega) only [KX, HS (show isS 51 from Or.inl rfl), s59 (s := 51) (Or.inl rfl) (k := k) (t := 0) hk (by omega), s59 (s := 51) (Or.inl rfl) (k := k) (t := 1) hk (by omega), s60 (s := 51) (Or.inl rfl) (k := k) (t := 0) hk (by omega), s60 (s := 51) (Or.inl rfl) (k := k) (t := 1) hk (by omega), Int.add_zero, f0, f1, GA, GR, GRc, GO, GI, GL, GV, am_w_i, am_ga, am_it, am_if, true_and, and_true, or_true, true_or, ne_eq, not_false_eq_true, not_true_eq_false, false_imp_iff, true_imp_iff, Int.reduceEq, Int.reduceLT, Int.reduceLE, Int.reduceAdd, Int.reduceSub, Int.reduceMul, Int.reduceNeg]
      have ru := (r1.u1 (i := 2 * k) (v := σ 1 (2 * k + 1))).u1 (i := 2 * k + 1) (v := σ 1 (2 * k))
      have fu : Fr (fun a => a = 52 ∨ a = 53) I1 (am_up (am_up I1 (51 + 1) (2 * k) (σ 1 (2 * k + 1))) (51 + 1) (2 * k + 1) (σ 1 (2 * k))) := (Fr.rf.up (Or.inl rfl)).up (Or.inl rfl)
      generalize hJ : am_up (am_up I1 (51 + 1) (2 * k) (σ 1 (2 * k + 1))) (51 + 1) (2 * k + 1) (σ 1 (2 * k)) = J at *
      have fj : ∀ a, a ≠ 52 → a ≠ 53 → a ≠ 90 → a ≠ 91 → a ≠ 64 → J a = I a := fun a x1 x2 x3 x4 x5 => by rw [fu a (by omega), p3 a (by omega)]
      have hMJ : MW (am_up J 99 2 0) V := (hM.fr (fun a _ _ => fj a (by omega) (by omega) (by omega) (by omega) (by omega)) (fun j _ _ => by rw [fj 99 (by decide) (by decide) (by decide) (by decide) (by decide)])).t
      have mJ : MS (am_up J 99 2 0) L 0 σ := (mS.k (fun a _ _ => fj a (by omega) (by omega) (by omega) (by omega) (by omega))).t
      have u74 : am_up J 99 2 0 99 74 = u := by rw [am_up_n _ _ _ _ (by decide), fj 99 (by decide) (by decide) (by decide) (by decide) (by decide)]; exact hl.2.2.1
      rw [S231]
      simp (disch := omega) only [Kk, B231_5, s199 hMJ, c1, if_true, s205 (b := 0) (Or.inl rfl) hk mJ wS, c2, GA, GR, GRc, GO, GI, GL, GV, am_w_i, am_ga, am_it, am_if, true_and, and_true, or_true, true_or, ne_eq, not_false_eq_true, not_true_eq_false, false_imp_iff, true_imp_iff, Int.reduceEq, Int.reduceLT, Int.reduceLE, Int.reduceAdd, Int.reduceSub, Int.reduceMul, Int.reduceNeg]
      refine s275 mJ u74 h20 (fun I2 k1 k2 k3 k4 k5 => ?_)
      have mI : MS I2 L 0 σ := mJ.k (fun a _ _ => k4 a (by omega) (by omega))
      have i0 : I2 127 (2 * k) = σ 1 (2 * k) := mI.a0 (by omega) (by omega)
      have i1 : I2 127 (2 * k + 1) = σ 1 (2 * k + 1) := mI.a0 (by omega) (by omega)
      have mu : MS (am_up (am_up I2 127 (2 * k) (σ 1 (2 * k + 1))) 127 (2 * k + 1) (σ 1 (2 * k))) L 0 (am_up (am_up σ 1 (2 * k) (σ 1 (2 * k + 1))) 1 (2 * k + 1) (σ 1 (2 * k))) := by
        have := (mI.u1 (i := 2 * k) (v := σ 1 (2 * k + 1))).u1 (i := 2 * k + 1) (v := σ 1 (2 * k))
        rw [show 12 * 0 + 2 * k = 2 * k by omega, show 12 * 0 + (2 * k + 1) = 2 * k + 1 by omega] at this; exact this
      have fm : Fr (fun a => a = 127 ∨ a = 128) I2 (am_up (am_up I2 127 (2 * k) (σ 1 (2 * k + 1))) 127 (2 * k + 1) (σ 1 (2 * k))) := (Fr.rf.up (Or.inl rfl)).up (Or.inl rfl)
      simp (disch := omega) only [Kk, Ks, i0, i1, B231_55, B231_66, GA, GR, GRc, GO, GI, GL, GV, am_w_i, am_ga, am_it, am_if, true_and, and_true, or_true, true_or, ne_eq, not_false_eq_true, not_true_eq_false, false_imp_iff, true_imp_iff, Int.reduceEq, Int.reduceLT, Int.reduceLE, Int.reduceAdd, Int.reduceSub, Int.reduceMul, Int.reduceNeg]
      refine ⟨by simp, w, _, L, rfl, V, lw, _, n, f, g, G.ps hl (k := k) (by omega) (fun j j0 j1 hj => ?_) ?_ ?_ W1 p1 p2 p3 fu ru ⟨k1, k2, k3⟩ k4 k5 fm mu⟩
      · rw [am_up_n _ _ _ _ (by omega), am_up_n _ _ _ _ (by omega)]
      · rw [am_up_a _ _ _ _ (by decide), am_up_a _ _ _ _ (by decide)]
      · rw [am_up_a _ _ _ _ (by decide), am_up_a _ _ _ _ (by decide)]
  · refine no 0 ?_ ?_
    · rw [S105]
      simp (disch := omega) only [s93 hw hR, c1, if_false, KX, B105_19, GA, GR, GRc, GO, GI, GL, GV, am_w_i, am_ga, am_it, am_if, true_and, and_true, or_true, true_or, ne_eq, not_false_eq_true, not_true_eq_false, false_imp_iff, true_imp_iff, Int.reduceEq, Int.reduceLT, Int.reduceLE, Int.reduceAdd, Int.reduceSub, Int.reduceMul, Int.reduceNeg]
    · rw [S231]
      simp (disch := omega) only [Kk, B231_5, s199 hM.t, c1, if_false, B231_22, GA, GR, GRc, GO, GI, GL, GV, am_w_i, am_ga, am_it, am_if, true_and, and_true, or_true, true_or, ne_eq, not_false_eq_true, not_true_eq_false, false_imp_iff, true_imp_iff, Int.reduceEq, Int.reduceLT, Int.reduceLE, Int.reduceAdd, Int.reduceSub, Int.reduceMul, Int.reduceNeg]
