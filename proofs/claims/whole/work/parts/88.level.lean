/-! 88: cheap, few, alone -/
theorem QF.lv {I I' : (Nat → Int → Int)} (f : ∀ a, a ≠ 132 → a ≠ 133 → I' a = I a) : QF I I' := ⟨fun a x y => f a (by omega) (by omega), fun j _ _ _ => by rw [f 99 (by decide) (by decide)], ⟨fun _ _ _ => by rw [f 127 (by decide) (by decide)], fun _ _ _ => by rw [f 128 (by decide) (by decide)], fun _ _ _ => by rw [f 129 (by decide) (by decide)], by rw [f 130 (by decide) (by decide)], by rw [f 131 (by decide) (by decide)]⟩⟩
set_option maxHeartbeats 1000000 in
theorem p_cheap {k : Int} : PM 113 239 [vI k] := by
  intro d w I L hG
  have no := fun r => PM.no (d := d) (j1 := 113) (j2 := 239) (as := [vI k]) r hG
  obtain ⟨V, lw, σ, n, f, g, G⟩ := hG
  obtain ⟨⟨hw, hR, hL, hV, hM, hN⟩, rS, mS, wS, ny, ct⟩ := G.1
  by_cases c1 : 0 ≤ k ∧ k < V 0 0
  · have hk : 0 ≤ k ∧ k < 6 := by have := hV.1.1; omega
    rw [S113]
    simp (disch := omega) only [KX, KV, s93 hw hR, c1, if_true, GA, GR, GRc, GO, GI, GL, GV, am_w_i, am_ga, am_it, am_if, true_and, and_true, or_true, true_or, ne_eq, not_false_eq_true, not_true_eq_false, false_imp_iff, true_imp_iff, Int.reduceEq, Int.reduceLT, Int.reduceLE, Int.reduceAdd, Int.reduceSub, Int.reduceMul, Int.reduceNeg]
    refine s22 (A := True) (B := True) hw hR hV rS wS hk ⟨fun _ => trivial, fun _ => by decide⟩ ⟨fun _ => trivial, fun _ => by decide⟩ (Or.inl rfl) (fun c => ?_) (fun c I1 v f1 hv => ?_)
    · simp (disch := omega) only [B113_30, GA, GR, GRc, GO, GI, GL, GV, am_w_i, am_ga, am_it, am_if, true_and, and_true, or_true, true_or, ne_eq, not_false_eq_true, not_true_eq_false, false_imp_iff, true_imp_iff, Int.reduceEq, Int.reduceLT, Int.reduceLE, Int.reduceAdd, Int.reduceSub, Int.reduceMul, Int.reduceNeg]
      have G2 := G.q (QR.t (v := 0))
      obtain ⟨⟨-, -, -, -, hM2, -⟩, -, mS2, -⟩ := G2.1
      rw [S239]
      simp (disch := omega) only [Kk, B239_5, s199 hM2, c1, if_true, GA, GR, GRc, GO, GI, GL, GV, am_w_i, am_ga, am_it, am_if, true_and, and_true, or_true, true_or, ne_eq, not_false_eq_true, not_true_eq_false, false_imp_iff, true_imp_iff, Int.reduceEq, Int.reduceLT, Int.reduceLE, Int.reduceAdd, Int.reduceSub, Int.reduceMul, Int.reduceNeg]
      refine s238 (o := 0) (A := True) (B := True) hM2 hV mS2 wS hk ⟨fun _ => trivial, fun _ => Or.inl rfl⟩ ⟨fun _ => trivial, fun _ => Or.inl rfl⟩ (Or.inl ⟨rfl, rfl⟩) (fun _ => ?_) (fun c' => absurd c' c)
      simp (disch := omega) only [B239_24, GA, GR, GRc, GO, GI, GL, GV, am_w_i, am_ga, am_it, am_if, true_and, and_true, or_true, true_or, ne_eq, not_false_eq_true, not_true_eq_false, false_imp_iff, true_imp_iff, Int.reduceEq, Int.reduceLT, Int.reduceLE, Int.reduceAdd, Int.reduceSub, Int.reduceMul, Int.reduceNeg]
      exact ⟨by simp, w, _, L, rfl, V, lw, σ, n, f, g, G2⟩
    · simp (disch := omega) only [B113_30, GA, GR, GRc, GO, GI, GL, GV, am_w_i, am_ga, am_it, am_if, true_and, and_true, or_true, true_or, ne_eq, not_false_eq_true, not_true_eq_false, false_imp_iff, true_imp_iff, Int.reduceEq, Int.reduceLT, Int.reduceLE, Int.reduceAdd, Int.reduceSub, Int.reduceMul, Int.reduceNeg]
      have G1 := G.q (w' := w) (L' := L) ⟨⟨rfl, rfl, rfl⟩, QF.cl (fun a ha => f1 a (by omega)), QL.rf⟩
      have G2 := G1.q (QR.t (v := 0))
      obtain ⟨⟨-, -, -, -, hM2, -⟩, -, mS2, -⟩ := G2.1
      rw [S239]
      simp (disch := omega) only [Kk, B239_5, s199 hM2, c1, if_true, GA, GR, GRc, GO, GI, GL, GV, am_w_i, am_ga, am_it, am_if, true_and, and_true, or_true, true_or, ne_eq, not_false_eq_true, not_true_eq_false, false_imp_iff, true_imp_iff, Int.reduceEq, Int.reduceLT, Int.reduceLE, Int.reduceAdd, Int.reduceSub, Int.reduceMul, Int.reduceNeg]
      refine s238 (o := 0) (A := True) (B := True) hM2 hV mS2 wS hk ⟨fun _ => trivial, fun _ => Or.inl rfl⟩ ⟨fun _ => trivial, fun _ => Or.inl rfl⟩ (Or.inl ⟨rfl, rfl⟩) (fun c' => absurd c c') (fun c' I2 v2 f2 hv2 => ?_)
      simp (disch := omega) only [B239_24, GA, GR, GRc, GO, GI, GL, GV, am_w_i, am_ga, am_it, am_if, true_and, and_true, or_true, true_or, ne_eq, not_false_eq_true, not_true_eq_false, false_imp_iff, true_imp_iff, Int.reduceEq, Int.reduceLT, Int.reduceLE, Int.reduceAdd, Int.reduceSub, Int.reduceMul, Int.reduceNeg]
      exact ⟨by rw [lv_same hv hv2], by simp, w, I2, L, rfl, V, lw, σ, n, f, g, G2.q ⟨⟨rfl, rfl, rfl⟩, QF.lv f2, QL.rf⟩⟩
  · refine no (-1) ?_ ?_
    · rw [S113]
      simp (disch := omega) only [KX, s93 hw hR, c1, if_false, B113_30, GA, GR, GRc, GO, GI, GL, GV, am_w_i, am_ga, am_it, am_if, true_and, and_true, or_true, true_or, ne_eq, not_false_eq_true, not_true_eq_false, false_imp_iff, true_imp_iff, Int.reduceEq, Int.reduceLT, Int.reduceLE, Int.reduceAdd, Int.reduceSub, Int.reduceMul, Int.reduceNeg]
    · rw [S239]
      simp (disch := omega) only [Kk, B239_5, s199 hM.t, c1, if_false, B239_24, GA, GR, GRc, GO, GI, GL, GV, am_w_i, am_ga, am_it, am_if, true_and, and_true, or_true, true_or, ne_eq, not_false_eq_true, not_true_eq_false, false_imp_iff, true_imp_iff, Int.reduceEq, Int.reduceLT, Int.reduceLE, Int.reduceAdd, Int.reduceSub, Int.reduceMul, Int.reduceNeg]
set_option maxHeartbeats 1000000 in
theorem p_few {k : Int} : PM 114 240 [vI k] := by
  intro d w I L hG
  have no := fun r => PM.no (d := d) (j1 := 114) (j2 := 240) (as := [vI k]) r hG
  obtain ⟨V, lw, σ, n, f, g, G⟩ := hG
  obtain ⟨⟨hw, hR, hL, hV, hM, hN⟩, rS, mS, wS, ny, ct⟩ := G.1
  by_cases c1 : 0 ≤ k ∧ k < V 0 0
  · have hk : 0 ≤ k ∧ k < 6 := by have := hV.1.1; omega
    rw [S114]
    simp (disch := omega) only [KX, KV, s93 hw hR, c1, if_true, GA, GR, GRc, GO, GI, GL, GV, am_w_i, am_ga, am_it, am_if, true_and, and_true, or_true, true_or, ne_eq, not_false_eq_true, not_true_eq_false, false_imp_iff, true_imp_iff, Int.reduceEq, Int.reduceLT, Int.reduceLE, Int.reduceAdd, Int.reduceSub, Int.reduceMul, Int.reduceNeg]
    refine s22 (A := True) (B := True) hw hR hV rS wS hk ⟨fun _ => trivial, fun _ => by decide⟩ ⟨fun _ => trivial, fun _ => by decide⟩ (Or.inr rfl) (fun c => ?_) (fun c I1 v f1 hv => ?_)
    · simp (disch := omega) only [B114_30, GA, GR, GRc, GO, GI, GL, GV, am_w_i, am_ga, am_it, am_if, true_and, and_true, or_true, true_or, ne_eq, not_false_eq_true, not_true_eq_false, false_imp_iff, true_imp_iff, Int.reduceEq, Int.reduceLT, Int.reduceLE, Int.reduceAdd, Int.reduceSub, Int.reduceMul, Int.reduceNeg]
      have G2 := G.q (QR.t (v := 0))
      obtain ⟨⟨-, -, -, -, hM2, -⟩, -, mS2, -⟩ := G2.1
      rw [S240]
      simp (disch := omega) only [Kk, B240_5, s199 hM2, c1, if_true, GA, GR, GRc, GO, GI, GL, GV, am_w_i, am_ga, am_it, am_if, true_and, and_true, or_true, true_or, ne_eq, not_false_eq_true, not_true_eq_false, false_imp_iff, true_imp_iff, Int.reduceEq, Int.reduceLT, Int.reduceLE, Int.reduceAdd, Int.reduceSub, Int.reduceMul, Int.reduceNeg]
      refine s238 (o := 1) (A := True) (B := True) hM2 hV mS2 wS hk ⟨fun _ => trivial, fun _ => Or.inl rfl⟩ ⟨fun _ => trivial, fun _ => Or.inl rfl⟩ (Or.inr ⟨rfl, rfl⟩) (fun _ => ?_) (fun c' => absurd c' c)
      simp (disch := omega) only [B240_24, GA, GR, GRc, GO, GI, GL, GV, am_w_i, am_ga, am_it, am_if, true_and, and_true, or_true, true_or, ne_eq, not_false_eq_true, not_true_eq_false, false_imp_iff, true_imp_iff, Int.reduceEq, Int.reduceLT, Int.reduceLE, Int.reduceAdd, Int.reduceSub, Int.reduceMul, Int.reduceNeg]
      exact ⟨by simp, w, _, L, rfl, V, lw, σ, n, f, g, G2⟩
    · simp (disch := omega) only [B114_30, GA, GR, GRc, GO, GI, GL, GV, am_w_i, am_ga, am_it, am_if, true_and, and_true, or_true, true_or, ne_eq, not_false_eq_true, not_true_eq_false, false_imp_iff, true_imp_iff, Int.reduceEq, Int.reduceLT, Int.reduceLE, Int.reduceAdd, Int.reduceSub, Int.reduceMul, Int.reduceNeg]
      have G1 := G.q (w' := w) (L' := L) ⟨⟨rfl, rfl, rfl⟩, QF.cl (fun a ha => f1 a (by omega)), QL.rf⟩
      have G2 := G1.q (QR.t (v := 0))
      obtain ⟨⟨-, -, -, -, hM2, -⟩, -, mS2, -⟩ := G2.1
      rw [S240]
      simp (disch := omega) only [Kk, B240_5, s199 hM2, c1, if_true, GA, GR, GRc, GO, GI, GL, GV, am_w_i, am_ga, am_it, am_if, true_and, and_true, or_true, true_or, ne_eq, not_false_eq_true, not_true_eq_false, false_imp_iff, true_imp_iff, Int.reduceEq, Int.reduceLT, Int.reduceLE, Int.reduceAdd, Int.reduceSub, Int.reduceMul, Int.reduceNeg]
      refine s238 (o := 1) (A := True) (B := True) hM2 hV mS2 wS hk ⟨fun _ => trivial, fun _ => Or.inl rfl⟩ ⟨fun _ => trivial, fun _ => Or.inl rfl⟩ (Or.inr ⟨rfl, rfl⟩) (fun c' => absurd c c') (fun c' I2 v2 f2 hv2 => ?_)
      simp (disch := omega) only [B240_24, GA, GR, GRc, GO, GI, GL, GV, am_w_i, am_ga, am_it, am_if, true_and, and_true, or_true, true_or, ne_eq, not_false_eq_true, not_true_eq_false, false_imp_iff, true_imp_iff, Int.reduceEq, Int.reduceLT, Int.reduceLE, Int.reduceAdd, Int.reduceSub, Int.reduceMul, Int.reduceNeg]
      exact ⟨by rw [lv_same hv hv2], by simp, w, I2, L, rfl, V, lw, σ, n, f, g, G2.q ⟨⟨rfl, rfl, rfl⟩, QF.lv f2, QL.rf⟩⟩
  · refine no (-1) ?_ ?_
    · rw [S114]
      simp (disch := omega) only [KX, s93 hw hR, c1, if_false, B114_30, GA, GR, GRc, GO, GI, GL, GV, am_w_i, am_ga, am_it, am_if, true_and, and_true, or_true, true_or, ne_eq, not_false_eq_true, not_true_eq_false, false_imp_iff, true_imp_iff, Int.reduceEq, Int.reduceLT, Int.reduceLE, Int.reduceAdd, Int.reduceSub, Int.reduceMul, Int.reduceNeg]
    · rw [S240]
      simp (disch := omega) only [Kk, B240_5, s199 hM.t, c1, if_false, B240_24, GA, GR, GRc, GO, GI, GL, GV, am_w_i, am_ga, am_it, am_if, true_and, and_true, or_true, true_or, ne_eq, not_false_eq_true, not_true_eq_false, false_imp_iff, true_imp_iff, Int.reduceEq, Int.reduceLT, Int.reduceLE, Int.reduceAdd, Int.reduceSub, Int.reduceMul, Int.reduceNeg]
set_option maxHeartbeats 1000000 in
theorem p_alone {k t : Int} : PM 115 241 [vI k, vI t] := by
  intro d w I L hG
  have no := fun r => PM.no (d := d) (j1 := 115) (j2 := 241) (as := [vI k, vI t]) r hG
  obtain ⟨V, lw, σ, n, f, g, G⟩ := hG
  obtain ⟨⟨hw, hR, hL, hV, hM, hN⟩, rS, mS, wS, ny, ct⟩ := G.1
  by_cases c1 : 0 ≤ k ∧ k < V 0 0
  · have hk : 0 ≤ k ∧ k < 6 := by have := hV.1.1; omega
    by_cases c2 : t = 0 ∨ t = 1
    · rcases c2 with e | e
      · subst e
        rw [S115]
        simp (disch := omega) only [KX, KV, s93 hw hR, c1, if_true, s95, true_or, or_true, GA, GR, GRc, GO, GI, GL, GV, am_w_i, am_ga, am_it, am_if, true_and, and_true, or_true, true_or, ne_eq, not_false_eq_true, not_true_eq_false, false_imp_iff, true_imp_iff, Int.reduceEq, Int.reduceLT, Int.reduceLE, Int.reduceAdd, Int.reduceSub, Int.reduceMul, Int.reduceNeg]
        refine s22 (A := ((0 : Int) = 0)) (B := ((0 : Int) = 1)) hw hR hV rS wS hk (by decide) (by decide) (Or.inl rfl) (fun c => ?_) (fun c I1 v f1 hv => ?_)
        · simp (disch := omega) only [B115_39, GA, GR, GRc, GO, GI, GL, GV, am_w_i, am_ga, am_it, am_if, true_and, and_true, or_true, true_or, ne_eq, not_false_eq_true, not_true_eq_false, false_imp_iff, true_imp_iff, Int.reduceEq, Int.reduceLT, Int.reduceLE, Int.reduceAdd, Int.reduceSub, Int.reduceMul, Int.reduceNeg]
          have G2 := G.q (QR.t (v := 0))
          obtain ⟨⟨-, -, -, -, hM2, -⟩, -, mS2, -⟩ := G2.1
          rw [S241]
          simp (disch := omega) only [Kk, B241_5, s199 hM2, c1, if_true, s201, true_or, or_true, GA, GR, GRc, GO, GI, GL, GV, am_w_i, am_ga, am_it, am_if, true_and, and_true, or_true, true_or, ne_eq, not_false_eq_true, not_true_eq_false, false_imp_iff, true_imp_iff, Int.reduceEq, Int.reduceLT, Int.reduceLE, Int.reduceAdd, Int.reduceSub, Int.reduceMul, Int.reduceNeg]
          refine s238 (o := 0) (A := ((0 : Int) = 0)) (B := ((0 : Int) = 1)) hM2 hV mS2 wS hk (by decide) (by decide) (Or.inl ⟨rfl, rfl⟩) (fun _ => ?_) (fun c' => absurd c' c)
          simp (disch := omega) only [B241_31, GA, GR, GRc, GO, GI, GL, GV, am_w_i, am_ga, am_it, am_if, true_and, and_true, or_true, true_or, ne_eq, not_false_eq_true, not_true_eq_false, false_imp_iff, true_imp_iff, Int.reduceEq, Int.reduceLT, Int.reduceLE, Int.reduceAdd, Int.reduceSub, Int.reduceMul, Int.reduceNeg]
          exact ⟨by simp, w, _, L, rfl, V, lw, σ, n, f, g, G2⟩
        · simp (disch := omega) only [B115_39, GA, GR, GRc, GO, GI, GL, GV, am_w_i, am_ga, am_it, am_if, true_and, and_true, or_true, true_or, ne_eq, not_false_eq_true, not_true_eq_false, false_imp_iff, true_imp_iff, Int.reduceEq, Int.reduceLT, Int.reduceLE, Int.reduceAdd, Int.reduceSub, Int.reduceMul, Int.reduceNeg]
          have G1 := G.q (w' := w) (L' := L) ⟨⟨rfl, rfl, rfl⟩, QF.cl (fun a ha => f1 a (by omega)), QL.rf⟩
          have G2 := G1.q (QR.t (v := 0))
          obtain ⟨⟨-, -, -, -, hM2, -⟩, -, mS2, -⟩ := G2.1
          rw [S241]
          simp (disch := omega) only [Kk, B241_5, s199 hM2, c1, if_true, s201, true_or, or_true, GA, GR, GRc, GO, GI, GL, GV, am_w_i, am_ga, am_it, am_if, true_and, and_true, or_true, true_or, ne_eq, not_false_eq_true, not_true_eq_false, false_imp_iff, true_imp_iff, Int.reduceEq, Int.reduceLT, Int.reduceLE, Int.reduceAdd, Int.reduceSub, Int.reduceMul, Int.reduceNeg]
          refine s238 (o := 0) (A := ((0 : Int) = 0)) (B := ((0 : Int) = 1)) hM2 hV mS2 wS hk (by decide) (by decide) (Or.inl ⟨rfl, rfl⟩) (fun c' => absurd c c') (fun c' I2 v2 f2 hv2 => ?_)
          simp (disch := omega) only [B241_31, GA, GR, GRc, GO, GI, GL, GV, am_w_i, am_ga, am_it, am_if, true_and, and_true, or_true, true_or, ne_eq, not_false_eq_true, not_true_eq_false, false_imp_iff, true_imp_iff, Int.reduceEq, Int.reduceLT, Int.reduceLE, Int.reduceAdd, Int.reduceSub, Int.reduceMul, Int.reduceNeg]
          exact ⟨by rw [lv_same hv hv2], by simp, w, I2, L, rfl, V, lw, σ, n, f, g, G2.q ⟨⟨rfl, rfl, rfl⟩, QF.lv f2, QL.rf⟩⟩
      · subst e
        rw [S115]
        simp (disch := omega) only [KX, KV, s93 hw hR, c1, if_true, s95, true_or, or_true, GA, GR, GRc, GO, GI, GL, GV, am_w_i, am_ga, am_it, am_if, true_and, and_true, or_true, true_or, ne_eq, not_false_eq_true, not_true_eq_false, false_imp_iff, true_imp_iff, Int.reduceEq, Int.reduceLT, Int.reduceLE, Int.reduceAdd, Int.reduceSub, Int.reduceMul, Int.reduceNeg]
        refine s22 (A := ((1 : Int) = 0)) (B := ((1 : Int) = 1)) hw hR hV rS wS hk (by decide) (by decide) (Or.inl rfl) (fun c => ?_) (fun c I1 v f1 hv => ?_)
        · simp (disch := omega) only [B115_39, GA, GR, GRc, GO, GI, GL, GV, am_w_i, am_ga, am_it, am_if, true_and, and_true, or_true, true_or, ne_eq, not_false_eq_true, not_true_eq_false, false_imp_iff, true_imp_iff, Int.reduceEq, Int.reduceLT, Int.reduceLE, Int.reduceAdd, Int.reduceSub, Int.reduceMul, Int.reduceNeg]
          have G2 := G.q (QR.t (v := 0))
          obtain ⟨⟨-, -, -, -, hM2, -⟩, -, mS2, -⟩ := G2.1
          rw [S241]
          simp (disch := omega) only [Kk, B241_5, s199 hM2, c1, if_true, s201, true_or, or_true, GA, GR, GRc, GO, GI, GL, GV, am_w_i, am_ga, am_it, am_if, true_and, and_true, or_true, true_or, ne_eq, not_false_eq_true, not_true_eq_false, false_imp_iff, true_imp_iff, Int.reduceEq, Int.reduceLT, Int.reduceLE, Int.reduceAdd, Int.reduceSub, Int.reduceMul, Int.reduceNeg]
          refine s238 (o := 0) (A := ((1 : Int) = 0)) (B := ((1 : Int) = 1)) hM2 hV mS2 wS hk (by decide) (by decide) (Or.inl ⟨rfl, rfl⟩) (fun _ => ?_) (fun c' => absurd c' c)
          simp (disch := omega) only [B241_31, GA, GR, GRc, GO, GI, GL, GV, am_w_i, am_ga, am_it, am_if, true_and, and_true, or_true, true_or, ne_eq, not_false_eq_true, not_true_eq_false, false_imp_iff, true_imp_iff, Int.reduceEq, Int.reduceLT, Int.reduceLE, Int.reduceAdd, Int.reduceSub, Int.reduceMul, Int.reduceNeg]
          exact ⟨by simp, w, _, L, rfl, V, lw, σ, n, f, g, G2⟩
        · simp (disch := omega) only [B115_39, GA, GR, GRc, GO, GI, GL, GV, am_w_i, am_ga, am_it, am_if, true_and, and_true, or_true, true_or, ne_eq, not_false_eq_true, not_true_eq_false, false_imp_iff, true_imp_iff, Int.reduceEq, Int.reduceLT, Int.reduceLE, Int.reduceAdd, Int.reduceSub, Int.reduceMul, Int.reduceNeg]
          have G1 := G.q (w' := w) (L' := L) ⟨⟨rfl, rfl, rfl⟩, QF.cl (fun a ha => f1 a (by omega)), QL.rf⟩
          have G2 := G1.q (QR.t (v := 0))
          obtain ⟨⟨-, -, -, -, hM2, -⟩, -, mS2, -⟩ := G2.1
          rw [S241]
          simp (disch := omega) only [Kk, B241_5, s199 hM2, c1, if_true, s201, true_or, or_true, GA, GR, GRc, GO, GI, GL, GV, am_w_i, am_ga, am_it, am_if, true_and, and_true, or_true, true_or, ne_eq, not_false_eq_true, not_true_eq_false, false_imp_iff, true_imp_iff, Int.reduceEq, Int.reduceLT, Int.reduceLE, Int.reduceAdd, Int.reduceSub, Int.reduceMul, Int.reduceNeg]
          refine s238 (o := 0) (A := ((1 : Int) = 0)) (B := ((1 : Int) = 1)) hM2 hV mS2 wS hk (by decide) (by decide) (Or.inl ⟨rfl, rfl⟩) (fun c' => absurd c c') (fun c' I2 v2 f2 hv2 => ?_)
          simp (disch := omega) only [B241_31, GA, GR, GRc, GO, GI, GL, GV, am_w_i, am_ga, am_it, am_if, true_and, and_true, or_true, true_or, ne_eq, not_false_eq_true, not_true_eq_false, false_imp_iff, true_imp_iff, Int.reduceEq, Int.reduceLT, Int.reduceLE, Int.reduceAdd, Int.reduceSub, Int.reduceMul, Int.reduceNeg]
          exact ⟨by rw [lv_same hv hv2], by simp, w, I2, L, rfl, V, lw, σ, n, f, g, G2.q ⟨⟨rfl, rfl, rfl⟩, QF.lv f2, QL.rf⟩⟩
    · refine no (-1) ?_ ?_
      · rw [S115]
        simp (disch := omega) only [KX, s93 hw hR, c1, if_true, s95, c2, if_false, B115_38, B115_39, GA, GR, GRc, GO, GI, GL, GV, am_w_i, am_ga, am_it, am_if, true_and, and_true, or_true, true_or, ne_eq, not_false_eq_true, not_true_eq_false, false_imp_iff, true_imp_iff, Int.reduceEq, Int.reduceLT, Int.reduceLE, Int.reduceAdd, Int.reduceSub, Int.reduceMul, Int.reduceNeg]
      · rw [S241]
        simp (disch := omega) only [Kk, B241_5, s199 hM.t, c1, if_true, s201, c2, if_false, B241_30, B241_31, GA, GR, GRc, GO, GI, GL, GV, am_w_i, am_ga, am_it, am_if, true_and, and_true, or_true, true_or, ne_eq, not_false_eq_true, not_true_eq_false, false_imp_iff, true_imp_iff, Int.reduceEq, Int.reduceLT, Int.reduceLE, Int.reduceAdd, Int.reduceSub, Int.reduceMul, Int.reduceNeg]
  · refine no (-1) ?_ ?_
    · rw [S115]
      simp (disch := omega) only [KX, s93 hw hR, c1, if_false, B115_38, B115_39, GA, GR, GRc, GO, GI, GL, GV, am_w_i, am_ga, am_it, am_if, true_and, and_true, or_true, true_or, ne_eq, not_false_eq_true, not_true_eq_false, false_imp_iff, true_imp_iff, Int.reduceEq, Int.reduceLT, Int.reduceLE, Int.reduceAdd, Int.reduceSub, Int.reduceMul, Int.reduceNeg]
    · rw [S241]
      simp (disch := omega) only [Kk, B241_5, s199 hM.t, c1, if_false, B241_30, B241_31, GA, GR, GRc, GO, GI, GL, GV, am_w_i, am_ga, am_it, am_if, true_and, and_true, or_true, true_or, ne_eq, not_false_eq_true, not_true_eq_false, false_imp_iff, true_imp_iff, Int.reduceEq, Int.reduceLT, Int.reduceLE, Int.reduceAdd, Int.reduceSub, Int.reduceMul, Int.reduceNeg]
