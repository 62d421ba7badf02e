/-! 44: the reference: a doing, healing, a day, days -/
theorem s215 {d : Nat} {w : Nat × Nat × Nat × Nat} {I L : Nat → Int → Int} {V σ : (Nat → Int → Int)} {lw : Int → (Int → Int) → Int} {F : Int → Int} {b D i : Int} (C : MC I V lw F) (hb : b = 0 ∨ b = 1) (hR : MS I L b σ) (hW : WS D σ) (hi : 0 ≤ i ∧ i < V 0 2) {Q : Option am_V → am_H → Prop} (q : ∀ I' L', MS I' L' b (px_try V lw F σ i) → MFr b I I' → LM L L' → Q none (mkH w I' L')) : am_Sp (d + 5) 215 [vR (some 99), vI b, vI i] (mkH w I L) Q := by
  have C0 := C
  obtain ⟨hM, hL, hV, hF, hWF⟩ := C
  have vi := hM.2.2.2.1 i hi.1 hi.2
  have wi := hV.2.2.2.1 i hi.1 hi.2
  have vd := hM.2.2.1 (V 11 i) wi.2.1.1 wi.2.1.2
  have wd := hV.2.2.1 (V 11 i) wi.2.1.1 wi.2.1.2
  have hk8 := hV.1.2.1.2
  have hk6 := hV.1.1.2
  have hk12 := hV.1.2.2.2
  have hp := hW.2.1 (V 10 i) wi.1.1 wi.1.2
  have ep : I 128 (2 * b + V 10 i) = σ 2 (V 10 i) := hR.2.1 _ wi.1.1 wi.1.2
  have hcc : 0 ≤ px_cost V F i ∧ px_cost V F i ≤ 99 := by unfold px_cost; split <;> omega
  have rest : am_WP (d + 5) 215 33 [some (vR (some 99)), some (vI b), some (vI i), some (vI (V 10 i)), some (vI (V 11 i)), none] [vI (px_cost V F i)] (mkH w I L) Q := by
    unfold px_try at q
    rw [B215_33]
    simp (disch := omega) only [Kk, Ks, ep, GA, GR, GRc, GO, GI, GL, GV, am_w_i, am_ga, am_it, am_if, true_and, and_true, or_true, true_or, ne_eq, not_false_eq_true, not_true_eq_false, false_imp_iff, true_imp_iff, Int.reduceEq, Int.reduceLT, Int.reduceLE, Int.reduceAdd, Int.reduceSub, Int.reduceMul, Int.reduceNeg]
    refine ⟨fun c => ?_, fun c => ?_⟩
    · rw [if_neg (by omega)] at q
      have R1 : MS (am_up I 128 (2 * b + V 10 i) (σ 2 (V 10 i) - px_cost V F i)) L b (am_up σ 2 (V 10 i) (σ 2 (V 10 i) - px_cost V F i)) := hR.u2
      have W1 : WS D (am_up σ 2 (V 10 i) (σ 2 (V 10 i) - px_cost V F i)) := hW.u2 (by omega)
      have F1 : MFr b I (am_up I 128 (2 * b + V 10 i) (σ 2 (V 10 i) - px_cost V F i)) := MFr.u2 wi.1.1
      generalize am_up I 128 (2 * b + V 10 i) (σ 2 (V 10 i) - px_cost V F i) = J at R1 F1 ⊢
      have C1 := C0.fr F1
      have v1 := C1.1.2.2.1 (V 11 i) wi.2.1.1 wi.2.1.2
      rw [B215_78]
      simp (disch := omega) only [Kk, Kw, v1.2.1, GA, GR, GRc, GO, GI, GL, GV, am_w_i, am_ga, am_it, am_if, true_and, and_true, or_true, true_or, ne_eq, not_false_eq_true, not_true_eq_false, false_imp_iff, true_imp_iff, Int.reduceEq, Int.reduceLT, Int.reduceLE, Int.reduceAdd, Int.reduceSub, Int.reduceMul, Int.reduceNeg]
      refine s207 C1 hb R1 W1 wd.1.1 wd.1.2 wi.1 (fun L2 l2 n2 => ?_)
      rw [px_nm_pu] at n2
      simp (disch := omega) only [Kk, Kw, v1.2.2.2.2, GA, GR, GRc, GO, GI, GL, GV, am_w_i, am_ga, am_it, am_if, true_and, and_true, or_true, true_or, ne_eq, not_false_eq_true, not_true_eq_false, false_imp_iff, true_imp_iff, Int.reduceEq, Int.reduceLT, Int.reduceLE, Int.reduceAdd, Int.reduceSub, Int.reduceMul, Int.reduceNeg]
      refine s209 C1 ⟨by omega, by omega⟩ n2 (px_nm_b hV hWF hW wd.1.1 wd.1.2 wi.1) ⟨by omega, by omega⟩ (fun I3 L3 i3 l3 => ?_)
      have R3 := (R1.ln (l2.tr l3)).or i3
      have F3 : MFr b I I3 := F1.tr (MFr.or i3)
      have C3 := C0.fr F3
      have ho : 0 ≤ px_odds V lw F σ i ∧ px_odds V lw F σ i ≤ 100 := px_lim_b (by omega) wd.2.2.2
      simp (disch := omega) only [Kk, GA, GR, GRc, GO, GI, GL, GV, am_w_i, am_ga, am_it, am_if, true_and, and_true, or_true, true_or, ne_eq, not_false_eq_true, not_true_eq_false, false_imp_iff, true_imp_iff, Int.reduceEq, Int.reduceLT, Int.reduceLE, Int.reduceAdd, Int.reduceSub, Int.reduceMul, Int.reduceNeg]
      refine s213 (odds := px_odds V lw F σ i) C3 R3 W1 ho (fun L4 R4 l4 => ?_)
      have e8 : am_up σ 2 (V 10 i) (σ 2 (V 10 i) - px_cost V F i) 0 8 = σ 0 8 := by rw [am_up_a _ _ _ _ (by decide)]
      rw [e8] at R4 ⊢
      have Lf : LM L L4 := (l2.tr l3).lm.tr l4
      by_cases c2 : (px_lk F (σ 0 8) (px_odds V lw F σ i)).1 = true
      · rw [if_pos c2] at q ⊢
        simp (disch := omega) only [Kk, GA, GR, GRc, GO, GI, GL, GV, am_w_i, am_ga, am_it, am_if, true_and, and_true, or_true, true_or, ne_eq, not_false_eq_true, not_true_eq_false, false_imp_iff, true_imp_iff, Int.reduceEq, Int.reduceLT, Int.reduceLE, Int.reduceAdd, Int.reduceSub, Int.reduceMul, Int.reduceNeg]
        refine s214 C3 hb R4 (W1.u8 (px_lk_b hW.2.2.2.2.1)) wi.1 wi.2.1.1 wi.2.1.2 (fun I5 R5 F5 => ?_)
        simp (disch := omega) only [Kk, Ks, B215_132, GA, GR, GRc, GO, GI, GL, GV, am_w_i, am_ga, am_it, am_if, true_and, and_true, or_true, true_or, ne_eq, not_false_eq_true, not_true_eq_false, false_imp_iff, true_imp_iff, Int.reduceEq, Int.reduceLT, Int.reduceLE, Int.reduceAdd, Int.reduceSub, Int.reduceMul, Int.reduceNeg]
        exact q _ L4 R5.u3 ((F3.tr F5).tr (MFr.u3 hi.1)) Lf
      · rw [if_neg c2] at q ⊢
        simp (disch := omega) only [Kk, Ks, GA, GR, GRc, GO, GI, GL, GV, am_w_i, am_ga, am_it, am_if, true_and, and_true, or_true, true_or, ne_eq, not_false_eq_true, not_true_eq_false, false_imp_iff, true_imp_iff, Int.reduceEq, Int.reduceLT, Int.reduceLE, Int.reduceAdd, Int.reduceSub, Int.reduceMul, Int.reduceNeg]
        exact q _ L4 R4.u3 (F3.tr (MFr.u3 hi.1)) Lf
    · rw [if_pos (by omega)] at q
      exact q _ L hR.u3 (MFr.u3 hi.1) LM.rf
  rw [S215]
  simp (disch := omega) only [Kk, Kw, vi.1, vi.2.1, vd.2.2.2.1, GA, GR, GRc, GO, GI, GL, GV, am_w_i, am_ga, am_it, am_if, true_and, and_true, or_true, true_or, ne_eq, not_false_eq_true, not_true_eq_false, false_imp_iff, true_imp_iff, Int.reduceEq, Int.reduceLT, Int.reduceLE, Int.reduceAdd, Int.reduceSub, Int.reduceMul, Int.reduceNeg]
  unfold px_cost at rest
  refine ⟨fun c => ?_, fun c => ?_⟩
  · rw [if_neg (hF.1.2.1.mp c)] at rest; exact rest
  · rw [if_pos (Classical.not_not.mp (fun z => c (hF.1.2.1.mpr z)))] at rest; exact rest
theorem px_hv_e {a n : Int} (h : 0 ≤ n) : px_hv a n = if a ≤ 0 then (if -n ≤ a then 0 else a + n) else (if a ≤ n then 0 else a - n) := by
  unfold px_hv am_min am_max
  repeat' split
  all_goals omega
theorem s216 {d : Nat} {w : Nat × Nat × Nat × Nat} {I L : Nat → Int → Int} {V σ : (Nat → Int → Int)} {lw : Int → (Int → Int) → Int} {F : Int → Int} {b D k t : Int} (C : MC I V lw F) (hb : b = 0 ∨ b = 1) (hR : MS I L b σ) (hW : WS D σ) (h0 : 0 ≤ k) (h1 : k < V 0 0) (ht : 0 ≤ t ∧ t < 2) {Q : Option am_V → am_H → Prop} (q : ∀ I' L', MS I' L' b (px_heal V lw F σ k t) → MFr b I I' → LM L L' → Q none (mkH w I' L')) : am_Sp (d + 5) 216 [vR (some 99), vI b, vI k, vI t] (mkH w I L) Q := by
  have C0 := C
  obtain ⟨hM, hL, hV, hF, hWF⟩ := C
  have hk6 := hV.1.1.2
  have ha := hW.1 (2 * k + t) (by omega) (by omega)
  have hby := px_lim_b (v := lw 1 (px_nm V F σ k t)) (most := 9) (by omega) (px_hl_b hV hWF h0 h1)
  have ea : 12 * b + 2 * k + t = 12 * b + (2 * k + t) := by omega
  rw [S216]
  simp (disch := omega) only [Kk, GA, GR, GRc, GO, GI, GL, GV, am_w_i, am_ga, am_it, am_if, true_and, and_true, or_true, true_or, ne_eq, not_false_eq_true, not_true_eq_false, false_imp_iff, true_imp_iff, Int.reduceEq, Int.reduceLT, Int.reduceLE, Int.reduceAdd, Int.reduceSub, Int.reduceMul, Int.reduceNeg]
  refine s207 C0 hb hR hW h0 h1 ht (fun L2 l2 n2 => ?_)
  simp (disch := omega) only [Kk, s206 C0 h0 h1, GA, GR, GRc, GO, GI, GL, GV, am_w_i, am_ga, am_it, am_if, true_and, and_true, or_true, true_or, ne_eq, not_false_eq_true, not_true_eq_false, false_imp_iff, true_imp_iff, Int.reduceEq, Int.reduceLT, Int.reduceLE, Int.reduceAdd, Int.reduceSub, Int.reduceMul, Int.reduceNeg]
  refine s209 C0 ⟨by omega, by omega⟩ n2 (px_nm_b hV hWF hW h0 h1 ht) ⟨by omega, by omega⟩ (fun I3 L3 i3 l3 => ?_)
  have R3 := (hR.ln (l2.tr l3)).or i3
  have F3 : MFr b I I3 := MFr.or i3
  have r := R3.1 (2 * k + t) (by omega) (by omega)
  have z := q _ L3 (R3.u1 (i := 2 * k + t) (v := px_hv (σ 1 (2 * k + t)) (px_by V lw F σ k t))) (F3.tr (MFr.u1 (by omega))) (l2.tr l3).lm
  have eb : px_by V lw F σ k t = px_lim (lw 1 (px_nm V F σ k t)) 9 (px_hl V F k) := rfl
  rw [eb, px_hv_e hby.1] at z
  simp (disch := omega) only [Kk, Ks, ea, r, B216_105, GA, GR, GRc, GO, GI, GL, GV, am_w_i, am_ga, am_it, am_if, true_and, and_true, or_true, true_or, ne_eq, not_false_eq_true, not_true_eq_false, false_imp_iff, true_imp_iff, Int.reduceEq, Int.reduceLT, Int.reduceLE, Int.reduceAdd, Int.reduceSub, Int.reduceMul, Int.reduceNeg]
  refine ⟨fun c1 => ⟨fun c2 => ?_, fun c2 => ?_⟩, fun c1 => ⟨fun c2 => ?_, fun c2 => ?_⟩⟩
  · rw [if_pos c1, if_pos c2] at z; exact z
  · rw [if_pos c1, if_neg c2] at z; exact z
  · rw [if_neg c1, if_pos c2] at z; exact z
  · rw [if_neg c1, if_neg c2] at z; exact z
set_option maxHeartbeats 2000000 in
theorem s217 {d : Nat} {w : Nat × Nat × Nat × Nat} {I L : Nat → Int → Int} {V σ : (Nat → Int → Int)} {lw : Int → (Int → Int) → Int} {F : Int → Int} {b D : Int} (C : MC I V lw F) (hb : b = 0 ∨ b = 1) (hR : MS I L b σ) (hW : WS D σ) {Q : Option am_V → am_H → Prop} (q : ∀ I' L', MS I' L' b (px_day V lw F σ) → MFr b I I' → LM L L' → Q none (mkH w I' L')) : am_Sp (d + 6) 217 [vR (some 99), vI b] (mkH w I L) Q := by
  have C0 := C
  obtain ⟨hM, hL, hV, hF, hWF⟩ := C
  have hk12 := hV.1.2.2
  have hk6 := hV.1.1
  obtain ⟨m, hm⟩ : ∃ m : Nat, V 0 0 = m := ⟨(V 0 0).toNat, by omega⟩
  obtain ⟨n, hn⟩ : ∃ n : Nat, V 0 2 = n := ⟨(V 0 2).toNat, by omega⟩
  have hn2 : (V 0 2).toNat = n := by omega
  have hm2 : (V 0 0).toNat = m := by omega
  have p4 : ∀ (l2 : Int) (I3 L3 : (Nat → Int → Int)) (σ3 : (Nat → Int → Int)), MS I3 L3 b σ3 → WS D σ3 → MFr b I I3 → LM L L3 → px_d3 V F (px_d2 V lw F (px_d1 V lw F σ)) = σ3 → am_WP (d + 6) 217 143 [some (vR (some 99)), some (vI b), some (vI l2)] [] (mkH w I3 L3) Q := by
    intro l2 I3 L3 σ3 R3 W3 F3 L3f e3
    have C3 := C0.fr F3
    have W3' := W3
    obtain ⟨w1, w2, w3, w4, w5, w6⟩ := W3
    have hlv := px_lv_b V σ3
    unfold px_day px_d4 at q
    rw [e3] at q
    have z := q _ L3 (R3.u4 (v := σ3 0 4 + px_lv V σ3)).u5 ((F3.tr MFr.u4).tr MFr.u5) L3f
    rw [B217_143]
    simp (disch := omega) only [Kk, Ks, s211 C3 hb R3 W3', R3.2.2.2.2.1, B217_163, B217_165, GA, GR, GRc, GO, GI, GL, GV, am_w_i, am_ga, am_it, am_if, true_and, and_true, or_true, true_or, ne_eq, not_false_eq_true, not_true_eq_false, false_imp_iff, true_imp_iff, Int.reduceEq, Int.reduceLT, Int.reduceLE, Int.reduceAdd, Int.reduceSub, Int.reduceMul, Int.reduceNeg]
    have e0 : ∀ v, am_up I3 130 b v 131 b = σ3 0 3 := fun v => by rw [am_up_a _ _ _ _ (by decide)]; exact R3.2.2.2.1
    simp only [e0]
    rcases (show px_lv V σ3 = 0 ∨ px_lv V σ3 = 1 by omega) with c | c
    · rw [c] at z ⊢
      simp (disch := omega) only [z, GA, GR, GRc, GO, GI, GL, GV, am_w_i, am_ga, am_it, am_if, true_and, and_true, or_true, true_or, ne_eq, not_false_eq_true, not_true_eq_false, false_imp_iff, true_imp_iff, Int.reduceEq, Int.reduceLT, Int.reduceLE, Int.reduceAdd, Int.reduceSub, Int.reduceMul, Int.reduceNeg]
    · rw [c] at z ⊢
      simp (disch := omega) only [z, GA, GR, GRc, GO, GI, GL, GV, am_w_i, am_ga, am_it, am_if, true_and, and_true, or_true, true_or, ne_eq, not_false_eq_true, not_true_eq_false, false_imp_iff, true_imp_iff, Int.reduceEq, Int.reduceLT, Int.reduceLE, Int.reduceAdd, Int.reduceSub, Int.reduceMul, Int.reduceNeg]
  have p3 : ∀ (l2 : Int) (I2 L2 : (Nat → Int → Int)) (σ2 : (Nat → Int → Int)), MS I2 L2 b σ2 → WS D σ2 → MFr b I I2 → LM L L2 → px_d2 V lw F (px_d1 V lw F σ) = σ2 → am_WP (d + 6) 217 87 [some (vR (some 99)), some (vI b), some (vI l2)] [] (mkH w I2 L2) Q := by
    intro l2 I2 L2 σ2 R2 W2 F2 L2f e2
    have C2 := C0.fr F2
    have f3 := C2.2.2.2.1.1.2.2
    rw [B217_87, B217_89]
    simp (disch := omega) only [Kk, GA, GR, GRc, GO, GI, GL, GV, am_w_i, am_ga, am_it, am_if, true_and, and_true, or_true, true_or, ne_eq, not_false_eq_true, not_true_eq_false, false_imp_iff, true_imp_iff, Int.reduceEq, Int.reduceLT, Int.reduceLE, Int.reduceAdd, Int.reduceSub, Int.reduceMul, Int.reduceNeg]
    by_cases c : F 3 = 0
    · have : ¬ I2 99 64 = 0 := fun z => f3.mp z c
      simp (disch := omega) only [this, GA, GR, GRc, GO, GI, GL, GV, am_w_i, am_ga, am_it, am_if, true_and, and_true, or_true, true_or, ne_eq, not_false_eq_true, not_true_eq_false, false_imp_iff, true_imp_iff, Int.reduceEq, Int.reduceLT, Int.reduceLE, Int.reduceAdd, Int.reduceSub, Int.reduceMul, Int.reduceNeg]
      refine p4 _ I2 L2 σ2 R2 W2 F2 L2f ?_
      unfold px_d3; rw [e2, if_pos c]
    · have c64 : I2 99 64 = 0 := f3.mpr c
      have W2' := W2.wg hV (t := 0) (by omega)
      have v0 := hV.2.2.2.2.1 0 (by omega) (by omega)
      have v1 := hV.2.2.2.2.1 1 (by omega) (by omega)
      have p0 := W2.2.1 0 (by omega) (by omega)
      have p1 := W2.2.1 1 (by omega) (by omega)
      have r0 : I2 128 (2 * b) = σ2 2 0 := by have := R2.2.1 0 (by omega) (by omega); rw [Int.add_zero] at this; exact this
      have r1 : I2 128 (2 * b + 1) = σ2 2 1 := R2.2.1 1 (by omega) (by omega)
      have x0 : I2 116 2 = V 14 0 := (C2.1.2.2.2.2.1 0 (by omega) (by omega)).1
      have x1 : I2 116 3 = V 14 1 := (C2.1.2.2.2.2.1 1 (by omega) (by omega)).1
      have mm : ∀ z : Int, 0 ≤ z → am_max 0 (am_min 9999 z) = am_min 9999 z := by
        intro z hz; unfold am_max am_min; repeat' split
        all_goals omega
      simp (disch := omega) only [c64, Ks, Kw, Int.add_zero, r0, x0, s203 (a := 0) (b := 9999), mm, B217_137, GA, GR, GRc, GO, GI, GL, GV, am_w_i, am_ga, am_it, am_if, true_and, and_true, or_true, true_or, ne_eq, not_false_eq_true, not_true_eq_false, false_imp_iff, true_imp_iff, Int.reduceEq, Int.reduceLT, Int.reduceLE, Int.reduceAdd, Int.reduceSub, Int.reduceMul, Int.reduceNeg]
      rw [B217_89]
      simp (disch := omega) only [Kk, Ks, Kw, am_up_a, c64, x1, am_up_n, r1, s203 (a := 0) (b := 9999), mm, B217_137, GA, GR, GRc, GO, GI, GL, GV, am_w_i, am_ga, am_it, am_if, true_and, and_true, or_true, true_or, ne_eq, not_false_eq_true, not_true_eq_false, false_imp_iff, true_imp_iff, Int.reduceEq, Int.reduceLT, Int.reduceLE, Int.reduceAdd, Int.reduceSub, Int.reduceMul, Int.reduceNeg]
      rw [B217_89]
      simp (disch := omega) only [GA, GR, GRc, GO, GI, GL, GV, am_w_i, am_ga, am_it, am_if, true_and, and_true, or_true, true_or, ne_eq, not_false_eq_true, not_true_eq_false, false_imp_iff, true_imp_iff, Int.reduceEq, Int.reduceLT, Int.reduceLE, Int.reduceAdd, Int.reduceSub, Int.reduceMul, Int.reduceNeg]
      have e0 : 2 * b = 2 * b + 0 := by omega
      refine p4 _ _ L2 (px_wg V (px_wg V σ2 0) 1) ?_ (W2'.wg hV (by omega)) ((F2.tr (by rw [e0]; exact MFr.u2 (by omega))).tr (MFr.u2 (by omega))) L2f ?_
      · have : px_wg V (px_wg V σ2 0) 1 = am_up (am_up σ2 2 0 (am_min 9999 (σ2 2 0 + V 14 0))) 2 1 (am_min 9999 (σ2 2 1 + V 14 1)) := by
          unfold px_wg; rw [am_up_n _ _ _ _ (show (1 : Int) ≠ 0 by decide)]
        rw [this]
        have := (R2.u2 (i := 0) (v := am_min 9999 (σ2 2 0 + V 14 0))).u2 (i := 1) (v := am_min 9999 (σ2 2 1 + V 14 1))
        rw [Int.add_zero] at this
        exact this
      · unfold px_d3; rw [e2, if_neg c]
  have p2 : ∀ (I1 L1 : (Nat → Int → Int)) (σ1 : (Nat → Int → Int)), MS I1 L1 b σ1 → WS D σ1 → MFr b I I1 → LM L L1 → px_d1 V lw F σ = σ1 → am_WP (d + 6) 217 52 [some (vR (some 99)), some (vI b), some (vI 0)] [] (mkH w I1 L1) Q := by
    intro I1 L1 σ1 R1 W1 F1 L1f e1
    have f1 : I 99 61 = 0 ↔ F 1 ≠ 0 := hF.1.1
    by_cases c : F 1 = 0
    · have C1 := C0.fr F1
      have : ¬ I1 99 61 = 0 := fun z => C1.2.2.2.1.1.1.mp z c
      rw [B217_52]
      simp (disch := omega) only [Kk, C1.1.1.1, GA, GR, GRc, GO, GI, GL, GV, am_w_i, am_ga, am_it, am_if, true_and, and_true, or_true, true_or, ne_eq, not_false_eq_true, not_true_eq_false, false_imp_iff, true_imp_iff, Int.reduceEq, Int.reduceLT, Int.reduceLE, Int.reduceAdd, Int.reduceSub, Int.reduceMul, Int.reduceNeg]
      have g : am_WP (d + 6) 217 87 [some (vR (some 99)), some (vI b), some (vI 0)] [] (mkH w I1 L1) Q := by
        refine p3 _ I1 L1 σ1 R1 W1 F1 L1f ?_
        unfold px_d2; rw [e1, if_pos c]
      exact ⟨fun _ => g, fun _ => g⟩
    · refine am_loop (α := (Nat → Int → Int) × (Nat → Int → Int)) m (fun i x => am_WP (d + 6) 217 52 [some (vR (some 99)), some (vI b), some (vI (i : Int))] [] (mkH w x.1 x.2) Q) (fun i x => MS x.1 x.2 b (px_for (px_h1 V lw F) i σ1) ∧ MFr b I x.1 ∧ LM L x.2) ?_ ?_ 0 (I1, L1) (Nat.zero_le _) ⟨R1, F1, L1f⟩
      · intro i ⟨Ia, La⟩ hi ⟨Ra, Fa, Lfa⟩ ih
        dsimp only at Ra Fa Lfa ⊢
        have Ca := C0.fr Fa
        have Wa : WS D (px_for (px_h1 V lw F) i σ1) := W1.h1 hV hWF hm (by omega)
        rw [B217_52]
        simp (disch := omega) only [Kk, Ca.1.1.1, hm, Ca.2.2.2.1.1.1.mpr c, GA, GR, GRc, GO, GI, GL, GV, am_w_i, am_ga, am_it, am_if, true_and, and_true, or_true, true_or, ne_eq, not_false_eq_true, not_true_eq_false, false_imp_iff, true_imp_iff, Int.reduceEq, Int.reduceLT, Int.reduceLE, Int.reduceAdd, Int.reduceSub, Int.reduceMul, Int.reduceNeg]
        refine s216 Ca hb Ra Wa (by omega) (by omega) ⟨by omega, by omega⟩ (fun Ib Lb Rb fb lb => ?_)
        have Cb := Ca.fr fb
        simp (disch := omega) only [Kk, GA, GR, GRc, GO, GI, GL, GV, am_w_i, am_ga, am_it, am_if, true_and, and_true, or_true, true_or, ne_eq, not_false_eq_true, not_true_eq_false, false_imp_iff, true_imp_iff, Int.reduceEq, Int.reduceLT, Int.reduceLE, Int.reduceAdd, Int.reduceSub, Int.reduceMul, Int.reduceNeg]
        refine s216 Cb hb Rb (Wa.heal hV hWF (by omega) (by omega) ⟨by omega, by omega⟩) (by omega) (by omega) ⟨by omega, by omega⟩ (fun Ic Lc Rc fc lc => ?_)
        simp (disch := omega) only [GA, GR, GRc, GO, GI, GL, GV, am_w_i, am_ga, am_it, am_if, true_and, and_true, or_true, true_or, ne_eq, not_false_eq_true, not_true_eq_false, false_imp_iff, true_imp_iff, Int.reduceEq, Int.reduceLT, Int.reduceLE, Int.reduceAdd, Int.reduceSub, Int.reduceMul, Int.reduceNeg]
        exact ih (Ic, Lc) ⟨Rc, (Fa.tr fb).tr fc, (Lfa.tr lb).tr lc⟩
      · intro ⟨Ia, La⟩ ⟨Ra, Fa, Lfa⟩
        dsimp only at Ra Fa Lfa ⊢
        have Ca := C0.fr Fa
        rw [B217_52]
        simp (disch := omega) only [Kk, Ca.1.1.1, hm, GA, GR, GRc, GO, GI, GL, GV, am_w_i, am_ga, am_it, am_if, true_and, and_true, or_true, true_or, ne_eq, not_false_eq_true, not_true_eq_false, false_imp_iff, true_imp_iff, Int.reduceEq, Int.reduceLT, Int.reduceLE, Int.reduceAdd, Int.reduceSub, Int.reduceMul, Int.reduceNeg]
        refine p3 _ Ia La _ Ra (W1.h1 hV hWF hm (Nat.le_refl _)) Fa Lfa ?_
        unfold px_d2; rw [e1, if_neg c, hm2]; rfl
  rw [S217]
  refine am_loop (α := (Nat → Int → Int) × (Nat → Int → Int)) n (fun i x => am_WP (d + 6) 217 2 [some (vR (some 99)), some (vI b), some (vI (i : Int))] [] (mkH w x.1 x.2) Q) (fun i x => MS x.1 x.2 b (px_for (px_t1 V lw F) i σ) ∧ MFr b I x.1 ∧ LM L x.2) ?_ ?_ 0 (I, L) (Nat.zero_le _) ⟨hR, MFr.rf, LM.rf⟩
  · intro i ⟨Ia, La⟩ hi ⟨Ra, Fa, Lfa⟩ ih
    dsimp only at Ra Fa Lfa ⊢
    have Ca := C0.fr Fa
    have Wa : WS D (px_for (px_t1 V lw F) i σ) := hW.t1 hV hn (by omega)
    have vi := Ca.1.2.2.2.1 i (by omega) (by omega)
    have e3 : Ia 131 b = px_for (px_t1 V lw F) i σ 0 3 := Ra.2.2.2.1
    have eq : px_for (px_t1 V lw F) (i + 1) σ = px_t1 V lw F i (px_for (px_t1 V lw F) i σ) := rfl
    have nx : ∀ (Ib Lb : (Nat → Int → Int)), MS Ib Lb b (px_for (px_t1 V lw F) (i + 1) σ) → MFr b I Ib → LM L Lb → am_WP (d + 6) 217 44 [some (vR (some 99)), some (vI b), some (vI (i : Int))] [] (mkH w Ib Lb) Q := by
      intro Ib Lb Rb Fb Lfb
      rw [B217_44, am_w_i (by omega) (by omega)]
      exact ih (Ib, Lb) ⟨Rb, Fb, Lfb⟩
    rw [B217_2]
    simp (disch := omega) only [Kk, Kw, Ks, Ca.1.1.2.2, hn, vi.2.2, vi.1, e3, Ca.2.2.2.1.2.1, GA, GR, GRc, GO, GI, GL, GV, am_w_i, am_ga, am_it, am_if, true_and, and_true, or_true, true_or, ne_eq, not_false_eq_true, not_true_eq_false, false_imp_iff, true_imp_iff, Int.reduceEq, Int.reduceLT, Int.reduceLE, Int.reduceAdd, Int.reduceSub, Int.reduceMul, Int.reduceNeg]
    by_cases c1 : V 12 i = px_for (px_t1 V lw F) i σ 0 3
    · by_cases c2 : V 10 i = F 4
      · simp (disch := omega) only [c1, c2, GA, GR, GRc, GO, GI, GL, GV, am_w_i, am_ga, am_it, am_if, true_and, and_true, or_true, true_or, ne_eq, not_false_eq_true, not_true_eq_false, false_imp_iff, true_imp_iff, Int.reduceEq, Int.reduceLT, Int.reduceLE, Int.reduceAdd, Int.reduceSub, Int.reduceMul, Int.reduceNeg]
        refine nx Ia La ?_ Fa Lfa
        rw [eq]; unfold px_t1; rw [if_neg (fun z => z.2 c2)]; exact Ra
      · simp (disch := omega) only [c1, c2, GA, GR, GRc, GO, GI, GL, GV, am_w_i, am_ga, am_it, am_if, true_and, and_true, or_true, true_or, ne_eq, not_false_eq_true, not_true_eq_false, false_imp_iff, true_imp_iff, Int.reduceEq, Int.reduceLT, Int.reduceLE, Int.reduceAdd, Int.reduceSub, Int.reduceMul, Int.reduceNeg]
        refine s215 Ca hb Ra Wa ⟨by omega, by omega⟩ (fun Ib Lb Rb fb lb => ?_)
        simp (disch := omega) only [GA, GR, GRc, GO, GI, GL, GV, am_w_i, am_ga, am_it, am_if, true_and, and_true, or_true, true_or, ne_eq, not_false_eq_true, not_true_eq_false, false_imp_iff, true_imp_iff, Int.reduceEq, Int.reduceLT, Int.reduceLE, Int.reduceAdd, Int.reduceSub, Int.reduceMul, Int.reduceNeg]
        refine nx Ib Lb ?_ (Fa.tr fb) (Lfa.tr lb)
        rw [eq]; unfold px_t1; rw [if_pos ⟨c1, c2⟩]; exact Rb
    · simp (disch := omega) only [c1, GA, GR, GRc, GO, GI, GL, GV, am_w_i, am_ga, am_it, am_if, true_and, and_true, or_true, true_or, ne_eq, not_false_eq_true, not_true_eq_false, false_imp_iff, true_imp_iff, Int.reduceEq, Int.reduceLT, Int.reduceLE, Int.reduceAdd, Int.reduceSub, Int.reduceMul, Int.reduceNeg]
      refine nx Ia La ?_ Fa Lfa
      rw [eq]; unfold px_t1; rw [if_neg (fun z => c1 z.1)]; exact Ra
  · intro ⟨Ia, La⟩ ⟨Ra, Fa, Lfa⟩
    dsimp only at Ra Fa Lfa ⊢
    have Ca := C0.fr Fa
    rw [B217_2]
    simp (disch := omega) only [Kk, Ca.1.1.2.2, hn, GA, GR, GRc, GO, GI, GL, GV, am_w_i, am_ga, am_it, am_if, true_and, and_true, or_true, true_or, ne_eq, not_false_eq_true, not_true_eq_false, false_imp_iff, true_imp_iff, Int.reduceEq, Int.reduceLT, Int.reduceLE, Int.reduceAdd, Int.reduceSub, Int.reduceMul, Int.reduceNeg]
    refine p2 Ia La _ Ra (hW.t1 hV hn (Nat.le_refl _)) Fa Lfa ?_
    rw [px_d1_eq, hn2]
theorem s218 {d : Nat} {w : Nat × Nat × Nat × Nat} {I L : Nat → Int → Int} {V σ : (Nat → Int → Int)} {lw : Int → (Int → Int) → Int} {F : Int → Int} {m : Nat} {D : Int} (C : MC I V lw F) (hR : MS I L 1 σ) (hW : WS D σ) (hm : D + m ≤ 20000) {Q : Option am_V → am_H → Prop} (q : ∀ I' L', MS I' L' 1 (px_days V lw F m σ) → MFr 1 I I' → LM L L' → Q none (mkH w I' L')) : am_Sp (d + 7) 218 [vR (some 99), vI (m : Int)] (mkH w I L) Q := by
  have hD : 0 ≤ D := by have := hW.2.2.1; omega
  rw [S218]
  refine am_loop (α := (Nat → Int → Int) × (Nat → Int → Int)) m (fun i x => am_WP (d + 7) 218 2 [some (vR (some 99)), some (vI (m : Int)), some (vI (i : Int))] [] (mkH w x.1 x.2) Q) (fun i x => MS x.1 x.2 1 (px_days V lw F i σ) ∧ MFr 1 I x.1 ∧ LM L x.2) ?_ ?_ 0 (I, L) (Nat.zero_le _) ⟨hR, MFr.rf, LM.rf⟩
  · intro i ⟨Ia, La⟩ hi ⟨Ra, Fa, Lfa⟩ ih
    dsimp only at Ra Fa Lfa ⊢
    rw [B218_2]
    simp (disch := omega) only [Kk, GA, GR, GRc, GO, GI, GL, GV, am_w_i, am_ga, am_it, am_if, true_and, and_true, or_true, true_or, ne_eq, not_false_eq_true, not_true_eq_false, false_imp_iff, true_imp_iff, Int.reduceEq, Int.reduceLT, Int.reduceLE, Int.reduceAdd, Int.reduceSub, Int.reduceMul, Int.reduceNeg]
    refine s217 (C.fr Fa) (Or.inr rfl) Ra (hW.days C.2.2.1 C.2.2.2.2 i (by omega)) (fun Ib Lb Rb fb lb => ?_)
    simp (disch := omega) only [GA, GR, GRc, GO, GI, GL, GV, am_w_i, am_ga, am_it, am_if, true_and, and_true, or_true, true_or, ne_eq, not_false_eq_true, not_true_eq_false, false_imp_iff, true_imp_iff, Int.reduceEq, Int.reduceLT, Int.reduceLE, Int.reduceAdd, Int.reduceSub, Int.reduceMul, Int.reduceNeg]
    exact ih (Ib, Lb) ⟨Rb, Fa.tr fb, Lfa.tr lb⟩
  · intro ⟨Ia, La⟩ ⟨Ra, Fa, Lfa⟩
    dsimp only at Ra Fa Lfa ⊢
    rw [B218_2]
    simp (disch := omega) only [GA, GR, GRc, GO, GI, GL, GV, am_w_i, am_ga, am_it, am_if, true_and, and_true, or_true, true_or, ne_eq, not_false_eq_true, not_true_eq_false, false_imp_iff, true_imp_iff, Int.reduceEq, Int.reduceLT, Int.reduceLE, Int.reduceAdd, Int.reduceSub, Int.reduceMul, Int.reduceNeg]
    exact q Ia La Ra Fa Lfa
