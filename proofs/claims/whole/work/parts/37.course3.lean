/-! 37: Course: a doing, healing -/
theorem px_nm_pu {V σ : (Nat → Int → Int)} {F : Int → Int} {k t i v : Int} : px_nm V F (am_up σ 2 i v) k t = px_nm V F σ k t := by
  have e0 : am_up σ 2 i v 0 = σ 0 := am_up_a _ _ _ _ (by decide)
  have e1 : am_up σ 2 i v 1 = σ 1 := am_up_a _ _ _ _ (by decide)
  funext j; unfold px_nm px_gap; rw [e0, e1]
theorem SSs {s a : Nat} : a = s → (s ≤ a ∧ a ≤ s + 3) := by omega
def NY (V σ : (Nat → Int → Int)) : Prop := ∀ i, 0 ≤ i → i < V 0 2 → σ 0 3 ≤ V 12 i → σ 3 i = 0
theorem CT.upd {I I' : (Nat → Int → Int)} {s n : Nat} {i x : Int} (h : CT I s n) (hi : 0 ≤ i ∧ i < n) (h3 : ∀ j, j ≠ i → I' (s + 3) j = I (s + 3) j) (hx : I' (s + 3) i = x) (h0 : I (s + 3) i = 0) (h5 : I' s 5 = I s 5 + if x = 1 then 1 else 0) (h6 : I' s 6 = I s 6 + if x = 2 then 1 else 0) (h7 : I' s 7 = I s 7 + if x = 3 then 1 else 0) : CT I' s n := by
  obtain ⟨a, b, c⟩ := h
  refine ⟨?_, ?_, ?_⟩
  · rw [h5, a, px_cnt_up (I (s + 3)) (I' (s + 3)) i 1 x h3 hx n, if_pos hi, h0, if_neg (show ¬ (0 : Int) = 1 by decide)]; omega
  · rw [h6, b, px_cnt_up (I (s + 3)) (I' (s + 3)) i 2 x h3 hx n, if_pos hi, h0, if_neg (show ¬ (0 : Int) = 2 by decide)]; omega
  · rw [h7, c, px_cnt_up (I (s + 3)) (I' (s + 3)) i 3 x h3 hx n, if_pos hi, h0, if_neg (show ¬ (0 : Int) = 3 by decide)]; omega
set_option maxHeartbeats 2000000 in
theorem s8 {d : Nat} {w : Nat × Nat × Nat × Nat} {I L : Nat → Int → Int} {V σ : (Nat → Int → Int)} {lw : Int → (Int → Int) → Int} {F : Int → Int} {s n : Nat} {D i : Int} (C : CC w I V lw F) (hs : isS s) (hR : RS I s σ) (hW : WS D σ) (hn : V 0 2 = n) (hi : 0 ≤ i ∧ i < n) (hC : CT I s n) (h0 : σ 3 i = 0) {Q : Option am_V → am_H → Prop} (q : ∀ I' L', RS I' s (px_try V lw F σ i) → CT I' s n → Fr (fun a => s ≤ a ∧ a ≤ s + 3) I I' → LF L L' → Q none (mkH w I' L')) : am_Sp (d + 4) 8 [vR (some 63), vR (some s), vI i] (mkH w I L) Q := by
  have C0 := C
  obtain ⟨hw, hRW, hRL, hV, hF, hWF⟩ := C
  have vi := hRW.2.2.2.1 i hi.1 (by omega)
  have wi := hV.2.2.2.1 i hi.1 (by omega)
  have vd := hRW.2.2.1 (V 11 i) wi.2.1.1 wi.2.1.2
  have wd := hV.2.2.1 (V 11 i) wi.2.1.1 wi.2.1.2
  have hk8 := hV.1.2.1.2
  have hk6 := hV.1.1.2
  have hk12 := hV.1.2.2.2
  have hA := hR.bA hW.1
  have hp := hW.2.1 (V 10 i) wi.1.1 wi.1.2
  have ep : I (s + 2) (V 10 i) = σ 2 (V 10 i) := hR.2.1 _ wi.1.1 wi.1.2
  have e3 : I (s + 3) i = 0 := by rw [hR.2.2.1 i hi.1 (by omega), h0]
  have hcc : 0 ≤ px_cost V F i ∧ px_cost V F i ≤ 99 := by unfold px_cost; split <;> omega
  have hc5 := px_cnt_b (I (s + 3)) 1 n
  have hc6 := px_cnt_b (I (s + 3)) 2 n
  have hc7 := px_cnt_b (I (s + 3)) 3 n
  have hss := isS_le hs
  have rest : am_WP (d + 4) 8 54 [some (vR (some 63)), some (vR (some s)), some (vI i), some (vI (V 10 i)), some (vI (V 11 i)), some (vI (V 6 (V 11 i))), none, none] [vI (px_cost V F i)] (mkH w I L) Q := by
    unfold px_try at q
    rw [B8_54]
    simp (disch := omega) only [HS hs, ep, GA, GR, GRc, GO, GI, GL, GV, am_w_i, am_ga, am_it, am_if, true_and, and_true, or_true, true_or, ne_eq, not_false_eq_true, not_true_eq_false, false_imp_iff, true_imp_iff, Int.reduceEq, Int.reduceLT, Int.reduceLE, Int.reduceAdd, Int.reduceSub, Int.reduceMul, Int.reduceNeg]
    refine ⟨fun c => ?_, fun c => ?_⟩
    · rw [if_neg (by omega)] at q
      simp (disch := omega) only [B8_96, KC, GA, GR, GRc, GO, GI, GL, GV, am_w_i, am_ga, am_it, am_if, true_and, and_true, or_true, true_or, ne_eq, not_false_eq_true, not_true_eq_false, false_imp_iff, true_imp_iff, Int.reduceEq, Int.reduceLT, Int.reduceLE, Int.reduceAdd, Int.reduceSub, Int.reduceMul, Int.reduceNeg]
      have R1 : RS (am_up I (s + 2) (V 10 i) (σ 2 (V 10 i) - px_cost V F i)) s (am_up σ 2 (V 10 i) (σ 2 (V 10 i) - px_cost V F i)) := hR.u2
      have W1 : WS D (am_up σ 2 (V 10 i) (σ 2 (V 10 i) - px_cost V F i)) := hW.u2 (by omega)
      have C1 : CC w (am_up I (s + 2) (V 10 i) (σ 2 (V 10 i) - px_cost V F i)) V lw F := C0.fr (fun a ha => am_up_a _ _ _ _ (by omega))
      generalize hJ : am_up I (s + 2) (V 10 i) (σ 2 (V 10 i) - px_cost V F i) = J at R1 C1 ⊢
      have J3 : J (s + 3) = I (s + 3) := by rw [← hJ]; exact am_up_a _ _ _ _ (by omega)
      have J0 : J s = I s := by rw [← hJ]; exact am_up_a _ _ _ _ (by omega)
      have F1 : Fr (fun a => s ≤ a ∧ a ≤ s + 3) I J := by rw [← hJ]; exact Fr.rf.up (by omega)
      refine s3 C1 hs R1 W1 ⟨by omega, by omega⟩ wd.1.1 wd.1.2 wi.1 (fun L2 f2 => ?_)
      rw [px_nm_pu]
      simp (disch := omega) only [KC, HW hw, (C1.2.1.2.2.1 (V 11 i) wi.2.1.1 wi.2.1.2).2.2.2.2, s4 (most := 100) ⟨by omega, by omega⟩, GA, GR, GRc, GO, GI, GL, GV, am_w_i, am_ga, am_it, am_if, true_and, and_true, or_true, true_or, ne_eq, not_false_eq_true, not_true_eq_false, false_imp_iff, true_imp_iff, Int.reduceEq, Int.reduceLT, Int.reduceLE, Int.reduceAdd, Int.reduceSub, Int.reduceMul, Int.reduceNeg]
      refine s9 (odds := px_odds V lw F σ i) C1 hs R1 (fun I2 R2 F2 H2 => ?_)
      have e8 : am_up σ 2 (V 10 i) (σ 2 (V 10 i) - px_cost V F i) 0 8 = σ 0 8 := by rw [am_up_a _ _ _ _ (by decide)]
      rw [e8] at R2 ⊢
      have C2 : CC w I2 V lw F := C1.fr (fun a ha => F2 a (by omega))
      have I23 : I2 (s + 3) = I (s + 3) := by rw [F2 _ (by omega), J3]
      have hA2 : bA (I2 (s + 1)) := by rw [F2 _ (by omega), ← hJ, am_up_a _ _ _ _ (by omega)]; exact hA
      by_cases c2 : (px_lk F (σ 0 8) (px_odds V lw F σ i)).1 = true
      · rw [if_pos c2] at q ⊢
        have a1 : I2 (s + 1) (2 * V 6 (V 11 i) + V 10 i) = am_up (am_up σ 2 (V 10 i) (σ 2 (V 10 i) - px_cost V F i)) 0 8 (px_lk F (σ 0 8) (px_odds V lw F σ i)).2 1 (2 * V 6 (V 11 i) + V 10 i) := R2.1 _ (by omega) (by omega)
        simp (disch := omega) only [KC, HW hw, HS hs, (C2.2.1.2.2.1 (V 11 i) wi.2.1.1 wi.2.1.2).2.2.1, s61 hs (k := V 6 (V 11 i)) (t := V 10 i) ⟨wd.1.1, by omega⟩ wi.1 hA2 (v := V 7 (V 11 i)) ⟨by omega, by omega⟩, B8_156, B8_166, a1, GA, GR, GRc, GO, GI, GL, GV, am_w_i, am_ga, am_it, am_if, true_and, and_true, or_true, true_or, ne_eq, not_false_eq_true, not_true_eq_false, false_imp_iff, true_imp_iff, Int.reduceEq, Int.reduceLT, Int.reduceLE, Int.reduceAdd, Int.reduceSub, Int.reduceMul, Int.reduceNeg]
        have u0 : am_up (am_up I2 (s + 1) (2 * V 6 (V 11 i) + V 10 i) (px_cl (am_up (am_up σ 2 (V 10 i) (σ 2 (V 10 i) - px_cost V F i)) 0 8 (px_lk F (σ 0 8) (px_odds V lw F σ i)).2 1 (2 * V 6 (V 11 i) + V 10 i) + V 7 (V 11 i)))) (s + 3) i 1 s 5 = I s 5 := by
          rw [am_up_a _ _ _ _ (by omega), am_up_a _ _ _ _ (by omega), H2 5 (by decide), J0]
        rw [u0, am_w_i (by rw [hC.1]; omega) (by rw [hC.1]; omega)]
        refine q _ L2 ((R2.u1.u3).ux (by omega)) ?_ ?_ f2
        · refine CT.upd hC (x := 1) hi (fun j hj => ?_) ?_ e3 ?_ ?_ ?_
          · rw [am_up_a _ _ _ _ (by omega), am_up_n _ _ _ _ hj, am_up_a _ _ _ _ (by omega), I23]
          · rw [am_up_a _ _ _ _ (by omega), am_up_s]
          · rw [am_up_s]; rfl
          · rw [am_up_n _ _ _ _ (by decide), am_up_a _ _ _ _ (by omega), am_up_a _ _ _ _ (by omega), H2 6 (by decide), J0]; simp
          · rw [am_up_n _ _ _ _ (by decide), am_up_a _ _ _ _ (by omega), am_up_a _ _ _ _ (by omega), H2 7 (by decide), J0]; simp
        · exact (((F1.tr (F2.mo (fun a ha => by omega))).up (by omega)).up (by omega)).up (by omega)
      · rw [if_neg c2] at q ⊢
        simp (disch := omega) only [HS hs, B8_176, GA, GR, GRc, GO, GI, GL, GV, am_w_i, am_ga, am_it, am_if, true_and, and_true, or_true, true_or, ne_eq, not_false_eq_true, not_true_eq_false, false_imp_iff, true_imp_iff, Int.reduceEq, Int.reduceLT, Int.reduceLE, Int.reduceAdd, Int.reduceSub, Int.reduceMul, Int.reduceNeg]
        have u0 : am_up I2 (s + 3) i 2 s 6 = I s 6 := by rw [am_up_a _ _ _ _ (by omega), H2 6 (by decide), J0]
        rw [u0, am_w_i (by rw [hC.2.1]; omega) (by rw [hC.2.1]; omega)]
        refine q _ L2 ((R2.u3).ux (by omega)) ?_ ?_ f2
        · refine CT.upd hC (x := 2) hi (fun j hj => ?_) ?_ e3 ?_ ?_ ?_
          · rw [am_up_a _ _ _ _ (by omega), am_up_n _ _ _ _ hj, I23]
          · rw [am_up_a _ _ _ _ (by omega), am_up_s]
          · rw [am_up_n _ _ _ _ (by decide), am_up_a _ _ _ _ (by omega), H2 5 (by decide), J0]; simp
          · rw [am_up_s]; rfl
          · rw [am_up_n _ _ _ _ (by decide), am_up_a _ _ _ _ (by omega), H2 7 (by decide), J0]; simp
        · exact ((F1.tr (F2.mo (fun a ha => by omega))).up (by omega)).up (by omega)
    · rw [if_pos (by omega)] at q
      simp (disch := omega) only [B8_74, HS hs, GA, GR, GRc, GO, GI, GL, GV, am_w_i, am_ga, am_it, am_if, true_and, and_true, or_true, true_or, ne_eq, not_false_eq_true, not_true_eq_false, false_imp_iff, true_imp_iff, Int.reduceEq, Int.reduceLT, Int.reduceLE, Int.reduceAdd, Int.reduceSub, Int.reduceMul, Int.reduceNeg]
      have u0 : am_up I (s + 3) i 3 s 7 = I s 7 := by rw [am_up_a _ _ _ _ (by omega)]
      rw [u0, am_w_i (by rw [hC.2.2]; omega) (by rw [hC.2.2]; omega)]
      refine q _ L ((hR.u3).ux (by omega)) ?_ ?_ LF.rf
      · refine CT.upd hC (x := 3) hi (fun j hj => ?_) ?_ e3 ?_ ?_ ?_
        · rw [am_up_a _ _ _ _ (by omega), am_up_n _ _ _ _ hj]
        · rw [am_up_a _ _ _ _ (by omega), am_up_s]
        · rw [am_up_n _ _ _ _ (by decide), am_up_a _ _ _ _ (by omega)]; simp
        · rw [am_up_n _ _ _ _ (by decide), am_up_a _ _ _ _ (by omega)]; simp
        · rw [am_up_s]; rfl
      · exact (Fr.rf.up (by omega)).up (by omega)
  rw [S8]
  simp (disch := omega) only [KC, HW hw, vi.1, vi.2.1, vd.2.1, vd.2.2.2.1, hF, GA, GR, GRc, GO, GI, GL, GV, am_w_i, am_ga, am_it, am_if, true_and, and_true, or_true, true_or, ne_eq, not_false_eq_true, not_true_eq_false, false_imp_iff, true_imp_iff, Int.reduceEq, Int.reduceLT, Int.reduceLE, Int.reduceAdd, Int.reduceSub, Int.reduceMul, Int.reduceNeg]
  unfold px_cost at rest
  refine ⟨fun c => ?_, fun c => ?_⟩
  · rw [if_pos c] at rest; exact rest
  · rw [if_neg c] at rest; exact rest
theorem s10 {d : Nat} {w : Nat × Nat × Nat × Nat} {I L : Nat → Int → Int} {V σ : (Nat → Int → Int)} {lw : Int → (Int → Int) → Int} {F : Int → Int} {s : Nat} {D k t : Int} (C : CC w I V lw F) (hs : isS s) (hR : RS I s σ) (hW : WS D σ) (h0 : 0 ≤ k) (h1 : k < V 0 0) (ht : 0 ≤ t ∧ t < 2) {Q : Option am_V → am_H → Prop} (q : ∀ I' L', RS I' s (px_heal V lw F σ k t) → Fr (fun a => a = s + 1) I I' → LF L L' → Q none (mkH w I' L')) : am_Sp (d + 4) 10 [vR (some 63), vR (some s), vI k, vI t] (mkH w I L) Q := by
  have C0 := C
  obtain ⟨hw, hRW, hRL, hV, hF, hWF⟩ := C
  have hk6 := hV.1.1.2
  have ha := hW.1 (2 * k + t) (by omega) (by omega)
  have ea : I (s + 1) (2 * k + t) = σ 1 (2 * k + t) := hR.1 _ (by omega) (by omega)
  have hby := px_lim_b (v := lw 1 (px_nm V F σ k t)) (most := 9) (by omega) (px_hl_b hV hWF h0 h1)
  rw [S10]
  simp (disch := omega) only [HS hs, s59 hs (k := k) (t := t) ⟨h0, by omega⟩ ht, KC, ea, GA, GR, GRc, GO, GI, GL, GV, am_w_i, am_ga, am_it, am_if, true_and, and_true, or_true, true_or, ne_eq, not_false_eq_true, not_true_eq_false, false_imp_iff, true_imp_iff, Int.reduceEq, Int.reduceLT, Int.reduceLE, Int.reduceAdd, Int.reduceSub, Int.reduceMul, Int.reduceNeg]
  refine ⟨fun c => ?_, fun c => ?_⟩
  · refine s3 C0 hs hR hW ⟨by omega, by omega⟩ h0 h1 ht (fun L2 f2 => ?_)
    simp (disch := omega) only [KC, s2 C0 h0 h1, s4 (most := 9) ⟨by omega, by omega⟩, GA, GR, GRc, GO, GI, GL, GV, am_w_i, am_ga, am_it, am_if, true_and, and_true, or_true, true_or, ne_eq, not_false_eq_true, not_true_eq_false, false_imp_iff, true_imp_iff, Int.reduceEq, Int.reduceLT, Int.reduceLE, Int.reduceAdd, Int.reduceSub, Int.reduceMul, Int.reduceNeg]
    unfold px_heal px_by px_hv at q
    have R1 := hR.u1 (i := 2 * k + t) (v := if σ 1 (2 * k + t) ≤ 0 then am_min 0 (σ 1 (2 * k + t) + px_lim (lw 1 (px_nm V F σ k t)) 9 (px_hl V F k)) else am_max 0 (σ 1 (2 * k + t) - px_lim (lw 1 (px_nm V F σ k t)) 9 (px_hl V F k)))
    have z := q _ L2 R1 (Fr.rf.up rfl) f2
    refine ⟨fun c2 => ?_, fun c2 => ?_⟩
    · rw [if_pos c2] at z
      simp (disch := omega) only [B10_63, HS hs, s60 hs (k := k) (t := t) ⟨h0, by omega⟩ ht, GA, GR, GRc, GO, GI, GL, GV, am_w_i, am_ga, am_it, am_if, true_and, and_true, or_true, true_or, ne_eq, not_false_eq_true, not_true_eq_false, false_imp_iff, true_imp_iff, Int.reduceEq, Int.reduceLT, Int.reduceLE, Int.reduceAdd, Int.reduceSub, Int.reduceMul, Int.reduceNeg]
      exact z
    · rw [if_neg c2] at z
      simp (disch := omega) only [B10_63, HS hs, s60 hs (k := k) (t := t) ⟨h0, by omega⟩ ht, GA, GR, GRc, GO, GI, GL, GV, am_w_i, am_ga, am_it, am_if, true_and, and_true, or_true, true_or, ne_eq, not_false_eq_true, not_true_eq_false, false_imp_iff, true_imp_iff, Int.reduceEq, Int.reduceLT, Int.reduceLE, Int.reduceAdd, Int.reduceSub, Int.reduceMul, Int.reduceNeg]
      exact z
  · have c3 : σ 1 (2 * k + t) = 0 := by omega
    refine q I L ?_ Fr.rf LF.rf
    have : px_heal V lw F σ k t = σ := by
      funext a j; unfold px_heal am_up px_hv
      split
      · rename_i h; obtain ⟨rfl, rfl⟩ := h
        rw [c3]; unfold px_by am_min; rw [if_pos (by omega), if_neg (by omega)]
      · rfl
    rw [this]; exact hR
