/-! 9p: an E, the class: a sign between two values -/
set_option maxHeartbeats 1000000 in
theorem s45 {d : Nat} {w : Nat × Nat × Nat × Nat} {I L : Nat → Int → Int} {s u pl : Nat → Int} {K k : Nat} {X : (Nat → Int → Int)} {a0 : Int} (hT : cT s u pl K I) (hu : TU s u K) (hW : isW w.2.2.1) (hc : EC w I X) (he : EI a0 0 X) (hw : wbn (s k)) (h3 : I 44 3 = k) (hk : k ≤ K) {Q : Option am_V → am_H → Prop} (q : PTo w I pl L k (siF s X k) Q) : am_Sp (d + 2) 45 [vR (some 44), vI (s k)] (mkH w I L) Q := by
  have hl := isW_le hW
  have hK := hu.2.1
  have b0 := he.bd (by decide)
  have wv := wbn_b hw
  have b61 : bdC 61 = 4 := by decide
  have r := EI.rl (least := eRs (s k)) (m := (X 0 8).toNat) he (by omega)
  have rest : ∀ s0 : Int, s0 = (if bdC (s k) = 4 then 1 else 0) → am_WP (d + 2) 45 36 [some (vR (some 44)), some (vI (s k)), some (vI s0)] [vI (eRs (s k)), vR (some 44)] (mkH w I L) Q := by
    intro s0 hs0
    rw [B45_36]
    refine ⟨rfl, s49 (X := X) (a0 := a0) (least := eRs (s k)) hW hc he (fun I1 f1 c1 a1 => ?_)⟩
    unfold siF at q
    generalize eRl (eRs (s k)) (X 0 8).toNat X = Y at r c1 q
    obtain ⟨y, ⟨y10, y22, y4⟩, yS⟩ := r
    have bY := y.bd (by decide)
    have bx := y.2.2.2.2.1.1
    have e8 : I1 44 8 = Y 0 8 := c1.2.1.1
    have e2 : I1 (w.2.2.1 + 15) 2 = Y 0 4 := c1.1.1.2.2.2.2.1
    have hT1 := hT.cw hW f1
    have h31 : I1 44 3 = k := a1.trans h3
    have ls : (if 0 < I1 44 8 then I1 50 (I1 44 8 - 1) else 0) = eLs Y := by
      unfold eLs; rw [e8]
      by_cases c : 0 < Y 0 8
      · rw [if_pos c, if_pos c]; exact c1.2.2 _ (by omega) (by omega)
      · rw [if_neg c, if_neg c]
    have s48' : ∀ Q, am_Sp (d + 1) 48 [vR (some 44)] (mkH w I1 L) Q ↔ Q (some (vI (eLs Y))) (mkH w I1 L) := fun Q => by rw [s48 (by omega), ls]
    have ct := c1.ct hW
    have c8 : eCt Y 0 8 = Y 0 8 := by unfold eCt; rw [am_up_n _ _ _ _ (by decide)]
    have g8 : am_up I1 (w.2.2.1 + 15) 2 (Y 0 4 + 1) 44 8 = Y 0 8 := by rw [am_up_a _ _ _ _ (by omega)]; exact e8
    have s46' : Y 0 4 < 64 → ∀ Q, am_Sp (d + 1) 46 [vR (some 44)] (mkH w I1 L) Q ↔ Q (some (vI 1)) (mkH w (am_up I1 (w.2.2.1 + 15) 2 (Y 0 4 + 1)) L) := fun h Q => by rw [s46a hW (by omega), e2]
    have s46n : ¬ Y 0 4 < 64 → ∀ Q, am_Sp (d + 1) 46 [vR (some 44)] (mkH w I1 L) Q ↔ Q (some (vI 0)) (mkH w I1 L) := fun h Q => by rw [s46b hW (by omega)]
    have s47' : Y 0 4 < 64 → Y 0 8 < 72 → ∀ v Q, am_Sp (d + 1) 47 [vR (some 44), vI v] (mkH w (am_up I1 (w.2.2.1 + 15) 2 (Y 0 4 + 1)) L) Q ↔ Q none (mkH w (am_up (am_up (am_up I1 (w.2.2.1 + 15) 2 (Y 0 4 + 1)) 50 (Y 0 8) v) 44 8 (Y 0 8 + 1)) L) := fun h h' v Q => by rw [s47 (by rw [g8]; omega), g8]
    clear he hc hw y c1
    by_cases cf : bdC (s k) = 4 ∧ bdC (eLs Y) = 4
    · rw [if_pos cf] at q
      rw [if_pos cf.1] at hs0
      have z := q.bad f1 (by simp)
      clear q s46' s46n s47' ls ct
      first | (simp (disch := omega) only [KP, hs0, s48', s50, cf.1, cf.2, h31, s27 hT1 hk hK, GA, GR, GRc, GO, GI, GL, GV, am_w_i, am_ga, am_it, am_if, true_and, and_true, or_true, true_or, ne_eq, not_false_eq_true, not_true_eq_false, false_imp_iff, true_imp_iff, Int.reduceEq, Int.reduceLT, Int.reduceLE, Int.reduceAdd, Int.reduceSub, Int.reduceMul, Int.reduceNeg]; exact z) | simp (disch := omega) only [KP, hs0, s48', s50, cf.1, cf.2, h31, s27 hT1 hk hK, z, GA, GR, GRc, GO, GI, GL, GV, am_w_i, am_ga, am_it, am_if, true_and, and_true, or_true, true_or, ne_eq, not_false_eq_true, not_true_eq_false, false_imp_iff, true_imp_iff, Int.reduceEq, Int.reduceLT, Int.reduceLE, Int.reduceAdd, Int.reduceSub, Int.reduceMul, Int.reduceNeg]
    · rw [if_neg cf] at q
      have g : am_WP (d + 2) 45 67 [some (vR (some 44)), some (vI (s k)), some (vI s0)] [] (mkH w I1 L) Q := by
        rw [B45_67]
        by_cases cb : X 0 4 < 64
        · rw [if_pos cb] at q
          have ec := ct.ps (v := s k) hW
          rw [c8] at ec
          have z := q.1 _ (f1.tr (((CW.rf.up (a := w.2.2.1 + 15) (i := 2) (v := Y 0 4 + 1) (by omega)).up (a := 50) (i := Y 0 8) (v := s k) (Or.inr (Or.inl rfl))).up (a := 44) (i := 8) (v := Y 0 8 + 1) (Or.inl rfl))) rfl ec (by rw [am_up_n _ _ _ _ (by decide), am_up_a _ _ _ _ (by decide), am_up_a _ _ _ _ (by omega)]; exact h31)
          have s46' := s46' (by omega)
          have s47' := s47' (by omega) (by omega)
          clear q ec s46n ls ct
          first | (simp (disch := omega) only [KP, s46', s47', GA, GR, GRc, GO, GI, GL, GV, am_w_i, am_ga, am_it, am_if, true_and, and_true, or_true, true_or, ne_eq, not_false_eq_true, not_true_eq_false, false_imp_iff, true_imp_iff, Int.reduceEq, Int.reduceLT, Int.reduceLE, Int.reduceAdd, Int.reduceSub, Int.reduceMul, Int.reduceNeg]; exact z) | simp (disch := omega) only [KP, s46', s47', z, GA, GR, GRc, GO, GI, GL, GV, am_w_i, am_ga, am_it, am_if, true_and, and_true, or_true, true_or, ne_eq, not_false_eq_true, not_true_eq_false, false_imp_iff, true_imp_iff, Int.reduceEq, Int.reduceLT, Int.reduceLE, Int.reduceAdd, Int.reduceSub, Int.reduceMul, Int.reduceNeg]
        · rw [if_neg cb] at q
          have z := q.bad f1 (by simp)
          have s46n := s46n (by omega)
          clear q s46' s47' ls ct
          first | (simp (disch := omega) only [KP, s46n, h31, s27 hT1 hk hK, GA, GR, GRc, GO, GI, GL, GV, am_w_i, am_ga, am_it, am_if, true_and, and_true, or_true, true_or, ne_eq, not_false_eq_true, not_true_eq_false, false_imp_iff, true_imp_iff, Int.reduceEq, Int.reduceLT, Int.reduceLE, Int.reduceAdd, Int.reduceSub, Int.reduceMul, Int.reduceNeg]; exact z) | simp (disch := omega) only [KP, s46n, h31, s27 hT1 hk hK, z, GA, GR, GRc, GO, GI, GL, GV, am_w_i, am_ga, am_it, am_if, true_and, and_true, or_true, true_or, ne_eq, not_false_eq_true, not_true_eq_false, false_imp_iff, true_imp_iff, Int.reduceEq, Int.reduceLT, Int.reduceLE, Int.reduceAdd, Int.reduceSub, Int.reduceMul, Int.reduceNeg]
      clear q s46' s46n s47' ls ct
      by_cases c4 : bdC (s k) = 4
      · have c5 : ¬ bdC (eLs Y) = 4 := fun z => cf ⟨c4, z⟩
        rw [if_pos c4] at hs0
        simp (disch := omega) only [KP, hs0, s48', s50, c4, c5, GA, GR, GRc, GO, GI, GL, GV, am_w_i, am_ga, am_it, am_if, true_and, and_true, or_true, true_or, ne_eq, not_false_eq_true, not_true_eq_false, false_imp_iff, true_imp_iff, Int.reduceEq, Int.reduceLT, Int.reduceLE, Int.reduceAdd, Int.reduceSub, Int.reduceMul, Int.reduceNeg]
        rw [hs0] at g
        first | exact g | exact ⟨fun _ => g, trivial⟩
      · rw [if_neg c4] at hs0
        simp (disch := omega) only [hs0, GA, GR, GRc, GO, GI, GL, GV, am_w_i, am_ga, am_it, am_if, true_and, and_true, or_true, true_or, ne_eq, not_false_eq_true, not_true_eq_false, false_imp_iff, true_imp_iff, Int.reduceEq, Int.reduceLT, Int.reduceLE, Int.reduceAdd, Int.reduceSub, Int.reduceMul, Int.reduceNeg]
        rw [hs0] at g
        exact g
  clear q he hc
  rw [S45]
  by_cases c4 : bdC (s k) = 4
  · have es : eRs (s k) = 5 := by unfold eRs; rw [if_pos c4]
    have g := rest 1 (by rw [if_pos c4])
    rw [es] at g
    clear rest
    simp (disch := omega) only [s50, b61, c4, B45_17, GA, GR, GRc, GO, GI, GL, GV, am_w_i, am_ga, am_it, am_if, true_and, and_true, or_true, true_or, ne_eq, not_false_eq_true, not_true_eq_false, false_imp_iff, true_imp_iff, Int.reduceEq, Int.reduceLT, Int.reduceLE, Int.reduceAdd, Int.reduceSub, Int.reduceMul, Int.reduceNeg]
    all_goals exact g
  · have es : eRs (s k) = bdC (s k) := by unfold eRs; rw [if_neg c4]
    have g := rest 0 (by rw [if_neg c4])
    rw [es] at g
    clear rest
    simp (disch := omega) only [s50, b61, c4, B45_17, GA, GR, GRc, GO, GI, GL, GV, am_w_i, am_ga, am_it, am_if, true_and, and_true, or_true, true_or, ne_eq, not_false_eq_true, not_true_eq_false, false_imp_iff, true_imp_iff, Int.reduceEq, Int.reduceLT, Int.reduceLE, Int.reduceAdd, Int.reduceSub, Int.reduceMul, Int.reduceNeg]
    all_goals exact g
