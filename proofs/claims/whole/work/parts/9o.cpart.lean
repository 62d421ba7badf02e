/-! 9o: an E, the class: parts and signs -/
def PTo (w : (Nat × Nat × Nat × Nat)) (I : (Nat → Int → Int)) (pl : Nat → Int) (L : (Nat → Int → Int)) (k : Nat) (r : Int × (Nat → Int → Int)) (Q : Option am_V → am_H → Prop) : Prop := (∀ I', CW w I I' → r.1 = 0 → EC w I' r.2 → I' 44 3 = (k : Int) → Q (some (vI 1)) (mkH w I' L)) ∧ (∀ I', CW w I I' → r.1 ≠ 0 → I' 44 0 = r.1 → I' 44 1 = pl k → Q (some (vI 0)) (mkH w I' L))
theorem PTo.bad {w : (Nat × Nat × Nat × Nat)} {I I' : (Nat → Int → Int)} {pl : Nat → Int} {L : (Nat → Int → Int)} {k : Nat} {r : Int × (Nat → Int → Int)} {Q : Option am_V → am_H → Prop} (q : PTo w I pl L k r Q) (f : CW w I I') (h : r.1 ≠ 0) : Q (some (vI 0)) (mkH w (am_up (am_up I' 44 0 r.1) 44 1 (pl k)) L) := q.2 _ ((f.up (Or.inl rfl)).up (Or.inl rfl)) h (by rw [am_up_n _ _ _ _ (by decide), am_up_s]) (am_up_s _ _ _ _)
set_option maxHeartbeats 6000000 in
theorem s44 {d : Nat} {w : Nat × Nat × Nat × Nat} {I L : Nat → Int → Int} {s u pl : Nat → Int} {K k : Nat} {X : (Nat → Int → Int)} {a0 : Int} (hT : cT s u pl K I) (hu : TU s u K) (hW : isW w.2.2.1) (hc : EC w I X) (he : EI a0 1 X) (h3 : I 44 3 = k) (hk : k ≤ K) {Q : Option am_V → am_H → Prop} (q : PTo w I pl L k (ptF s u X k) Q) : am_Sp (d + 1) 44 [vR (some 44), vI (s k)] (mkH w I L) Q := by
  have hl := isW_le hW
  have hK := hu.2.1
  have bd := he.bd (by decide)
  have bx := he.2.2.2.2.1.1
  have e8 : I 44 8 = X 0 8 := hc.2.1.1
  have e9 : I 44 9 = X 0 10 := hc.2.1.2
  have e2 : I (w.2.2.1 + 15) 2 = X 0 4 := hc.1.1.2.2.2.2.1
  have e1 : I (w.2.2.1 + 15) 1 = X 0 6 := hc.1.1.2.2.2.2.2
  obtain ⟨t1, t2, t3⟩ := hT k hk
  have c4 : eCt X 0 6 = X 0 6 := by unfold eCt; rw [am_up_n _ _ _ _ (by decide)]
  have c8 : eCt X 0 8 = X 0 8 := by unfold eCt; rw [am_up_n _ _ _ _ (by decide)]
  have s46' : X 0 4 < 64 → ∀ Q, am_Sp d 46 [vR (some 44)] (mkH w I L) Q ↔ Q (some (vI 1)) (mkH w (am_up I (w.2.2.1 + 15) 2 (X 0 4 + 1)) L) := fun h Q => by rw [s46a hW (by omega), e2]
  have s46n : ¬ X 0 4 < 64 → ∀ Q, am_Sp d 46 [vR (some 44)] (mkH w I L) Q ↔ Q (some (vI 0)) (mkH w I L) := fun h Q => by rw [s46b hW (by omega)]
  have g1 : am_up I (w.2.2.1 + 15) 2 (X 0 4 + 1) (w.2.2.1 + 15) 1 = X 0 6 := by rw [am_up_n _ _ _ _ (by decide)]; exact e1
  have g8 : am_up I (w.2.2.1 + 15) 2 (X 0 4 + 1) 44 8 = X 0 8 := by rw [am_up_a _ _ _ _ (by omega)]; exact e8
  have g3 : am_up I (w.2.2.1 + 15) 2 (X 0 4 + 1) 44 3 = (k : Int) := by rw [am_up_a _ _ _ _ (by omega)]; exact h3
  have g47 : am_up I (w.2.2.1 + 15) 2 (X 0 4 + 1) 47 k = u k := by rw [am_up_a _ _ _ _ (by omega)]; exact t2
  have s13' : X 0 4 < 64 → ∀ v Q, am_Sp d 13 [vR (some (w.2.2.1 + 15)), vI v] (mkH w (am_up I (w.2.2.1 + 15) 2 (X 0 4 + 1)) L) Q ↔ Q none (mkH w (am_up (am_up (am_up I (w.2.2.1 + 15) 2 (X 0 4 + 1)) (w.2.2.1 + 16) (X 0 6) v) (w.2.2.1 + 15) 1 (X 0 6 + 1)) L) := fun h v Q => by rw [s13 hW (by rw [g1]; omega), g1]
  have s47' : X 0 4 < 64 → X 0 8 < 72 → ∀ v Q, am_Sp d 47 [vR (some 44), vI v] (mkH w (am_up I (w.2.2.1 + 15) 2 (X 0 4 + 1)) L) Q ↔ Q none (mkH w (am_up (am_up (am_up I (w.2.2.1 + 15) 2 (X 0 4 + 1)) 50 (X 0 8) v) 44 8 (X 0 8 + 1)) L) := fun h h' v Q => by rw [s47 (by rw [g8]; omega), g8]
  have ls : (if 0 < I 44 8 then I 50 (I 44 8 - 1) else 0) = eLs X := by
    unfold eLs; rw [e8]
    by_cases c : 0 < X 0 8
    · rw [if_pos c, if_pos c]; exact hc.2.2 _ (by omega) (by omega)
    · rw [if_neg c, if_neg c]
  have s48' : ∀ Q, am_Sp d 48 [vR (some 44)] (mkH w I L) Q ↔ Q (some (vI (eLs X))) (mkH w I L) := fun Q => by rw [s48 (by omega), ls]
  have ct := hc.ct hW
  have b113 : bdC 113 = 3 := by decide
  clear he
  rw [S44]
  by_cases c1 : s k = 40
  · by_cases c : X 0 10 < 8
    · have e : ptF s u X k = (0, ePs (am_up X 0 10 (X 0 10 + 1)) 40) := by unfold ptF; rw [if_pos c1, if_pos c]
      rw [e] at q
      have o8 : am_up X 0 10 (X 0 10 + 1) 0 8 = X 0 8 := am_up_n _ _ _ _ (by decide)
      have i8 : am_up I 44 9 (X 0 10 + 1) 44 8 = X 0 8 := by rw [am_up_n _ _ _ _ (by decide)]; exact e8
      have ec := (hc.o (v := X 0 10 + 1) hW).ps (v := 40) hW
      rw [o8] at ec
      have z := q.1 _ (((CW.rf.up (a := 44) (i := 9) (v := X 0 10 + 1) (Or.inl rfl)).up (a := 50) (i := X 0 8) (v := 40) (Or.inr (Or.inl rfl))).up (a := 44) (i := 8) (v := X 0 8 + 1) (Or.inl rfl)) rfl ec (by rw [am_up_n _ _ _ _ (by decide), am_up_a _ _ _ _ (by decide), am_up_n _ _ _ _ (by decide)]; exact h3)
      have s47o : ∀ v Q, am_Sp d 47 [vR (some 44), vI v] (mkH w (am_up I 44 9 (X 0 10 + 1)) L) Q ↔ Q none (mkH w (am_up (am_up (am_up I 44 9 (X 0 10 + 1)) 50 (X 0 8) v) 44 8 (X 0 8 + 1)) L) := fun v Q => by rw [s47 (by rw [i8]; omega), i8]
      clear q ec s46' s46n s13' s47' s48' ls hc ct
      first | (simp (disch := omega) only [KP, c1, e9, B44_35, s47o, GA, GR, GRc, GO, GI, GL, GV, am_w_i, am_ga, am_it, am_if, true_and, and_true, or_true, true_or, ne_eq, not_false_eq_true, not_true_eq_false, false_imp_iff, true_imp_iff, Int.reduceEq, Int.reduceLT, Int.reduceLE, Int.reduceAdd, Int.reduceSub, Int.reduceMul, Int.reduceNeg]; exact z) | simp (disch := omega) only [KP, c1, e9, B44_35, s47o, z, GA, GR, GRc, GO, GI, GL, GV, am_w_i, am_ga, am_it, am_if, true_and, and_true, or_true, true_or, ne_eq, not_false_eq_true, not_true_eq_false, false_imp_iff, true_imp_iff, Int.reduceEq, Int.reduceLT, Int.reduceLE, Int.reduceAdd, Int.reduceSub, Int.reduceMul, Int.reduceNeg]
    · have e : ptF s u X k = (2, X) := by unfold ptF; rw [if_pos c1, if_neg c]
      rw [e] at q
      have z := q.bad CW.rf (by simp)
      clear q s46' s46n s13' s47' s48' ls hc ct
      first | (simp (disch := omega) only [KP, c1, e9, h3, s27 hT hk hK, GA, GR, GRc, GO, GI, GL, GV, am_w_i, am_ga, am_it, am_if, true_and, and_true, or_true, true_or, ne_eq, not_false_eq_true, not_true_eq_false, false_imp_iff, true_imp_iff, Int.reduceEq, Int.reduceLT, Int.reduceLE, Int.reduceAdd, Int.reduceSub, Int.reduceMul, Int.reduceNeg]; exact z) | simp (disch := omega) only [KP, c1, e9, h3, s27 hT hk hK, z, GA, GR, GRc, GO, GI, GL, GV, am_w_i, am_ga, am_it, am_if, true_and, and_true, or_true, true_or, ne_eq, not_false_eq_true, not_true_eq_false, false_imp_iff, true_imp_iff, Int.reduceEq, Int.reduceLT, Int.reduceLE, Int.reduceAdd, Int.reduceSub, Int.reduceMul, Int.reduceNeg]
  · by_cases c2 : s k = 3
    · by_cases ca : u k ≤ 9999
      · by_cases cb : X 0 4 < 64
        · have e : ptF s u X k = (0, eGr (eCt X) (u k) 0 (u k) 0) := by unfold ptF; rw [if_neg c1, if_pos c2, if_pos ⟨ca, cb⟩]
          rw [e] at q
          have ec := ct.gr (r := u k) (k := 0) (p := u k) (o := 0) hW
          rw [c4] at ec
          have z := q.1 _ (((CW.rf.up (a := w.2.2.1 + 15) (i := 2) (v := X 0 4 + 1) (by omega)).up (a := w.2.2.1 + 16) (i := X 0 6) (v := u k) (by omega)).up (a := w.2.2.1 + 15) (i := 1) (v := X 0 6 + 1) (by omega)) rfl ec (by rw [am_up_a _ _ _ _ (by omega), am_up_a _ _ _ _ (by omega)]; exact g3)
          have s46' := s46' cb
          have s13' := s13' cb
          clear q ec s46n s47' s48' ls hc ct
          first | (simp (disch := omega) only [KP, c2, h3, t2, B44_59, B44_64, B44_100, B44_123, s46', g3, g47, HW hW, B44_173, s13', B44_184, GA, GR, GRc, GO, GI, GL, GV, am_w_i, am_ga, am_it, am_if, true_and, and_true, or_true, true_or, ne_eq, not_false_eq_true, not_true_eq_false, false_imp_iff, true_imp_iff, Int.reduceEq, Int.reduceLT, Int.reduceLE, Int.reduceAdd, Int.reduceSub, Int.reduceMul, Int.reduceNeg]; exact z) | simp (disch := omega) only [KP, c2, h3, t2, B44_59, B44_64, B44_100, B44_123, s46', g3, g47, HW hW, B44_173, s13', B44_184, z, GA, GR, GRc, GO, GI, GL, GV, am_w_i, am_ga, am_it, am_if, true_and, and_true, or_true, true_or, ne_eq, not_false_eq_true, not_true_eq_false, false_imp_iff, true_imp_iff, Int.reduceEq, Int.reduceLT, Int.reduceLE, Int.reduceAdd, Int.reduceSub, Int.reduceMul, Int.reduceNeg]
        · have e : ptF s u X k = (2, X) := by unfold ptF; rw [if_neg c1, if_pos c2, if_neg (fun z => cb z.2)]
          rw [e] at q
          have z := q.bad CW.rf (by simp)
          have s46n := s46n cb
          clear q s46' s13' s47' s48' ls hc ct
          first | (simp (disch := omega) only [KP, c2, h3, t2, B44_59, B44_64, B44_100, B44_123, s46n, B44_130, s27 hT hk hK, GA, GR, GRc, GO, GI, GL, GV, am_w_i, am_ga, am_it, am_if, true_and, and_true, or_true, true_or, ne_eq, not_false_eq_true, not_true_eq_false, false_imp_iff, true_imp_iff, Int.reduceEq, Int.reduceLT, Int.reduceLE, Int.reduceAdd, Int.reduceSub, Int.reduceMul, Int.reduceNeg]; exact z) | simp (disch := omega) only [KP, c2, h3, t2, B44_59, B44_64, B44_100, B44_123, s46n, B44_130, s27 hT hk hK, z, GA, GR, GRc, GO, GI, GL, GV, am_w_i, am_ga, am_it, am_if, true_and, and_true, or_true, true_or, ne_eq, not_false_eq_true, not_true_eq_false, false_imp_iff, true_imp_iff, Int.reduceEq, Int.reduceLT, Int.reduceLE, Int.reduceAdd, Int.reduceSub, Int.reduceMul, Int.reduceNeg]
      · have e : ptF s u X k = (2, X) := by unfold ptF; rw [if_neg c1, if_pos c2, if_neg (fun z => ca z.1)]
        rw [e] at q
        have z := q.bad CW.rf (by simp)
        clear q s46' s46n s13' s47' s48' ls hc ct
        first | (simp (disch := omega) only [KP, c2, h3, t2, B44_59, B44_64, B44_100, B44_130, s27 hT hk hK, GA, GR, GRc, GO, GI, GL, GV, am_w_i, am_ga, am_it, am_if, true_and, and_true, or_true, true_or, ne_eq, not_false_eq_true, not_true_eq_false, false_imp_iff, true_imp_iff, Int.reduceEq, Int.reduceLT, Int.reduceLE, Int.reduceAdd, Int.reduceSub, Int.reduceMul, Int.reduceNeg]; exact z) | simp (disch := omega) only [KP, c2, h3, t2, B44_59, B44_64, B44_100, B44_130, s27 hT hk hK, z, GA, GR, GRc, GO, GI, GL, GV, am_w_i, am_ga, am_it, am_if, true_and, and_true, or_true, true_or, ne_eq, not_false_eq_true, not_true_eq_false, false_imp_iff, true_imp_iff, Int.reduceEq, Int.reduceLT, Int.reduceLE, Int.reduceAdd, Int.reduceSub, Int.reduceMul, Int.reduceNeg]
    · by_cases c3 : 114 ≤ s k ∧ s k ≤ 120
      · by_cases cb : X 0 4 < 64
        · have e : ptF s u X k = (0, eGr (eCt X) (-(s k)) 1 (s k - 114) 0) := by unfold ptF; rw [if_neg c1, if_neg c2, if_pos c3, if_pos cb]
          rw [e] at q
          have ec := ct.gr (r := -(s k)) (k := 1) (p := s k - 114) (o := 0) hW
          rw [c4] at ec
          have z := q.1 _ (((CW.rf.up (a := w.2.2.1 + 15) (i := 2) (v := X 0 4 + 1) (by omega)).up (a := w.2.2.1 + 16) (i := X 0 6) (v := -(s k)) (by omega)).up (a := w.2.2.1 + 15) (i := 1) (v := X 0 6 + 1) (by omega)) rfl ec (by rw [am_up_a _ _ _ _ (by omega), am_up_a _ _ _ _ (by omega)]; exact g3)
          have s46' := s46' cb
          have s13' := s13' cb
          clear q ec s46n s47' s48' ls hc ct
          first | (simp (disch := omega) only [KP, B44_59, B44_64, B44_100, B44_123, s46', g3, HW hW, B44_173, s13', B44_184, GA, GR, GRc, GO, GI, GL, GV, am_w_i, am_ga, am_it, am_if, true_and, and_true, or_true, true_or, ne_eq, not_false_eq_true, not_true_eq_false, false_imp_iff, true_imp_iff, Int.reduceEq, Int.reduceLT, Int.reduceLE, Int.reduceAdd, Int.reduceSub, Int.reduceMul, Int.reduceNeg]; exact z) | simp (disch := omega) only [KP, B44_59, B44_64, B44_100, B44_123, s46', g3, HW hW, B44_173, s13', B44_184, z, GA, GR, GRc, GO, GI, GL, GV, am_w_i, am_ga, am_it, am_if, true_and, and_true, or_true, true_or, ne_eq, not_false_eq_true, not_true_eq_false, false_imp_iff, true_imp_iff, Int.reduceEq, Int.reduceLT, Int.reduceLE, Int.reduceAdd, Int.reduceSub, Int.reduceMul, Int.reduceNeg]
        · have e : ptF s u X k = (2, X) := by unfold ptF; rw [if_neg c1, if_neg c2, if_pos c3, if_neg cb]
          rw [e] at q
          have z := q.bad CW.rf (by simp)
          have s46n := s46n cb
          clear q s46' s13' s47' s48' ls hc ct
          first | (simp (disch := omega) only [KP, h3, B44_59, B44_64, B44_100, B44_123, s46n, B44_130, s27 hT hk hK, GA, GR, GRc, GO, GI, GL, GV, am_w_i, am_ga, am_it, am_if, true_and, and_true, or_true, true_or, ne_eq, not_false_eq_true, not_true_eq_false, false_imp_iff, true_imp_iff, Int.reduceEq, Int.reduceLT, Int.reduceLE, Int.reduceAdd, Int.reduceSub, Int.reduceMul, Int.reduceNeg]; exact z) | simp (disch := omega) only [KP, h3, B44_59, B44_64, B44_100, B44_123, s46n, B44_130, s27 hT hk hK, z, GA, GR, GRc, GO, GI, GL, GV, am_w_i, am_ga, am_it, am_if, true_and, and_true, or_true, true_or, ne_eq, not_false_eq_true, not_true_eq_false, false_imp_iff, true_imp_iff, Int.reduceEq, Int.reduceLT, Int.reduceLE, Int.reduceAdd, Int.reduceSub, Int.reduceMul, Int.reduceNeg]
      · have g : am_WP (d + 1) 44 63 [some (vR (some 44)), some (vI (s k)), none] [] (mkH w I L) Q := by
          by_cases c5 : s k = 113
          · by_cases c6 : bdC (eLs X) ≤ 3
            · by_cases cb : X 0 4 < 64
              · have e : ptF s u X k = (0, ePs (eCt X) 113) := by unfold ptF; rw [if_neg c1, if_neg c2, if_neg c3, if_pos ⟨c5, c6⟩, if_pos cb]
                rw [e] at q
                have ec := ct.ps (v := 113) hW
                rw [c8] at ec
                have z := q.1 _ (((CW.rf.up (a := w.2.2.1 + 15) (i := 2) (v := X 0 4 + 1) (by omega)).up (a := 50) (i := X 0 8) (v := 113) (Or.inr (Or.inl rfl))).up (a := 44) (i := 8) (v := X 0 8 + 1) (Or.inl rfl)) rfl ec (by rw [am_up_n _ _ _ _ (by decide), am_up_a _ _ _ _ (by decide)]; exact g3)
                have s46' := s46' cb
                have s47' := s47' cb (by omega)
                clear q ec s46n s13' ls hc ct
                first | (simp (disch := omega) only [KP, c5, c6, b113, s48', s50, B44_63, B44_64, B44_100, B44_123, s46', s47', B44_184, GA, GR, GRc, GO, GI, GL, GV, am_w_i, am_ga, am_it, am_if, true_and, and_true, or_true, true_or, ne_eq, not_false_eq_true, not_true_eq_false, false_imp_iff, true_imp_iff, Int.reduceEq, Int.reduceLT, Int.reduceLE, Int.reduceAdd, Int.reduceSub, Int.reduceMul, Int.reduceNeg]; exact z) | simp (disch := omega) only [KP, c5, c6, b113, s48', s50, B44_63, B44_64, B44_100, B44_123, s46', s47', B44_184, z, GA, GR, GRc, GO, GI, GL, GV, am_w_i, am_ga, am_it, am_if, true_and, and_true, or_true, true_or, ne_eq, not_false_eq_true, not_true_eq_false, false_imp_iff, true_imp_iff, Int.reduceEq, Int.reduceLT, Int.reduceLE, Int.reduceAdd, Int.reduceSub, Int.reduceMul, Int.reduceNeg]
              · have e : ptF s u X k = (2, X) := by unfold ptF; rw [if_neg c1, if_neg c2, if_neg c3, if_pos ⟨c5, c6⟩, if_neg cb]
                rw [e] at q
                have z := q.bad CW.rf (by simp)
                have s46n := s46n cb
                clear q s46' s13' s47' ls hc ct
                first | (simp (disch := omega) only [KP, h3, c5, c6, b113, s48', s50, B44_63, B44_64, B44_100, B44_123, s46n, B44_130, s27 hT hk hK, GA, GR, GRc, GO, GI, GL, GV, am_w_i, am_ga, am_it, am_if, true_and, and_true, or_true, true_or, ne_eq, not_false_eq_true, not_true_eq_false, false_imp_iff, true_imp_iff, Int.reduceEq, Int.reduceLT, Int.reduceLE, Int.reduceAdd, Int.reduceSub, Int.reduceMul, Int.reduceNeg]; exact z) | simp (disch := omega) only [KP, h3, c5, c6, b113, s48', s50, B44_63, B44_64, B44_100, B44_123, s46n, B44_130, s27 hT hk hK, z, GA, GR, GRc, GO, GI, GL, GV, am_w_i, am_ga, am_it, am_if, true_and, and_true, or_true, true_or, ne_eq, not_false_eq_true, not_true_eq_false, false_imp_iff, true_imp_iff, Int.reduceEq, Int.reduceLT, Int.reduceLE, Int.reduceAdd, Int.reduceSub, Int.reduceMul, Int.reduceNeg]
            · have e : ptF s u X k = (1, X) := by unfold ptF; rw [if_neg c1, if_neg c2, if_neg c3, if_neg (fun z => c6 z.2)]
              rw [e] at q
              have z := q.bad CW.rf (by simp)
              clear q s46' s46n s13' s47' ls hc ct
              first | (simp (disch := omega) only [KP, h3, c5, c6, b113, s48', s50, B44_63, B44_64, B44_90, s27 hT hk hK, GA, GR, GRc, GO, GI, GL, GV, am_w_i, am_ga, am_it, am_if, true_and, and_true, or_true, true_or, ne_eq, not_false_eq_true, not_true_eq_false, false_imp_iff, true_imp_iff, Int.reduceEq, Int.reduceLT, Int.reduceLE, Int.reduceAdd, Int.reduceSub, Int.reduceMul, Int.reduceNeg]; exact z) | simp (disch := omega) only [KP, h3, c5, c6, b113, s48', s50, B44_63, B44_64, B44_90, s27 hT hk hK, z, GA, GR, GRc, GO, GI, GL, GV, am_w_i, am_ga, am_it, am_if, true_and, and_true, or_true, true_or, ne_eq, not_false_eq_true, not_true_eq_false, false_imp_iff, true_imp_iff, Int.reduceEq, Int.reduceLT, Int.reduceLE, Int.reduceAdd, Int.reduceSub, Int.reduceMul, Int.reduceNeg]
          · have e : ptF s u X k = (1, X) := by unfold ptF; rw [if_neg c1, if_neg c2, if_neg c3, if_neg (fun z => c5 z.1)]
            rw [e] at q
            have z := q.bad CW.rf (by simp)
            clear q s46' s46n s13' s47' ls hc ct
            first | (simp (disch := omega) only [KP, h3, c5, B44_63, B44_64, B44_90, s27 hT hk hK, GA, GR, GRc, GO, GI, GL, GV, am_w_i, am_ga, am_it, am_if, true_and, and_true, or_true, true_or, ne_eq, not_false_eq_true, not_true_eq_false, false_imp_iff, true_imp_iff, Int.reduceEq, Int.reduceLT, Int.reduceLE, Int.reduceAdd, Int.reduceSub, Int.reduceMul, Int.reduceNeg]; exact z) | simp (disch := omega) only [KP, h3, c5, B44_63, B44_64, B44_90, s27 hT hk hK, z, GA, GR, GRc, GO, GI, GL, GV, am_w_i, am_ga, am_it, am_if, true_and, and_true, or_true, true_or, ne_eq, not_false_eq_true, not_true_eq_false, false_imp_iff, true_imp_iff, Int.reduceEq, Int.reduceLT, Int.reduceLE, Int.reduceAdd, Int.reduceSub, Int.reduceMul, Int.reduceNeg]
        clear q s46' s46n s13' s47' s48' ls hc ct
        simp (disch := omega) only [c1, c2, GA, GR, GRc, GO, GI, GL, GV, am_w_i, am_ga, am_it, am_if, true_and, and_true, or_true, true_or, ne_eq, not_false_eq_true, not_true_eq_false, false_imp_iff, true_imp_iff, Int.reduceEq, Int.reduceLT, Int.reduceLE, Int.reduceAdd, Int.reduceSub, Int.reduceMul, Int.reduceNeg]
        refine ⟨fun _ => g, fun y => ?_⟩
        simp (disch := omega) only [GA, GR, GRc, GO, GI, GL, GV, am_w_i, am_ga, am_it, am_if, true_and, and_true, or_true, true_or, ne_eq, not_false_eq_true, not_true_eq_false, false_imp_iff, true_imp_iff, Int.reduceEq, Int.reduceLT, Int.reduceLE, Int.reduceAdd, Int.reduceSub, Int.reduceMul, Int.reduceNeg]
