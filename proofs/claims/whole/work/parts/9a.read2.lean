/-! 9a: reading, the rest of the class, the reference -/
def CFo (I : (Nat → Int → Int)) (s u pl : Nat → Int) (w : (Nat × Nat × Nat × Nat)) (L : (Nat → Int → Int)) (r : Int × Nat × Int) (bad : Int) (Q : Option am_V → am_H → Prop) : Prop := (∀ I', CS I I' → r.1 = 0 → I' 44 3 = (r.2.1 : Int) → Q (some (vI r.2.2)) (mkH w I' L)) ∧ (∀ I', CF I I' → r.1 ≠ 0 → I' 44 0 = r.1 → I' 44 1 = pl r.2.1 → Q (some (vI bad)) (mkH w I' L))
theorem s32 {d : Nat} {w : Nat × Nat × Nat × Nat} {I L : Nat → Int → Int} {s u pl : Nat → Int} {K k : Nat} {most : Int} (hT : cT s u pl K I) (hU : ∀ k, k ≤ K → s k = 3 → 0 ≤ u k ∧ u k ≤ 1000000) (hK0 : s K = 0) (h3 : I 44 3 = k) (hk : k ≤ K) (hK : K ≤ 700) {Q : Option am_V → am_H → Prop} (q : CFo I s u pl w L (sgF s u k most) (-2147483648) Q) : am_Sp (d + 2) 32 [vR (some 44), vI most] (mkH w I L) Q := by
  obtain ⟨t1, t2, t3⟩ := hT k hk
  obtain ⟨q1, q2⟩ := q
  rw [S32]
  by_cases c1 : s k = 45
  · have e : sgF s u k most = ((nmF s u (k + 1) most).1, (nmF s u (k + 1) most).2.1, -(nmF s u (k + 1) most).2.2) := by unfold sgF; rw [if_pos c1]
    rw [e] at q1 q2
    dsimp only at q1 q2
    have k1 : k + 1 ≤ K := by
      rcases Nat.lt_or_ge k K with h | h
      · exact h
      · obtain rfl : k = K := by omega
        omega
    simp (disch := omega) only [KP, h3, t1, c1, B32_22, B32_37, GA, GR, GRc, GO, GI, GL, GV, am_w_i, am_ga, am_it, am_if, true_and, and_true, or_true, true_or, ne_eq, not_false_eq_true, not_true_eq_false, false_imp_iff, true_imp_iff, Int.reduceEq, Int.reduceLT, Int.reduceLE, Int.reduceAdd, Int.reduceSub, Int.reduceMul, Int.reduceNeg]
    refine s31 (s := s) (u := u) (pl := pl) (k := k + 1) (hT.cf (CS.rf.up (by decide))) (by rw [am_up_s]; omega) k1 hK (fun I' f x1 x2 => ?_) (fun I' f x1 x2 x3 => ?_)
    · obtain ⟨b1, b2, b3, b4⟩ := nmF_b x1
      have hu := hU _ k1 b1
      have z := q1 I' ((CS.rf.up (by decide)).tr f) x1 x2
      rw [b3] at z ⊢
      clear q1 q2
      first | (simp (disch := omega) only [B32_60, GA, GR, GRc, GO, GI, GL, GV, am_w_i, am_ga, am_it, am_if, true_and, and_true, or_true, true_or, ne_eq, not_false_eq_true, not_true_eq_false, false_imp_iff, true_imp_iff, Int.reduceEq, Int.reduceLT, Int.reduceLE, Int.reduceAdd, Int.reduceSub, Int.reduceMul, Int.reduceNeg]; exact z) | simp (disch := omega) only [B32_60, z, GA, GR, GRc, GO, GI, GL, GV, am_w_i, am_ga, am_it, am_if, true_and, and_true, or_true, true_or, ne_eq, not_false_eq_true, not_true_eq_false, false_imp_iff, true_imp_iff, Int.reduceEq, Int.reduceLT, Int.reduceLE, Int.reduceAdd, Int.reduceSub, Int.reduceMul, Int.reduceNeg]
    · have z := q2 I' ((CF.rf.up (by decide)).tr f) x1 x2 x3
      clear q1 q2
      first | (simp (disch := omega) only [GA, GR, GRc, GO, GI, GL, GV, am_w_i, am_ga, am_it, am_if, true_and, and_true, or_true, true_or, ne_eq, not_false_eq_true, not_true_eq_false, false_imp_iff, true_imp_iff, Int.reduceEq, Int.reduceLT, Int.reduceLE, Int.reduceAdd, Int.reduceSub, Int.reduceMul, Int.reduceNeg]; exact z) | simp (disch := omega) only [z, GA, GR, GRc, GO, GI, GL, GV, am_w_i, am_ga, am_it, am_if, true_and, and_true, or_true, true_or, ne_eq, not_false_eq_true, not_true_eq_false, false_imp_iff, true_imp_iff, Int.reduceEq, Int.reduceLT, Int.reduceLE, Int.reduceAdd, Int.reduceSub, Int.reduceMul, Int.reduceNeg]
  · have e : sgF s u k most = nmF s u k most := by unfold sgF; rw [if_neg c1]
    rw [e] at q1 q2
    simp (disch := omega) only [KP, h3, t1, c1, B32_22, B32_37, GA, GR, GRc, GO, GI, GL, GV, am_w_i, am_ga, am_it, am_if, true_and, and_true, or_true, true_or, ne_eq, not_false_eq_true, not_true_eq_false, false_imp_iff, true_imp_iff, Int.reduceEq, Int.reduceLT, Int.reduceLE, Int.reduceAdd, Int.reduceSub, Int.reduceMul, Int.reduceNeg]
    refine s31 hT h3 hk hK (fun I' f x1 x2 => ?_) (fun I' f x1 x2 x3 => ?_)
    · obtain ⟨b1, b2, b3, b4⟩ := nmF_b x1
      have hu := hU _ hk b1
      have z := q1 I' f x1 x2
      rw [b3] at z ⊢
      clear q1 q2
      first | (simp (disch := omega) only [B32_60, GA, GR, GRc, GO, GI, GL, GV, am_w_i, am_ga, am_it, am_if, true_and, and_true, or_true, true_or, ne_eq, not_false_eq_true, not_true_eq_false, false_imp_iff, true_imp_iff, Int.reduceEq, Int.reduceLT, Int.reduceLE, Int.reduceAdd, Int.reduceSub, Int.reduceMul, Int.reduceNeg]; exact z) | simp (disch := omega) only [B32_60, z, GA, GR, GRc, GO, GI, GL, GV, am_w_i, am_ga, am_it, am_if, true_and, and_true, or_true, true_or, ne_eq, not_false_eq_true, not_true_eq_false, false_imp_iff, true_imp_iff, Int.reduceEq, Int.reduceLT, Int.reduceLE, Int.reduceAdd, Int.reduceSub, Int.reduceMul, Int.reduceNeg]
    · have z := q2 I' f x1 x2 x3
      clear q1 q2
      first | (simp (disch := omega) only [GA, GR, GRc, GO, GI, GL, GV, am_w_i, am_ga, am_it, am_if, true_and, and_true, or_true, true_or, ne_eq, not_false_eq_true, not_true_eq_false, false_imp_iff, true_imp_iff, Int.reduceEq, Int.reduceLT, Int.reduceLE, Int.reduceAdd, Int.reduceSub, Int.reduceMul, Int.reduceNeg]; exact z) | simp (disch := omega) only [z, GA, GR, GRc, GO, GI, GL, GV, am_w_i, am_ga, am_it, am_if, true_and, and_true, or_true, true_or, ne_eq, not_false_eq_true, not_true_eq_false, false_imp_iff, true_imp_iff, Int.reduceEq, Int.reduceLT, Int.reduceLE, Int.reduceAdd, Int.reduceSub, Int.reduceMul, Int.reduceNeg]
theorem s33 {d : Nat} {w : Nat × Nat × Nat × Nat} {I L : Nat → Int → Int} {s u pl : Nat → Int} {K k a c ln : Nat} (hT : cT s u pl K I) (h3 : I 44 3 = k) (hk : k ≤ K) (hK : K ≤ 700) (ha : a ≠ 44) (hka : ∀ I, am_kd (mkH w I L) a = 13) (hla : ∀ I, am_ln (mkH w I L) a = ln) (hc : c ≤ ln) (hl : ln ≤ 4096) {Q : Option am_V → am_H → Prop} (q : CFo I s u pl w L (nnF s u (I a) c k) (-1) Q) : am_Sp (d + 1) 33 [vR (some 44), vR (some a), vI (c : Int)] (mkH w I L) Q := by
  obtain ⟨t1, t2, t3⟩ := hT k hk
  obtain ⟨q1, q2⟩ := q
  rw [S33]
  by_cases c1 : s k = 2
  · by_cases c2 : px_find (I a) (u k) c 0 < 0
    · have e : nnF s u (I a) c k = (0, k + 1, u k) := by unfold nnF; rw [if_pos c1, if_pos c2]
      rw [e] at q1
      have z := q1 (am_up I 44 3 ((k : Int) + 1)) (CS.rf.up (by decide)) rfl (by rw [am_up_s]; rfl)
      clear q1 q2
      have ek : (k : Int) + 1 - 1 = k := by omega
      first | (simp (disch := omega) only [KP, h3, t1, t2, c1, s92 (hka I) (hla I) hc hl, c2, B33_45, B33_72, am_up_s, am_up_a, ek, GA, GR, GRc, GO, GI, GL, GV, am_w_i, am_ga, am_it, am_if, true_and, and_true, or_true, true_or, ne_eq, not_false_eq_true, not_true_eq_false, false_imp_iff, true_imp_iff, Int.reduceEq, Int.reduceLT, Int.reduceLE, Int.reduceAdd, Int.reduceSub, Int.reduceMul, Int.reduceNeg]; exact z) | simp (disch := omega) only [KP, h3, t1, t2, c1, s92 (hka I) (hla I) hc hl, c2, B33_45, B33_72, am_up_s, am_up_a, ek, z, GA, GR, GRc, GO, GI, GL, GV, am_w_i, am_ga, am_it, am_if, true_and, and_true, or_true, true_or, ne_eq, not_false_eq_true, not_true_eq_false, false_imp_iff, true_imp_iff, Int.reduceEq, Int.reduceLT, Int.reduceLE, Int.reduceAdd, Int.reduceSub, Int.reduceMul, Int.reduceNeg]
    · have e : nnF s u (I a) c k = (3, k, 0) := by unfold nnF; rw [if_pos c1, if_neg c2]
      rw [e] at q2
      dsimp only at q2
      have z := q2 (am_up (am_up I 44 0 3) 44 1 (pl k)) ((CF.rf.up (by decide)).up (by decide)) (by decide) (by rw [am_up_n _ _ _ _ (by decide), am_up_s]) (am_up_s _ _ _ _)
      clear q1 q2
      first | (simp (disch := omega) only [KP, h3, t1, t2, c1, s92 (hka I) (hla I) hc hl, c2, B33_45, s27 hT hk hK, GA, GR, GRc, GO, GI, GL, GV, am_w_i, am_ga, am_it, am_if, true_and, and_true, or_true, true_or, ne_eq, not_false_eq_true, not_true_eq_false, false_imp_iff, true_imp_iff, Int.reduceEq, Int.reduceLT, Int.reduceLE, Int.reduceAdd, Int.reduceSub, Int.reduceMul, Int.reduceNeg]; exact z) | simp (disch := omega) only [KP, h3, t1, t2, c1, s92 (hka I) (hla I) hc hl, c2, B33_45, s27 hT hk hK, z, GA, GR, GRc, GO, GI, GL, GV, am_w_i, am_ga, am_it, am_if, true_and, and_true, or_true, true_or, ne_eq, not_false_eq_true, not_true_eq_false, false_imp_iff, true_imp_iff, Int.reduceEq, Int.reduceLT, Int.reduceLE, Int.reduceAdd, Int.reduceSub, Int.reduceMul, Int.reduceNeg]
  · have e : nnF s u (I a) c k = (1, k, 0) := by unfold nnF; rw [if_neg c1]
    rw [e] at q2
    dsimp only at q2
    have z := q2 (am_up (am_up I 44 0 1) 44 1 (pl k)) ((CF.rf.up (by decide)).up (by decide)) (by decide) (by rw [am_up_n _ _ _ _ (by decide), am_up_s]) (am_up_s _ _ _ _)
    clear q1 q2
    first | (simp (disch := omega) only [KP, h3, t1, c1, B33_45, s27 hT hk hK, GA, GR, GRc, GO, GI, GL, GV, am_w_i, am_ga, am_it, am_if, true_and, and_true, or_true, true_or, ne_eq, not_false_eq_true, not_true_eq_false, false_imp_iff, true_imp_iff, Int.reduceEq, Int.reduceLT, Int.reduceLE, Int.reduceAdd, Int.reduceSub, Int.reduceMul, Int.reduceNeg]; exact z) | simp (disch := omega) only [KP, h3, t1, c1, B33_45, s27 hT hk hK, z, GA, GR, GRc, GO, GI, GL, GV, am_w_i, am_ga, am_it, am_if, true_and, and_true, or_true, true_or, ne_eq, not_false_eq_true, not_true_eq_false, false_imp_iff, true_imp_iff, Int.reduceEq, Int.reduceLT, Int.reduceLE, Int.reduceAdd, Int.reduceSub, Int.reduceMul, Int.reduceNeg]
theorem s34 {d : Nat} {w : Nat × Nat × Nat × Nat} {I L : Nat → Int → Int} {s u pl : Nat → Int} {K k a c ln : Nat} (hT : cT s u pl K I) (h3 : I 44 3 = k) (hk : k ≤ K) (hK : K ≤ 700) (ha : a ≠ 44) (hka : ∀ I, am_kd (mkH w I L) a = 13) (hla : ∀ I, am_ln (mkH w I L) a = ln) (hc : c ≤ ln) (hl : ln ≤ 4096) {Q : Option am_V → am_H → Prop} (q : CFo I s u pl w L (onF s u (I a) c k) (-1) Q) : am_Sp (d + 1) 34 [vR (some 44), vR (some a), vI (c : Int)] (mkH w I L) Q := by
  obtain ⟨t1, t2, t3⟩ := hT k hk
  obtain ⟨q1, q2⟩ := q
  rw [S34]
  by_cases c1 : s k = 2
  · by_cases c2 : 0 ≤ px_find (I a) (u k) c 0
    · have e : onF s u (I a) c k = (0, k + 1, px_find (I a) (u k) c 0) := by unfold onF; rw [if_pos c1, if_pos c2]
      rw [e] at q1
      have z := q1 (am_up I 44 3 ((k : Int) + 1)) (CS.rf.up (by decide)) rfl (by rw [am_up_s]; rfl)
      clear q1 q2
      first | (simp (disch := omega) only [KP, h3, t1, t2, c1, s92 (hka I) (hla I) hc hl, c2, B34_72, GA, GR, GRc, GO, GI, GL, GV, am_w_i, am_ga, am_it, am_if, true_and, and_true, or_true, true_or, ne_eq, not_false_eq_true, not_true_eq_false, false_imp_iff, true_imp_iff, Int.reduceEq, Int.reduceLT, Int.reduceLE, Int.reduceAdd, Int.reduceSub, Int.reduceMul, Int.reduceNeg]; exact z) | simp (disch := omega) only [KP, h3, t1, t2, c1, s92 (hka I) (hla I) hc hl, c2, B34_72, z, GA, GR, GRc, GO, GI, GL, GV, am_w_i, am_ga, am_it, am_if, true_and, and_true, or_true, true_or, ne_eq, not_false_eq_true, not_true_eq_false, false_imp_iff, true_imp_iff, Int.reduceEq, Int.reduceLT, Int.reduceLE, Int.reduceAdd, Int.reduceSub, Int.reduceMul, Int.reduceNeg]
    · have e : onF s u (I a) c k = (4, k, 0) := by unfold onF; rw [if_pos c1, if_neg c2]
      rw [e] at q2
      dsimp only at q2
      have z := q2 (am_up (am_up I 44 0 4) 44 1 (pl k)) ((CF.rf.up (by decide)).up (by decide)) (by decide) (by rw [am_up_n _ _ _ _ (by decide), am_up_s]) (am_up_s _ _ _ _)
      clear q1 q2
      first | (simp (disch := omega) only [KP, h3, t1, t2, c1, s92 (hka I) (hla I) hc hl, c2, s27 hT hk hK, GA, GR, GRc, GO, GI, GL, GV, am_w_i, am_ga, am_it, am_if, true_and, and_true, or_true, true_or, ne_eq, not_false_eq_true, not_true_eq_false, false_imp_iff, true_imp_iff, Int.reduceEq, Int.reduceLT, Int.reduceLE, Int.reduceAdd, Int.reduceSub, Int.reduceMul, Int.reduceNeg]; exact z) | simp (disch := omega) only [KP, h3, t1, t2, c1, s92 (hka I) (hla I) hc hl, c2, s27 hT hk hK, z, GA, GR, GRc, GO, GI, GL, GV, am_w_i, am_ga, am_it, am_if, true_and, and_true, or_true, true_or, ne_eq, not_false_eq_true, not_true_eq_false, false_imp_iff, true_imp_iff, Int.reduceEq, Int.reduceLT, Int.reduceLE, Int.reduceAdd, Int.reduceSub, Int.reduceMul, Int.reduceNeg]
  · have e : onF s u (I a) c k = (1, k, 0) := by unfold onF; rw [if_neg c1]
    rw [e] at q2
    dsimp only at q2
    have z := q2 (am_up (am_up I 44 0 1) 44 1 (pl k)) ((CF.rf.up (by decide)).up (by decide)) (by decide) (by rw [am_up_n _ _ _ _ (by decide), am_up_s]) (am_up_s _ _ _ _)
    clear q1 q2
    first | (simp (disch := omega) only [KP, h3, t1, c1, s27 hT hk hK, GA, GR, GRc, GO, GI, GL, GV, am_w_i, am_ga, am_it, am_if, true_and, and_true, or_true, true_or, ne_eq, not_false_eq_true, not_true_eq_false, false_imp_iff, true_imp_iff, Int.reduceEq, Int.reduceLT, Int.reduceLE, Int.reduceAdd, Int.reduceSub, Int.reduceMul, Int.reduceNeg]; exact z) | simp (disch := omega) only [KP, h3, t1, c1, s27 hT hk hK, z, GA, GR, GRc, GO, GI, GL, GV, am_w_i, am_ga, am_it, am_if, true_and, and_true, or_true, true_or, ne_eq, not_false_eq_true, not_true_eq_false, false_imp_iff, true_imp_iff, Int.reduceEq, Int.reduceLT, Int.reduceLE, Int.reduceAdd, Int.reduceSub, Int.reduceMul, Int.reduceNeg]
/-- room for a line's word: at the word, many of most -/
theorem s29 {d : Nat} {w : Nat × Nat × Nat × Nat} {I L : Nat → Int → Int} {s u pl : Nat → Int} {K k : Nat} {a b : Int} (hT : cT s u pl K I) (h3 : I 44 3 = k) (hk : k ≤ K) (hK : K ≤ 700) {Q : Option am_V → am_H → Prop} (q1 : a < b → Q (some (vI 1)) (mkH w (am_up I 44 3 ((k : Int) + 1)) L)) (q2 : ¬ a < b → Q (some (vI 0)) (mkH w (am_up (am_up I 44 0 2) 44 1 (pl k)) L)) : am_Sp (d + 1) 29 [vR (some 44), vI a, vI b] (mkH w I L) Q := by
  rw [S29]
  by_cases c : a < b
  · have z := q1 c
    clear q1 q2
    first | (simp (disch := omega) only [KP, c, h3, B29_25, GA, GR, GRc, GO, GI, GL, GV, am_w_i, am_ga, am_it, am_if, true_and, and_true, or_true, true_or, ne_eq, not_false_eq_true, not_true_eq_false, false_imp_iff, true_imp_iff, Int.reduceEq, Int.reduceLT, Int.reduceLE, Int.reduceAdd, Int.reduceSub, Int.reduceMul, Int.reduceNeg]; exact z) | simp (disch := omega) only [KP, c, h3, B29_25, z, GA, GR, GRc, GO, GI, GL, GV, am_w_i, am_ga, am_it, am_if, true_and, and_true, or_true, true_or, ne_eq, not_false_eq_true, not_true_eq_false, false_imp_iff, true_imp_iff, Int.reduceEq, Int.reduceLT, Int.reduceLE, Int.reduceAdd, Int.reduceSub, Int.reduceMul, Int.reduceNeg]
  · have z := q2 c
    clear q1 q2
    first | (simp (disch := omega) only [KP, c, h3, s27 hT hk hK, GA, GR, GRc, GO, GI, GL, GV, am_w_i, am_ga, am_it, am_if, true_and, and_true, or_true, true_or, ne_eq, not_false_eq_true, not_true_eq_false, false_imp_iff, true_imp_iff, Int.reduceEq, Int.reduceLT, Int.reduceLE, Int.reduceAdd, Int.reduceSub, Int.reduceMul, Int.reduceNeg]; exact z) | simp (disch := omega) only [KP, c, h3, s27 hT hk hK, z, GA, GR, GRc, GO, GI, GL, GV, am_w_i, am_ga, am_it, am_if, true_and, and_true, or_true, true_or, ne_eq, not_false_eq_true, not_true_eq_false, false_imp_iff, true_imp_iff, Int.reduceEq, Int.reduceLT, Int.reduceLE, Int.reduceAdd, Int.reduceSub, Int.reduceMul, Int.reduceNeg]
theorem s30 {d : Nat} {w : Nat × Nat × Nat × Nat} {I L : Nat → Int → Int} {s u pl : Nat → Int} {K k : Nat} (hT : cT s u pl K I) (h3 : I 44 3 = k) (hk : k ≤ K) (hK : K ≤ 700) {Q : Option am_V → am_H → Prop} (q1 : s k = 59 → Q (some (vI 1)) (mkH w (am_up I 44 3 ((k : Int) + 1)) L)) (q2 : ¬ s k = 59 → Q (some (vI 0)) (mkH w (am_up (am_up I 44 0 1) 44 1 (pl k)) L)) : am_Sp (d + 1) 30 [vR (some 44)] (mkH w I L) Q := by
  obtain ⟨t1, t2, t3⟩ := hT k hk
  rw [S30]
  by_cases c : s k = 59
  · have z := q1 c
    clear q1 q2
    first | (simp (disch := omega) only [KP, h3, t1, c, B30_37, GA, GR, GRc, GO, GI, GL, GV, am_w_i, am_ga, am_it, am_if, true_and, and_true, or_true, true_or, ne_eq, not_false_eq_true, not_true_eq_false, false_imp_iff, true_imp_iff, Int.reduceEq, Int.reduceLT, Int.reduceLE, Int.reduceAdd, Int.reduceSub, Int.reduceMul, Int.reduceNeg]; exact z) | simp (disch := omega) only [KP, h3, t1, c, B30_37, z, GA, GR, GRc, GO, GI, GL, GV, am_w_i, am_ga, am_it, am_if, true_and, and_true, or_true, true_or, ne_eq, not_false_eq_true, not_true_eq_false, false_imp_iff, true_imp_iff, Int.reduceEq, Int.reduceLT, Int.reduceLE, Int.reduceAdd, Int.reduceSub, Int.reduceMul, Int.reduceNeg]
  · have z := q2 c
    clear q1 q2
    first | (simp (disch := omega) only [KP, h3, t1, c, s27 hT hk hK, GA, GR, GRc, GO, GI, GL, GV, am_w_i, am_ga, am_it, am_if, true_and, and_true, or_true, true_or, ne_eq, not_false_eq_true, not_true_eq_false, false_imp_iff, true_imp_iff, Int.reduceEq, Int.reduceLT, Int.reduceLE, Int.reduceAdd, Int.reduceSub, Int.reduceMul, Int.reduceNeg]; exact z) | simp (disch := omega) only [KP, h3, t1, c, s27 hT hk hK, z, GA, GR, GRc, GO, GI, GL, GV, am_w_i, am_ga, am_it, am_if, true_and, and_true, or_true, true_or, ne_eq, not_false_eq_true, not_true_eq_false, false_imp_iff, true_imp_iff, Int.reduceEq, Int.reduceLT, Int.reduceLE, Int.reduceAdd, Int.reduceSub, Int.reduceMul, Int.reduceNeg]
/-! the reference -/
def RFo (I : (Nat → Int → Int)) (s u pl P : Nat → Int) (T : Int → Int) (n : Int) (w : (Nat × Nat × Nat × Nat)) (L : (Nat → Int → Int)) (r : Int × Nat × Int) (Q : Option am_V → am_H → Prop) : Prop := (∀ I', RG I I' → r.1 = 0 → mT s u pl P T n r.2.1 I' → I' 99 11 = r.2.2 → Q (some (vI 1)) (mkH w I' L)) ∧ (∀ I', RF I I' → r.1 ≠ 0 → I' 99 4 = r.1 → I' 99 5 = pl r.2.1 → Q (some (vI 0)) (mkH w I' L))
theorem s154 {d : Nat} {w : Nat × Nat × Nat × Nat} {I L : Nat → Int → Int} {f p : Int} (h : I 99 10 = p) (Q : Option am_V → am_H → Prop) : am_Sp d 154 [vR (some 99), vI f] (mkH w I L) Q ↔ Q (some (vI 0)) (mkH w (am_up (am_up I 99 4 f) 99 5 p) L) := by
  rw [S154]
  simp (disch := omega) only [Kk, B154_5, am_up_n, h, B154_13, GA, GR, GRc, GO, GI, GL, GV, am_w_i, am_ga, am_it, am_if, true_and, and_true, or_true, true_or, ne_eq, not_false_eq_true, not_true_eq_false, false_imp_iff, true_imp_iff, Int.reduceEq, Int.reduceLT, Int.reduceLE, Int.reduceAdd, Int.reduceSub, Int.reduceMul, Int.reduceNeg]
theorem s162 {d : Nat} {w : Nat × Nat × Nat × Nat} {I L : Nat → Int → Int} {c : Int} (Q : Option am_V → am_H → Prop) : am_Sp d 162 [vR (some 99), vI c] (mkH w I L) Q ↔ Q (some (vI (if I 99 8 = 4 ∧ I 99 9 = c then 1 else 0))) (mkH w I L) := by
  rw [S162]
  by_cases c1 : I 99 8 = 4
  · by_cases c2 : I 99 9 = c
    · simp (disch := omega) only [Kk, c1, c2, B162_20, B162_21, if_true, GA, GR, GRc, GO, GI, GL, GV, am_w_i, am_ga, am_it, am_if, true_and, and_true, or_true, true_or, ne_eq, not_false_eq_true, not_true_eq_false, false_imp_iff, true_imp_iff, Int.reduceEq, Int.reduceLT, Int.reduceLE, Int.reduceAdd, Int.reduceSub, Int.reduceMul, Int.reduceNeg]
    · simp (disch := omega) only [Kk, c1, c2, B162_20, B162_21, if_false, GA, GR, GRc, GO, GI, GL, GV, am_w_i, am_ga, am_it, am_if, true_and, and_true, or_true, true_or, ne_eq, not_false_eq_true, not_true_eq_false, false_imp_iff, true_imp_iff, Int.reduceEq, Int.reduceLT, Int.reduceLE, Int.reduceAdd, Int.reduceSub, Int.reduceMul, Int.reduceNeg]
  · simp (disch := omega) only [Kk, c1, B162_20, B162_21, false_and, if_false, GA, GR, GRc, GO, GI, GL, GV, am_w_i, am_ga, am_it, am_if, true_and, and_true, or_true, true_or, ne_eq, not_false_eq_true, not_true_eq_false, false_imp_iff, true_imp_iff, Int.reduceEq, Int.reduceLT, Int.reduceLE, Int.reduceAdd, Int.reduceSub, Int.reduceMul, Int.reduceNeg]
theorem s163 {d : Nat} {w : Nat × Nat × Nat × Nat} {I L : Nat → Int → Int} {s u pl P : Nat → Int} {K k : Nat} {T : Int → Int} {n most : Int} (hC : TC s u pl P K T n) (hm : mT s u pl P T n k I) (hk : k ≤ K) (h9 : 0 ≤ most ∧ most ≤ 99999) {Q : Option am_V → am_H → Prop} (q : RFo I s u pl P T n w L (nmF s u k most) Q) : am_Sp (d + 3) 163 [vR (some 99), vI 0, vI most] (mkH w I L) Q := by
  have m0 := hm
  obtain ⟨q1, q2⟩ := q
  obtain ⟨a, b, c, e, f, g⟩ := hm
  have hK0 := hC.2.1
  have tr3 : I 99 8 = 3 ↔ s k = 3 := by unfold TR at g; constructor <;> intro y <;> omega
  have trn : s k = 3 → NR (u k) (I 99 9) := by
    intro y
    rcases g with h | h | h | h | h | h | h
    · omega
    · omega
    · omega
    · exact h.2.2
    · omega
    · omega
    · omega
  clear g
  rw [S163]
  by_cases c1 : s k = 3
  · have c1' := tr3.2 c1
    have nr := trn c1
    unfold NR at nr
    by_cases c2 : u k ≤ most
    · have e2 : nmF s u k most = (0, k + 1, u k) := by unfold nmF; rw [if_pos c1, if_pos c2]
      rw [e2] at q1
      have hw : I 99 9 = u k := by omega
      have c3 : 0 ≤ I 99 9 ∧ I 99 9 ≤ most := by omega
      have kK : k < K := by
        rcases Nat.lt_or_ge k K with h | h
        · exact h
        · obtain rfl : k = K := by omega
          omega
      clear nr trn tr3 q2
      simp (disch := omega) only [Kk, c1', s153, c3, if_true, GA, GR, GRc, GO, GI, GL, GV, am_w_i, am_ga, am_it, am_if, true_and, and_true, or_true, true_or, ne_eq, not_false_eq_true, not_true_eq_false, false_imp_iff, true_imp_iff, Int.reduceEq, Int.reduceLT, Int.reduceLE, Int.reduceAdd, Int.reduceSub, Int.reduceMul, Int.reduceNeg]
      rw [B163_40]
      simp (disch := omega) only [Kk, GA, GR, GRc, GO, GI, GL, GV, am_w_i, am_ga, am_it, am_if, true_and, and_true, or_true, true_or, ne_eq, not_false_eq_true, not_true_eq_false, false_imp_iff, true_imp_iff, Int.reduceEq, Int.reduceLT, Int.reduceLE, Int.reduceAdd, Int.reduceSub, Int.reduceMul, Int.reduceNeg]
      refine t158 hC (m0.up (i := 11) (by decide)) kK (fun I' t m' => ?_)
      have z := q1 I' ((RG.rf.up (by decide)).tr (RG.tf t)) rfl m' (by rw [t.2 11 (by decide) (by decide) (by decide) (by decide), am_up_s]; exact hw)
      clear q1
      first | (simp (disch := omega) only [GA, GR, GRc, GO, GI, GL, GV, am_w_i, am_ga, am_it, am_if, true_and, and_true, or_true, true_or, ne_eq, not_false_eq_true, not_true_eq_false, false_imp_iff, true_imp_iff, Int.reduceEq, Int.reduceLT, Int.reduceLE, Int.reduceAdd, Int.reduceSub, Int.reduceMul, Int.reduceNeg]; exact z) | simp (disch := omega) only [z, GA, GR, GRc, GO, GI, GL, GV, am_w_i, am_ga, am_it, am_if, true_and, and_true, or_true, true_or, ne_eq, not_false_eq_true, not_true_eq_false, false_imp_iff, true_imp_iff, Int.reduceEq, Int.reduceLT, Int.reduceLE, Int.reduceAdd, Int.reduceSub, Int.reduceMul, Int.reduceNeg]
    · have e2 : nmF s u k most = (2, k, 0) := by unfold nmF; rw [if_pos c1, if_neg c2]
      rw [e2] at q2
      dsimp only at q2
      have c3 : ¬ (0 ≤ I 99 9 ∧ I 99 9 ≤ most) := by omega
      have z := q2 (am_up (am_up I 99 4 2) 99 5 (pl k)) ((RF.rf.up (by decide)).up (by decide)) (by decide) (by rw [am_up_n _ _ _ _ (by decide), am_up_s]) (am_up_s _ _ _ _)
      clear nr trn tr3 q1 q2
      first | (simp (disch := omega) only [Kk, c1', s153, c3, if_false, s154 f, GA, GR, GRc, GO, GI, GL, GV, am_w_i, am_ga, am_it, am_if, true_and, and_true, or_true, true_or, ne_eq, not_false_eq_true, not_true_eq_false, false_imp_iff, true_imp_iff, Int.reduceEq, Int.reduceLT, Int.reduceLE, Int.reduceAdd, Int.reduceSub, Int.reduceMul, Int.reduceNeg]; exact z) | simp (disch := omega) only [Kk, c1', s153, c3, if_false, s154 f, z, GA, GR, GRc, GO, GI, GL, GV, am_w_i, am_ga, am_it, am_if, true_and, and_true, or_true, true_or, ne_eq, not_false_eq_true, not_true_eq_false, false_imp_iff, true_imp_iff, Int.reduceEq, Int.reduceLT, Int.reduceLE, Int.reduceAdd, Int.reduceSub, Int.reduceMul, Int.reduceNeg]
  · have e2 : nmF s u k most = (1, k, 0) := by unfold nmF; rw [if_neg c1]
    rw [e2] at q2
    dsimp only at q2
    have c1' : ¬ I 99 8 = 3 := fun y => c1 (tr3.1 y)
    have z := q2 (am_up (am_up I 99 4 1) 99 5 (pl k)) ((RF.rf.up (by decide)).up (by decide)) (by decide) (by rw [am_up_n _ _ _ _ (by decide), am_up_s]) (am_up_s _ _ _ _)
    clear trn tr3 q1 q2
    first | (simp (disch := omega) only [Kk, c1', s154 f, GA, GR, GRc, GO, GI, GL, GV, am_w_i, am_ga, am_it, am_if, true_and, and_true, or_true, true_or, ne_eq, not_false_eq_true, not_true_eq_false, false_imp_iff, true_imp_iff, Int.reduceEq, Int.reduceLT, Int.reduceLE, Int.reduceAdd, Int.reduceSub, Int.reduceMul, Int.reduceNeg]; exact z) | simp (disch := omega) only [Kk, c1', s154 f, z, GA, GR, GRc, GO, GI, GL, GV, am_w_i, am_ga, am_it, am_if, true_and, and_true, or_true, true_or, ne_eq, not_false_eq_true, not_true_eq_false, false_imp_iff, true_imp_iff, Int.reduceEq, Int.reduceLT, Int.reduceLE, Int.reduceAdd, Int.reduceSub, Int.reduceMul, Int.reduceNeg]
theorem TR.f {s v kd wh : Int} (g : TR s v kd wh) : (kd = 4 ∧ wh = 45 ↔ s = 45) ∧ (kd = 4 ∧ wh = 59 ↔ s = 59) ∧ (kd = 2 ↔ s = 2) ∧ (s = 2 → wh = v) ∧ (kd = 0 ↔ s = 0) := by
  unfold TR at g
  exact ⟨by constructor <;> intro y <;> omega, by constructor <;> intro y <;> omega, by constructor <;> intro y <;> omega, by intro y; omega, by constructor <;> intro y <;> omega⟩
theorem s164 {d : Nat} {w : Nat × Nat × Nat × Nat} {I L : Nat → Int → Int} {s u pl P : Nat → Int} {K k : Nat} {T : Int → Int} {n most : Int} (hC : TC s u pl P K T n) (hm : mT s u pl P T n k I) (hk : k ≤ K) (h9 : 0 ≤ most ∧ most ≤ 99999) {Q : Option am_V → am_H → Prop} (q : RFo I s u pl P T n w L (sgF s u k most) Q) : am_Sp (d + 4) 164 [vR (some 99), vI most] (mkH w I L) Q := by
  have m0 := hm
  obtain ⟨q1, q2⟩ := q
  obtain ⟨a, b, c, e, f, g⟩ := hm
  have hK0 := hC.2.1
  have g1 := g.f.1
  clear g
  rw [S164]
  by_cases c1 : s k = 45
  · have e2 : sgF s u k most = ((nmF s u (k + 1) most).1, (nmF s u (k + 1) most).2.1, -(nmF s u (k + 1) most).2.2) := by unfold sgF; rw [if_pos c1]
    rw [e2] at q1 q2
    dsimp only at q1 q2
    have c2 := g1.2 c1
    have kK : k < K := by
      rcases Nat.lt_or_ge k K with h | h
      · exact h
      · obtain rfl : k = K := by omega
        omega
    clear g1
    simp (disch := omega) only [s162, c2, if_true, Kk, GA, GR, GRc, GO, GI, GL, GV, am_w_i, am_ga, am_it, am_if, true_and, and_true, or_true, true_or, ne_eq, not_false_eq_true, not_true_eq_false, false_imp_iff, true_imp_iff, Int.reduceEq, Int.reduceLT, Int.reduceLE, Int.reduceAdd, Int.reduceSub, Int.reduceMul, Int.reduceNeg]
    refine t158 hC m0 kK (fun I1 t m1 => ?_)
    simp (disch := omega) only [GA, GR, GRc, GO, GI, GL, GV, am_w_i, am_ga, am_it, am_if, true_and, and_true, or_true, true_or, ne_eq, not_false_eq_true, not_true_eq_false, false_imp_iff, true_imp_iff, Int.reduceEq, Int.reduceLT, Int.reduceLE, Int.reduceAdd, Int.reduceSub, Int.reduceMul, Int.reduceNeg]
    rw [B164_15]
    simp (disch := omega) only [Kk, GA, GR, GRc, GO, GI, GL, GV, am_w_i, am_ga, am_it, am_if, true_and, and_true, or_true, true_or, ne_eq, not_false_eq_true, not_true_eq_false, false_imp_iff, true_imp_iff, Int.reduceEq, Int.reduceLT, Int.reduceLE, Int.reduceAdd, Int.reduceSub, Int.reduceMul, Int.reduceNeg]
    refine s163 hC m1 kK h9 ⟨fun I' r x1 x2 x3 => ?_, fun I' r x1 x2 x3 => ?_⟩
    · obtain ⟨b1, b2, b3, b4⟩ := nmF_b x1
      have nb : 0 ≤ u (k + 1) := by
        obtain ⟨-, -, -, -, c5⟩ := hC
        obtain ⟨-, kd, wh, tk⟩ := c5 (k + 1) kK
        have tr := tk.tr
        rw [b1] at tr
        rcases tr with h | h | h | h | h | h | h
        · omega
        · omega
        · omega
        · have := h.2.2; unfold NR at this; omega
        · omega
        · omega
        · omega
      have z := q1 (am_up I' 99 11 (-(nmF s u (k + 1) most).2.2)) (((RG.tf t).tr r).up (by decide)) x1 (x2.up (by decide)) (am_up_s _ _ _ _)
      rw [b3] at z x3
      clear q1 q2
      first | (simp (disch := omega) only [Kk, x3, B164_43, B164_46, GA, GR, GRc, GO, GI, GL, GV, am_w_i, am_ga, am_it, am_if, true_and, and_true, or_true, true_or, ne_eq, not_false_eq_true, not_true_eq_false, false_imp_iff, true_imp_iff, Int.reduceEq, Int.reduceLT, Int.reduceLE, Int.reduceAdd, Int.reduceSub, Int.reduceMul, Int.reduceNeg]; exact z) | simp (disch := omega) only [Kk, x3, B164_43, B164_46, z, GA, GR, GRc, GO, GI, GL, GV, am_w_i, am_ga, am_it, am_if, true_and, and_true, or_true, true_or, ne_eq, not_false_eq_true, not_true_eq_false, false_imp_iff, true_imp_iff, Int.reduceEq, Int.reduceLT, Int.reduceLE, Int.reduceAdd, Int.reduceSub, Int.reduceMul, Int.reduceNeg]
    · have z := q2 I' ((RF.tf t).tr r) x1 x2 x3
      clear q1 q2
      first | (simp (disch := omega) only [GA, GR, GRc, GO, GI, GL, GV, am_w_i, am_ga, am_it, am_if, true_and, and_true, or_true, true_or, ne_eq, not_false_eq_true, not_true_eq_false, false_imp_iff, true_imp_iff, Int.reduceEq, Int.reduceLT, Int.reduceLE, Int.reduceAdd, Int.reduceSub, Int.reduceMul, Int.reduceNeg]; exact z) | simp (disch := omega) only [z, GA, GR, GRc, GO, GI, GL, GV, am_w_i, am_ga, am_it, am_if, true_and, and_true, or_true, true_or, ne_eq, not_false_eq_true, not_true_eq_false, false_imp_iff, true_imp_iff, Int.reduceEq, Int.reduceLT, Int.reduceLE, Int.reduceAdd, Int.reduceSub, Int.reduceMul, Int.reduceNeg]
  · have e2 : sgF s u k most = nmF s u k most := by unfold sgF; rw [if_neg c1]
    rw [e2] at q1 q2
    have c2 : ¬ (I 99 8 = 4 ∧ I 99 9 = 45) := fun y => c1 (g1.1 y)
    clear g1
    simp (disch := omega) only [Kk, s162, c2, if_false, GA, GR, GRc, GO, GI, GL, GV, am_w_i, am_ga, am_it, am_if, true_and, and_true, or_true, true_or, ne_eq, not_false_eq_true, not_true_eq_false, false_imp_iff, true_imp_iff, Int.reduceEq, Int.reduceLT, Int.reduceLE, Int.reduceAdd, Int.reduceSub, Int.reduceMul, Int.reduceNeg]
    rw [B164_15]
    simp (disch := omega) only [Kk, GA, GR, GRc, GO, GI, GL, GV, am_w_i, am_ga, am_it, am_if, true_and, and_true, or_true, true_or, ne_eq, not_false_eq_true, not_true_eq_false, false_imp_iff, true_imp_iff, Int.reduceEq, Int.reduceLT, Int.reduceLE, Int.reduceAdd, Int.reduceSub, Int.reduceMul, Int.reduceNeg]
    refine s163 hC m0 hk h9 ⟨fun I' r x1 x2 x3 => ?_, fun I' r x1 x2 x3 => ?_⟩
    · have z := q1 I' r x1 x2 x3
      clear q1 q2
      first | (simp (disch := omega) only [Kk, B164_43, B164_46, am_up_e x3, x3, GA, GR, GRc, GO, GI, GL, GV, am_w_i, am_ga, am_it, am_if, true_and, and_true, or_true, true_or, ne_eq, not_false_eq_true, not_true_eq_false, false_imp_iff, true_imp_iff, Int.reduceEq, Int.reduceLT, Int.reduceLE, Int.reduceAdd, Int.reduceSub, Int.reduceMul, Int.reduceNeg]; exact z) | simp (disch := omega) only [Kk, B164_43, B164_46, am_up_e x3, x3, z, GA, GR, GRc, GO, GI, GL, GV, am_w_i, am_ga, am_it, am_if, true_and, and_true, or_true, true_or, ne_eq, not_false_eq_true, not_true_eq_false, false_imp_iff, true_imp_iff, Int.reduceEq, Int.reduceLT, Int.reduceLE, Int.reduceAdd, Int.reduceSub, Int.reduceMul, Int.reduceNeg]
    · have z := q2 I' r x1 x2 x3
      clear q1 q2
      first | (simp (disch := omega) only [GA, GR, GRc, GO, GI, GL, GV, am_w_i, am_ga, am_it, am_if, true_and, and_true, or_true, true_or, ne_eq, not_false_eq_true, not_true_eq_false, false_imp_iff, true_imp_iff, Int.reduceEq, Int.reduceLT, Int.reduceLE, Int.reduceAdd, Int.reduceSub, Int.reduceMul, Int.reduceNeg]; exact z) | simp (disch := omega) only [z, GA, GR, GRc, GO, GI, GL, GV, am_w_i, am_ga, am_it, am_if, true_and, and_true, or_true, true_or, ne_eq, not_false_eq_true, not_true_eq_false, false_imp_iff, true_imp_iff, Int.reduceEq, Int.reduceLT, Int.reduceLE, Int.reduceAdd, Int.reduceSub, Int.reduceMul, Int.reduceNeg]
theorem s169 {d : Nat} {w : Nat × Nat × Nat × Nat} {I L : Nat → Int → Int} {s u pl P : Nat → Int} {K k a c ln : Nat} {T : Int → Int} {n b0 : Int} (hC : TC s u pl P K T n) (hm : mT s u pl P T n k I) (hk : k ≤ K) (ha : a ≠ 99 ∧ a ≠ 100 ∧ a ≠ 101 ∧ a ≠ 49) (hka : ∀ I, am_kd (mkH w I L) a = 13) (hla : ∀ I, am_ln (mkH w I L) a = ln) (hb : 0 ≤ b0) (hc : b0 + c < ln) (hl : ln ≤ 4096) {Q : Option am_V → am_H → Prop} (q1 : ∀ I', RG (am_up I a (b0 + c) (u k)) I' → (nnF s u (fun j => I a (b0 + j)) c k).1 = 0 → mT s u pl P T n (nnF s u (fun j => I a (b0 + j)) c k).2.1 I' → Q (some (vI 1)) (mkH w I' L)) (q2 : ∀ I', RF I I' → (nnF s u (fun j => I a (b0 + j)) c k).1 ≠ 0 → I' 99 4 = (nnF s u (fun j => I a (b0 + j)) c k).1 → I' 99 5 = pl (nnF s u (fun j => I a (b0 + j)) c k).2.1 → Q (some (vI 0)) (mkH w I' L)) : am_Sp (d + 3) 169 [vR (some 99), vR (some a), vI b0, vI (c : Int)] (mkH w I L) Q := by
  have m0 := hm
  obtain ⟨ha1, ha2, ha3, ha4⟩ := ha
  obtain ⟨a', b', c', e', f, g⟩ := hm
  have hK0 := hC.2.1
  obtain ⟨-, -, g3, g4, -⟩ := g.f
  clear g
  rw [S169]
  by_cases c1 : s k = 2
  · have c1' := g3.2 c1
    have w9 := g4 c1
    have kK : k < K := by
      rcases Nat.lt_or_ge k K with h | h
      · exact h
      · obtain rfl : k = K := by omega
        omega
    clear g3 g4
    by_cases c2 : px_find (fun j => I a (b0 + j)) (u k) c 0 < 0
    · have e2 : nnF s u (fun j => I a (b0 + j)) c k = (0, k + 1, u k) := by unfold nnF; rw [if_pos c1, if_pos c2]
      rw [e2] at q1
      clear q2
      simp (disch := omega) only [Kk, c1', w9, s168 (hka I) (hla I) hb (show b0 + (c : Int) ≤ ln by omega) hl, c2, hka, hla, GA, GR, GRc, GO, GI, GL, GV, am_w_i, am_ga, am_it, am_if, true_and, and_true, or_true, true_or, ne_eq, not_false_eq_true, not_true_eq_false, false_imp_iff, true_imp_iff, Int.reduceEq, Int.reduceLT, Int.reduceLE, Int.reduceAdd, Int.reduceSub, Int.reduceMul, Int.reduceNeg]
      rw [B169_42]
      simp (disch := omega) only [Kk, GA, GR, GRc, GO, GI, GL, GV, am_w_i, am_ga, am_it, am_if, true_and, and_true, or_true, true_or, ne_eq, not_false_eq_true, not_true_eq_false, false_imp_iff, true_imp_iff, Int.reduceEq, Int.reduceLT, Int.reduceLE, Int.reduceAdd, Int.reduceSub, Int.reduceMul, Int.reduceNeg]
      refine t158 hC (m0.fr (am_up_a _ _ _ _ (Ne.symm ha1)) (am_up_a _ _ _ _ (Ne.symm ha2)) (am_up_a _ _ _ _ (Ne.symm ha3)) (am_up_a _ _ _ _ (Ne.symm ha4))) kK (fun I' t m' => ?_)
      have z := q1 I' (RG.tf t) rfl m'
      clear q1
      first | (simp (disch := omega) only [GA, GR, GRc, GO, GI, GL, GV, am_w_i, am_ga, am_it, am_if, true_and, and_true, or_true, true_or, ne_eq, not_false_eq_true, not_true_eq_false, false_imp_iff, true_imp_iff, Int.reduceEq, Int.reduceLT, Int.reduceLE, Int.reduceAdd, Int.reduceSub, Int.reduceMul, Int.reduceNeg]; exact z) | simp (disch := omega) only [z, GA, GR, GRc, GO, GI, GL, GV, am_w_i, am_ga, am_it, am_if, true_and, and_true, or_true, true_or, ne_eq, not_false_eq_true, not_true_eq_false, false_imp_iff, true_imp_iff, Int.reduceEq, Int.reduceLT, Int.reduceLE, Int.reduceAdd, Int.reduceSub, Int.reduceMul, Int.reduceNeg]
    · have e2 : nnF s u (fun j => I a (b0 + j)) c k = (3, k, 0) := by unfold nnF; rw [if_pos c1, if_neg c2]
      rw [e2] at q2
      dsimp only at q2
      have z := q2 (am_up (am_up I 99 4 3) 99 5 (pl k)) ((RF.rf.up (by decide)).up (by decide)) (by decide) (by rw [am_up_n _ _ _ _ (by decide), am_up_s]) (am_up_s _ _ _ _)
      clear q1 q2
      first | (simp (disch := omega) only [Kk, c1', w9, s168 (hka I) (hla I) hb (show b0 + (c : Int) ≤ ln by omega) hl, c2, s154 f, GA, GR, GRc, GO, GI, GL, GV, am_w_i, am_ga, am_it, am_if, true_and, and_true, or_true, true_or, ne_eq, not_false_eq_true, not_true_eq_false, false_imp_iff, true_imp_iff, Int.reduceEq, Int.reduceLT, Int.reduceLE, Int.reduceAdd, Int.reduceSub, Int.reduceMul, Int.reduceNeg]; exact z) | simp (disch := omega) only [Kk, c1', w9, s168 (hka I) (hla I) hb (show b0 + (c : Int) ≤ ln by omega) hl, c2, s154 f, z, GA, GR, GRc, GO, GI, GL, GV, am_w_i, am_ga, am_it, am_if, true_and, and_true, or_true, true_or, ne_eq, not_false_eq_true, not_true_eq_false, false_imp_iff, true_imp_iff, Int.reduceEq, Int.reduceLT, Int.reduceLE, Int.reduceAdd, Int.reduceSub, Int.reduceMul, Int.reduceNeg]
  · have e2 : nnF s u (fun j => I a (b0 + j)) c k = (1, k, 0) := by unfold nnF; rw [if_neg c1]
    rw [e2] at q2
    dsimp only at q2
    have c1' : ¬ I 99 8 = 2 := fun y => c1 (g3.1 y)
    have z := q2 (am_up (am_up I 99 4 1) 99 5 (pl k)) ((RF.rf.up (by decide)).up (by decide)) (by decide) (by rw [am_up_n _ _ _ _ (by decide), am_up_s]) (am_up_s _ _ _ _)
    clear g3 g4 q1 q2
    first | (simp (disch := omega) only [Kk, c1', s154 f, GA, GR, GRc, GO, GI, GL, GV, am_w_i, am_ga, am_it, am_if, true_and, and_true, or_true, true_or, ne_eq, not_false_eq_true, not_true_eq_false, false_imp_iff, true_imp_iff, Int.reduceEq, Int.reduceLT, Int.reduceLE, Int.reduceAdd, Int.reduceSub, Int.reduceMul, Int.reduceNeg]; exact z) | simp (disch := omega) only [Kk, c1', s154 f, z, GA, GR, GRc, GO, GI, GL, GV, am_w_i, am_ga, am_it, am_if, true_and, and_true, or_true, true_or, ne_eq, not_false_eq_true, not_true_eq_false, false_imp_iff, true_imp_iff, Int.reduceEq, Int.reduceLT, Int.reduceLE, Int.reduceAdd, Int.reduceSub, Int.reduceMul, Int.reduceNeg]
theorem s170 {d : Nat} {w : Nat × Nat × Nat × Nat} {I L : Nat → Int → Int} {s u pl P : Nat → Int} {K k a c ln : Nat} {T : Int → Int} {n b0 : Int} (hC : TC s u pl P K T n) (hm : mT s u pl P T n k I) (hk : k ≤ K) (hka : ∀ I, am_kd (mkH w I L) a = 13) (hla : ∀ I, am_ln (mkH w I L) a = ln) (hb : 0 ≤ b0) (hc : b0 + c ≤ ln) (hl : ln ≤ 4096) {Q : Option am_V → am_H → Prop} (q : RFo I s u pl P T n w L (onF s u (fun j => I a (b0 + j)) c k) Q) : am_Sp (d + 3) 170 [vR (some 99), vR (some a), vI b0, vI (c : Int)] (mkH w I L) Q := by
  have m0 := hm
  obtain ⟨q1, q2⟩ := q
  obtain ⟨a', b', c', e', f, g⟩ := hm
  have hK0 := hC.2.1
  obtain ⟨-, -, g3, g4, -⟩ := g.f
  clear g
  rw [S170]
  by_cases c1 : s k = 2
  · have c1' := g3.2 c1
    have w9 := g4 c1
    have kK : k < K := by
      rcases Nat.lt_or_ge k K with h | h
      · exact h
      · obtain rfl : k = K := by omega
        omega
    clear g3 g4
    by_cases c2 : 0 ≤ px_find (fun j => I a (b0 + j)) (u k) c 0
    · have e2 : onF s u (fun j => I a (b0 + j)) c k = (0, k + 1, px_find (fun j => I a (b0 + j)) (u k) c 0) := by unfold onF; rw [if_pos c1, if_pos c2]
      rw [e2] at q1
      clear q2
      simp (disch := omega) only [Kk, c1', w9, s168 (hka I) (hla I) hb hc hl, c2, GA, GR, GRc, GO, GI, GL, GV, am_w_i, am_ga, am_it, am_if, true_and, and_true, or_true, true_or, ne_eq, not_false_eq_true, not_true_eq_false, false_imp_iff, true_imp_iff, Int.reduceEq, Int.reduceLT, Int.reduceLE, Int.reduceAdd, Int.reduceSub, Int.reduceMul, Int.reduceNeg]
      refine t158 hC m0 kK (fun I' t m' => ?_)
      have z := q1 (am_up I' 99 11 (px_find (fun j => I a (b0 + j)) (u k) c 0)) ((RG.tf t).up (by decide)) rfl (m'.up (by decide)) (am_up_s _ _ _ _)
      clear q1
      first | (simp (disch := omega) only [Kk, B170_47, GA, GR, GRc, GO, GI, GL, GV, am_w_i, am_ga, am_it, am_if, true_and, and_true, or_true, true_or, ne_eq, not_false_eq_true, not_true_eq_false, false_imp_iff, true_imp_iff, Int.reduceEq, Int.reduceLT, Int.reduceLE, Int.reduceAdd, Int.reduceSub, Int.reduceMul, Int.reduceNeg]; exact z) | simp (disch := omega) only [Kk, B170_47, z, GA, GR, GRc, GO, GI, GL, GV, am_w_i, am_ga, am_it, am_if, true_and, and_true, or_true, true_or, ne_eq, not_false_eq_true, not_true_eq_false, false_imp_iff, true_imp_iff, Int.reduceEq, Int.reduceLT, Int.reduceLE, Int.reduceAdd, Int.reduceSub, Int.reduceMul, Int.reduceNeg]
    · have e2 : onF s u (fun j => I a (b0 + j)) c k = (4, k, 0) := by unfold onF; rw [if_pos c1, if_neg c2]
      rw [e2] at q2
      dsimp only at q2
      have z := q2 (am_up (am_up I 99 4 4) 99 5 (pl k)) ((RF.rf.up (by decide)).up (by decide)) (by decide) (by rw [am_up_n _ _ _ _ (by decide), am_up_s]) (am_up_s _ _ _ _)
      clear q1 q2
      first | (simp (disch := omega) only [Kk, c1', w9, s168 (hka I) (hla I) hb hc hl, c2, s154 f, GA, GR, GRc, GO, GI, GL, GV, am_w_i, am_ga, am_it, am_if, true_and, and_true, or_true, true_or, ne_eq, not_false_eq_true, not_true_eq_false, false_imp_iff, true_imp_iff, Int.reduceEq, Int.reduceLT, Int.reduceLE, Int.reduceAdd, Int.reduceSub, Int.reduceMul, Int.reduceNeg]; exact z) | simp (disch := omega) only [Kk, c1', w9, s168 (hka I) (hla I) hb hc hl, c2, s154 f, z, GA, GR, GRc, GO, GI, GL, GV, am_w_i, am_ga, am_it, am_if, true_and, and_true, or_true, true_or, ne_eq, not_false_eq_true, not_true_eq_false, false_imp_iff, true_imp_iff, Int.reduceEq, Int.reduceLT, Int.reduceLE, Int.reduceAdd, Int.reduceSub, Int.reduceMul, Int.reduceNeg]
  · have e2 : onF s u (fun j => I a (b0 + j)) c k = (1, k, 0) := by unfold onF; rw [if_neg c1]
    rw [e2] at q2
    dsimp only at q2
    have c1' : ¬ I 99 8 = 2 := fun y => c1 (g3.1 y)
    have z := q2 (am_up (am_up I 99 4 1) 99 5 (pl k)) ((RF.rf.up (by decide)).up (by decide)) (by decide) (by rw [am_up_n _ _ _ _ (by decide), am_up_s]) (am_up_s _ _ _ _)
    clear g3 g4 q1 q2
    first | (simp (disch := omega) only [Kk, c1', s154 f, GA, GR, GRc, GO, GI, GL, GV, am_w_i, am_ga, am_it, am_if, true_and, and_true, or_true, true_or, ne_eq, not_false_eq_true, not_true_eq_false, false_imp_iff, true_imp_iff, Int.reduceEq, Int.reduceLT, Int.reduceLE, Int.reduceAdd, Int.reduceSub, Int.reduceMul, Int.reduceNeg]; exact z) | simp (disch := omega) only [Kk, c1', s154 f, z, GA, GR, GRc, GO, GI, GL, GV, am_w_i, am_ga, am_it, am_if, true_and, and_true, or_true, true_or, ne_eq, not_false_eq_true, not_true_eq_false, false_imp_iff, true_imp_iff, Int.reduceEq, Int.reduceLT, Int.reduceLE, Int.reduceAdd, Int.reduceSub, Int.reduceMul, Int.reduceNeg]
