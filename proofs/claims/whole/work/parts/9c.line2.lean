/-! 9c: lines, the class -/
/-- of tokens: numbers and names are not below 0 -/
def TU (s u : Nat → Int) (K : Nat) : Prop := s K = 0 ∧ K ≤ 700 ∧ (∀ k, k ≤ K → s k = 3 → 0 ≤ u k ∧ u k ≤ 1000000) ∧ ∀ k, k ≤ K → s k = 2 → 0 ≤ u k ∧ u k ≤ 1073741823
theorem nmF_v {s u : Nat → Int} {K k : Nat} {m : Int} (hu : TU s u K) (hk : k ≤ K) (h : (nmF s u k m).1 = 0) : 0 ≤ (nmF s u k m).2.2 ∧ (nmF s u k m).2.2 ≤ m ∧ (nmF s u k m).2.1 ≤ K := by
  obtain ⟨a, b, c, e⟩ := nmF_b h
  have := hu.2.2.1 k hk a
  have k1 := nmF_k hu.1 hk h
  rw [c]; exact ⟨this.1, e, k1⟩
theorem nnF_v {s u : Nat → Int} {K k c : Nat} {f : Int → Int} (hu : TU s u K) (hk : k ≤ K) (h : (nnF s u f c k).1 = 0) : 0 ≤ (nnF s u f c k).2.2 ∧ (nnF s u f c k).2.1 ≤ K := by
  obtain ⟨a, b⟩ := nnF_b h
  have := hu.2.2.2 k hk a
  rw [b]; exact ⟨this.1, rd_k hu.1 hk (by omega)⟩
theorem onF_v {s u : Nat → Int} {K k c : Nat} {f : Int → Int} (hu : TU s u K) (hk : k ≤ K) (h : (onF s u f c k).1 = 0) : (0 ≤ (onF s u f c k).2.2 ∧ (onF s u f c k).2.2 < c) ∧ (onF s u f c k).2.1 ≤ K := by
  obtain ⟨a, b, e⟩ := onF_b h
  have := px_find_b b
  rw [e]; dsimp only; exact ⟨⟨b, by omega⟩, rd_k hu.1 hk (by omega)⟩
theorem sgF_v {s u : Nat → Int} {K k : Nat} {m : Int} (hu : TU s u K) (hk : k ≤ K) (h : (sgF s u k m).1 = 0) : (-m ≤ (sgF s u k m).2.2 ∧ (sgF s u k m).2.2 ≤ m) ∧ (sgF s u k m).2.1 ≤ K := by
  have k1 := sgF_k hu.1 hk h
  refine ⟨?_, k1⟩
  unfold sgF at h ⊢
  by_cases c : s k = 45
  · rw [if_pos c] at h ⊢
    have := nmF_v hu (rd_k hu.1 hk (by omega)) h
    dsimp only; omega
  · rw [if_neg c] at h ⊢
    have := nmF_v hu hk h
    omega
theorem LCo.gi {w : (Nat × Nat × Nat × Nat)} {I : (Nat → Int → Int)} {pl : Nat → Int} {L : (Nat → Int → Int)} {r : Int × Nat × (Nat → Int → Int)} {Q : Option am_V → am_H → Prop} (h : LCo w I pl L r Q) : LCo w I pl L r (fun r1 h2 => am_gI False r1 (fun x3 => (x3 = 0 ∨ x3 = 1) ∧ Q (some (vI x3)) h2)) := ⟨fun I' a b c e => by have z := h.1 I' a b c e; first | (simp (disch := omega) only [GA, GR, GRc, GO, GI, GL, GV, am_w_i, am_ga, am_it, am_if, true_and, and_true, or_true, true_or, ne_eq, not_false_eq_true, not_true_eq_false, false_imp_iff, true_imp_iff, Int.reduceEq, Int.reduceLT, Int.reduceLE, Int.reduceAdd, Int.reduceSub, Int.reduceMul, Int.reduceNeg]; exact z) | simp (disch := omega) only [z, GA, GR, GRc, GO, GI, GL, GV, am_w_i, am_ga, am_it, am_if, true_and, and_true, or_true, true_or, ne_eq, not_false_eq_true, not_true_eq_false, false_imp_iff, true_imp_iff, Int.reduceEq, Int.reduceLT, Int.reduceLE, Int.reduceAdd, Int.reduceSub, Int.reduceMul, Int.reduceNeg], fun I' a b c e => by have z := h.2 I' a b c e; first | (simp (disch := omega) only [GA, GR, GRc, GO, GI, GL, GV, am_w_i, am_ga, am_it, am_if, true_and, and_true, or_true, true_or, ne_eq, not_false_eq_true, not_true_eq_false, false_imp_iff, true_imp_iff, Int.reduceEq, Int.reduceLT, Int.reduceLE, Int.reduceAdd, Int.reduceSub, Int.reduceMul, Int.reduceNeg]; exact z) | simp (disch := omega) only [z, GA, GR, GRc, GO, GI, GL, GV, am_w_i, am_ga, am_it, am_if, true_and, and_true, or_true, true_or, ne_eq, not_false_eq_true, not_true_eq_false, false_imp_iff, true_imp_iff, Int.reduceEq, Int.reduceLT, Int.reduceLE, Int.reduceAdd, Int.reduceSub, Int.reduceMul, Int.reduceNeg]⟩
set_option maxHeartbeats 1000000 in
theorem s35 {d : Nat} {w : Nat × Nat × Nat × Nat} {I L : Nat → Int → Int} {s u pl : Nat → Int} {K k : Nat} {X : (Nat → Int → Int)} (hT : cT s u pl K I) (hu : TU s u K) (hW : isW w.2.2.1) (hX : PX w I X) (hb : 0 ≤ X 0 0 ∧ X 0 0 ≤ 6) (h3 : I 44 3 = k) (hk : k < K) {Q : Option am_V → am_H → Prop} (q : LCo w I pl L (kdF s u X k) Q) : am_Sp (d + 3) 35 [vR (some 44)] (mkH w I L) Q := by
  have hl := isW_le hW
  have hK := hu.2.1
  obtain ⟨c, hc⟩ : ∃ c : Nat, X 0 0 = c := ⟨(X 0 0).toNat, by omega⟩
  have ec : (X 0 0).toNat = c := by omega
  have e0 : I w.2.2.1 0 = (c : Int) := hX.1.1.trans hc
  unfold kdF at q
  rw [ec, hc] at q
  rw [S35]
  simp (disch := omega) only [KP, HW hW, e0, GA, GR, GRc, GO, GI, GL, GV, am_w_i, am_ga, am_it, am_if, true_and, and_true, or_true, true_or, ne_eq, not_false_eq_true, not_true_eq_false, false_imp_iff, true_imp_iff, Int.reduceEq, Int.reduceLT, Int.reduceLE, Int.reduceAdd, Int.reduceSub, Int.reduceMul, Int.reduceNeg]
  refine s29 hT h3 (by omega) hK (fun y => ?_) (fun y => ?_)
  · rw [if_pos y] at q
    have f1 : CS I (am_up I 44 3 ((k : Int) + 1)) := CS.rf.up (by decide)
    generalize hI1 : am_up I 44 3 ((k : Int) + 1) = I1 at f1 ⊢
    have X1 := hX.cf hW f1
    have e1 : I1 (w.2.2.1 + 1) = X 1 := X1.2.2.1 1 (by omega) (by omega)
    simp (disch := omega) only [KP, HW hW, GA, GR, GRc, GO, GI, GL, GV, am_w_i, am_ga, am_it, am_if, true_and, and_true, or_true, true_or, ne_eq, not_false_eq_true, not_true_eq_false, false_imp_iff, true_imp_iff, Int.reduceEq, Int.reduceLT, Int.reduceLE, Int.reduceAdd, Int.reduceSub, Int.reduceMul, Int.reduceNeg]
    refine s33 (a := w.2.2.1 + 1) (c := c) (k := k + 1) (ln := 6) (hT.cf f1) (by rw [← hI1, am_up_s]; omega) hk hK (by omega) (fun J => by simp (disch := omega) only [HW hW, GA, GR, GRc, GO, GI, GL, GV, am_w_i, am_ga, am_it, am_if, true_and, and_true, or_true, true_or, ne_eq, not_false_eq_true, not_true_eq_false, false_imp_iff, true_imp_iff, Int.reduceEq, Int.reduceLT, Int.reduceLE, Int.reduceAdd, Int.reduceSub, Int.reduceMul, Int.reduceNeg]) (fun J => by simp (disch := omega) only [HW hW, GA, GR, GRc, GO, GI, GL, GV, am_w_i, am_ga, am_it, am_if, true_and, and_true, or_true, true_or, ne_eq, not_false_eq_true, not_true_eq_false, false_imp_iff, true_imp_iff, Int.reduceEq, Int.reduceLT, Int.reduceLE, Int.reduceAdd, Int.reduceSub, Int.reduceMul, Int.reduceNeg]; rfl) (by omega) (by omega) ⟨fun I2 f2 x1 x2 => ?_, fun I2 f2 x1 x2 x3 => ?_⟩
    · rw [e1] at x1 x2 ⊢
      have v := nnF_v hu hk x1
      have q := q.ok x1
      generalize nnF s u (X 1) c (k + 1) = r1 at x1 x2 v q ⊢
      have F2 := f1.tr f2
      simp (disch := omega) only [KP, v.1, GA, GR, GRc, GO, GI, GL, GV, am_w_i, am_ga, am_it, am_if, true_and, and_true, or_true, true_or, ne_eq, not_false_eq_true, not_true_eq_false, false_imp_iff, true_imp_iff, Int.reduceEq, Int.reduceLT, Int.reduceLE, Int.reduceAdd, Int.reduceSub, Int.reduceMul, Int.reduceNeg]
      refine s31 (k := r1.2.1) (hT.cf F2) x2 v.2 hK (fun I3 f3 y1 y2 => ?_) (fun I3 f3 y1 y2 y3 => ?_)
      · have v3 := nmF_v hu v.2 y1
        have q := q.ok y1
        generalize nmF s u r1.2.1 9 = r2 at y1 y2 v3 q ⊢
        have F3 := F2.tr f3
        simp (disch := omega) only [GA, GR, GRc, GO, GI, GL, GV, am_w_i, am_ga, am_it, am_if, true_and, and_true, or_true, true_or, ne_eq, not_false_eq_true, not_true_eq_false, false_imp_iff, true_imp_iff, Int.reduceEq, Int.reduceLT, Int.reduceLE, Int.reduceAdd, Int.reduceSub, Int.reduceMul, Int.reduceNeg]
        rw [B35_47]
        simp (disch := omega) only [KP, v3.1, GA, GR, GRc, GO, GI, GL, GV, am_w_i, am_ga, am_it, am_if, true_and, and_true, or_true, true_or, ne_eq, not_false_eq_true, not_true_eq_false, false_imp_iff, true_imp_iff, Int.reduceEq, Int.reduceLT, Int.reduceLE, Int.reduceAdd, Int.reduceSub, Int.reduceMul, Int.reduceNeg]
        refine s31 (k := r2.2.1) (hT.cf F3) y2 v3.2.2 hK (fun I4 f4 z1 z2 => ?_) (fun I4 f4 z1 z2 z3 => ?_)
        · have v4 := nmF_v hu v3.2.2 z1
          have q := q.ok z1
          generalize nmF s u r2.2.1 9 = r3 at z1 z2 v4 q ⊢
          have F4 := F3.tr f4
          have X4 := hX.cf hW F4
          have c0 : I4 w.2.2.1 0 = (c : Int) := X4.1.1.trans hc
          have X5 := (((X4.u (a := 1) (j := c) (v := r1.2.2) hW (by omega) (by omega)).u (a := 2) (j := c) (v := r2.2.2) hW (by omega) (by omega)).u (a := 3) (j := c) (v := r3.2.2) hW (by omega) (by omega)).c (i := 0) (j := 0) (v := (c : Int) + 1) hW (Or.inl ⟨rfl, rfl⟩)
          have W5 : CW w I (am_up (am_up (am_up (am_up I4 (w.2.2.1 + 1) c r1.2.2) (w.2.2.1 + 2) c r2.2.2) (w.2.2.1 + 3) c r3.2.2) w.2.2.1 0 ((c : Int) + 1)) := ((((CW.cs F4).up (by omega)).up (by omega)).up (by omega)).up (by omega)
          have at5 : am_up (am_up (am_up (am_up I4 (w.2.2.1 + 1) c r1.2.2) (w.2.2.1 + 2) c r2.2.2) (w.2.2.1 + 3) c r3.2.2) w.2.2.1 0 ((c : Int) + 1) 44 3 = (r3.2.1 : Int) := by
            rw [am_up_a _ _ _ _ (by omega), am_up_a _ _ _ _ (by omega), am_up_a _ _ _ _ (by omega), am_up_a _ _ _ _ (by omega)]; exact z2
          have q := (q.tr W5).gi
          simp (disch := omega) only [GA, GR, GRc, GO, GI, GL, GV, am_w_i, am_ga, am_it, am_if, true_and, and_true, or_true, true_or, ne_eq, not_false_eq_true, not_true_eq_false, false_imp_iff, true_imp_iff, Int.reduceEq, Int.reduceLT, Int.reduceLE, Int.reduceAdd, Int.reduceSub, Int.reduceMul, Int.reduceNeg]
          rw [B35_62]
          simp (disch := omega) only [KP, HW hW, v4.1, B35_81, B35_91, B35_102, am_up_a, c0, GA, GR, GRc, GO, GI, GL, GV, am_w_i, am_ga, am_it, am_if, true_and, and_true, or_true, true_or, ne_eq, not_false_eq_true, not_true_eq_false, false_imp_iff, true_imp_iff, Int.reduceEq, Int.reduceLT, Int.reduceLE, Int.reduceAdd, Int.reduceSub, Int.reduceMul, Int.reduceNeg]
          rw [B35_115]
          simp (disch := omega) only [KP, GA, GR, GRc, GO, GI, GL, GV, am_w_i, am_ga, am_it, am_if, true_and, and_true, or_true, true_or, ne_eq, not_false_eq_true, not_true_eq_false, false_imp_iff, true_imp_iff, Int.reduceEq, Int.reduceLT, Int.reduceLE, Int.reduceAdd, Int.reduceSub, Int.reduceMul, Int.reduceNeg]
          exact c_end (hT.cw hW W5) hW X5 at5 v4.2.2 hK q
        · have z := q.bad z1 (CW.cf (F3.w.tr f4)) z2 z3
          clear q
          first | (simp (disch := omega) only [B35_62, GA, GR, GRc, GO, GI, GL, GV, am_w_i, am_ga, am_it, am_if, true_and, and_true, or_true, true_or, ne_eq, not_false_eq_true, not_true_eq_false, false_imp_iff, true_imp_iff, Int.reduceEq, Int.reduceLT, Int.reduceLE, Int.reduceAdd, Int.reduceSub, Int.reduceMul, Int.reduceNeg]; exact z) | simp (disch := omega) only [B35_62, z, GA, GR, GRc, GO, GI, GL, GV, am_w_i, am_ga, am_it, am_if, true_and, and_true, or_true, true_or, ne_eq, not_false_eq_true, not_true_eq_false, false_imp_iff, true_imp_iff, Int.reduceEq, Int.reduceLT, Int.reduceLE, Int.reduceAdd, Int.reduceSub, Int.reduceMul, Int.reduceNeg]
      · have z := q.bad y1 (CW.cf (F2.w.tr f3)) y2 y3
        clear q
        first | (simp (disch := omega) only [B35_47, B35_62, GA, GR, GRc, GO, GI, GL, GV, am_w_i, am_ga, am_it, am_if, true_and, and_true, or_true, true_or, ne_eq, not_false_eq_true, not_true_eq_false, false_imp_iff, true_imp_iff, Int.reduceEq, Int.reduceLT, Int.reduceLE, Int.reduceAdd, Int.reduceSub, Int.reduceMul, Int.reduceNeg]; exact z) | simp (disch := omega) only [B35_47, B35_62, z, GA, GR, GRc, GO, GI, GL, GV, am_w_i, am_ga, am_it, am_if, true_and, and_true, or_true, true_or, ne_eq, not_false_eq_true, not_true_eq_false, false_imp_iff, true_imp_iff, Int.reduceEq, Int.reduceLT, Int.reduceLE, Int.reduceAdd, Int.reduceSub, Int.reduceMul, Int.reduceNeg]
    · rw [e1] at x1 x2 x3
      have z := q.bad x1 (CW.cf (f1.w.tr f2)) x2 x3
      clear q
      first | (simp (disch := omega) only [B35_47, B35_62, GA, GR, GRc, GO, GI, GL, GV, am_w_i, am_ga, am_it, am_if, true_and, and_true, or_true, true_or, ne_eq, not_false_eq_true, not_true_eq_false, false_imp_iff, true_imp_iff, Int.reduceEq, Int.reduceLT, Int.reduceLE, Int.reduceAdd, Int.reduceSub, Int.reduceMul, Int.reduceNeg]; exact z) | simp (disch := omega) only [B35_47, B35_62, z, GA, GR, GRc, GO, GI, GL, GV, am_w_i, am_ga, am_it, am_if, true_and, and_true, or_true, true_or, ne_eq, not_false_eq_true, not_true_eq_false, false_imp_iff, true_imp_iff, Int.reduceEq, Int.reduceLT, Int.reduceLE, Int.reduceAdd, Int.reduceSub, Int.reduceMul, Int.reduceNeg]
  · rw [if_neg y] at q
    have z := q.2 _ ((CW.rf.up (Or.inl rfl)).up (Or.inl rfl)) (by simp) (by rw [am_up_n _ _ _ _ (by decide), am_up_s]) (am_up_s _ _ _ _)
    clear q
    first | (simp (disch := omega) only [GA, GR, GRc, GO, GI, GL, GV, am_w_i, am_ga, am_it, am_if, true_and, and_true, or_true, true_or, ne_eq, not_false_eq_true, not_true_eq_false, false_imp_iff, true_imp_iff, Int.reduceEq, Int.reduceLT, Int.reduceLE, Int.reduceAdd, Int.reduceSub, Int.reduceMul, Int.reduceNeg]; exact z) | simp (disch := omega) only [z, GA, GR, GRc, GO, GI, GL, GV, am_w_i, am_ga, am_it, am_if, true_and, and_true, or_true, true_or, ne_eq, not_false_eq_true, not_true_eq_false, false_imp_iff, true_imp_iff, Int.reduceEq, Int.reduceLT, Int.reduceLE, Int.reduceAdd, Int.reduceSub, Int.reduceMul, Int.reduceNeg]
