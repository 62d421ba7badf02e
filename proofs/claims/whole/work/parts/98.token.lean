/-! 98: the reference's tokens -/
theorem am_up2 {f : (Nat → Int → Int)} {a : Nat} {i v v' : Int} : am_up (am_up f a i v) a i v' = am_up f a i v' := by
  funext b j; unfold am_up; split <;> simp_all
def TF (I I' : (Nat → Int → Int)) : Prop := (∀ a, a ≠ 99 → I' a = I a) ∧ ∀ x, x ≠ 7 → x ≠ 8 → x ≠ 9 → x ≠ 10 → I' 99 x = I 99 x
theorem TF.rf {I : (Nat → Int → Int)} : TF I I := ⟨fun _ _ => rfl, fun _ _ _ _ _ => rfl⟩
theorem TF.tr {I I' I'' : (Nat → Int → Int)} (h : TF I I') (h' : TF I' I'') : TF I I'' := ⟨fun a x => (h'.1 a x).trans (h.1 a x), fun x a b c e => (h'.2 x a b c e).trans (h.2 x a b c e)⟩
theorem TF.up {I I' : (Nat → Int → Int)} {i v : Int} (h : TF I I') (hi : i = 7 ∨ i = 8 ∨ i = 9 ∨ i = 10) : TF I (am_up I' 99 i v) := ⟨fun a x => by rw [am_up_a _ _ _ _ x]; exact h.1 a x, fun x a b c e => by rw [am_up_n _ _ _ _ (by omega)]; exact h.2 x a b c e⟩
set_option maxHeartbeats 2000000 in
theorem s159 {d : Nat} {w : Nat × Nat × Nat × Nat} {I L : Nat → Int → Int} {n p j s kd wh : Int} (h6 : I 99 6 = n) (h7 : I 99 7 = p) (hn : n ≤ 700) (hp : 0 ≤ p ∧ p < n) (hs : Sg (I 100) n p j s kd wh) {Q : Option am_V → am_H → Prop} (q : ∀ I', TF I I' → I' 99 7 = j → I' 99 8 = kd → I' 99 9 = wh → I' 99 10 = I 99 10 → Q none (mkH w I' L)) : am_Sp d 159 [vR (some 99)] (mkH w I L) Q := by
  have t9 : TF I (am_up (am_up I 99 9 (I 100 p)) 99 7 (p + 1)) := (TF.rf.up (by decide)).up (by decide)
  rw [S159]
  simp (disch := omega) only [Kk, Kt, h7, GA, GR, GRc, GO, GI, GL, GV, am_w_i, am_ga, am_it, am_if, true_and, and_true, or_true, true_or, ne_eq, not_false_eq_true, not_true_eq_false, false_imp_iff, true_imp_iff, Int.reduceEq, Int.reduceLT, Int.reduceLE, Int.reduceAdd, Int.reduceSub, Int.reduceMul, Int.reduceNeg]
  rw [B159_13]
  simp (disch := omega) only [Kk, h7, am_up_n, GA, GR, GRc, GO, GI, GL, GV, am_w_i, am_ga, am_it, am_if, true_and, and_true, or_true, true_or, ne_eq, not_false_eq_true, not_true_eq_false, false_imp_iff, true_imp_iff, Int.reduceEq, Int.reduceLT, Int.reduceLE, Int.reduceAdd, Int.reduceSub, Int.reduceMul, Int.reduceNeg]
  generalize hJ : am_up (am_up I 99 9 (I 100 p)) 99 7 (p + 1) = J at t9 ⊢
  have j9 : J 99 9 = I 100 p := by rw [← hJ, am_up_n _ _ _ _ (by decide), am_up_s]
  have j7 : J 99 7 = p + 1 := by rw [← hJ, am_up_s]
  have j6 : J 99 6 = n := by rw [← hJ, am_up_n _ _ _ _ (by decide), am_up_n _ _ _ _ (by decide)]; exact h6
  have j0 : J 99 10 = I 99 10 := by rw [← hJ, am_up_n _ _ _ _ (by decide), am_up_n _ _ _ _ (by decide)]
  have jT : J 100 = I 100 := by rw [← hJ, am_up_a _ _ _ _ (by decide), am_up_a _ _ _ _ (by decide)]
  clear hJ
  have pair : j = p + 2 → kd = 5 → Q none (mkH w (am_up (am_up (am_up J 99 7 (p + 1 + 1)) 99 8 5) 99 9 wh) L) := fun e1 e2 => by
    refine q _ (((t9.up (by decide)).up (by decide)).up (by decide)) ?_ ?_ ?_ ?_
    · rw [am_up_n _ _ _ _ (by decide), am_up_n _ _ _ _ (by decide), am_up_s]; omega
    · rw [am_up_n _ _ _ _ (by decide), am_up_s, e2]
    · rw [am_up_s]
    · rw [am_up_n _ _ _ _ (by decide), am_up_n _ _ _ _ (by decide), am_up_n _ _ _ _ (by decide)]; exact j0
  have cmp1 : j = p + 1 → kd = 5 → Q none (mkH w (am_up (am_up J 99 8 5) 99 9 wh) L) := fun e1 e2 => by
    refine q _ ((t9.up (by decide)).up (by decide)) ?_ ?_ ?_ ?_
    · rw [am_up_n _ _ _ _ (by decide), am_up_n _ _ _ _ (by decide), j7, e1]
    · rw [am_up_n _ _ _ _ (by decide), am_up_s, e2]
    · rw [am_up_s]
    · rw [am_up_n _ _ _ _ (by decide), am_up_n _ _ _ _ (by decide)]; exact j0
  have sgn : j = p + 1 → wh = I 100 p → Q none (mkH w (am_up J 99 8 kd) L) := fun e1 e2 => by
    refine q _ (t9.up (by decide)) ?_ ?_ ?_ ?_
    · rw [am_up_n _ _ _ _ (by decide), j7, e1]
    · rw [am_up_s]
    · rw [am_up_n _ _ _ _ (by decide), j9, e2]
    · rw [am_up_n _ _ _ _ (by decide)]; exact j0
  clear q t9
  rw [B159_23]
  rcases hs with ⟨⟨a, b, c⟩, e1, -, e2, e3⟩ | ⟨⟨a, b, c⟩, e1, -, e2, e3⟩ | ⟨⟨a, b, c⟩, e1, -, e2, e3⟩ | ⟨nop, e1, h⟩
  · have z := pair e1 e2
    clear pair cmp1 sgn
    subst e3
    rw [b] at j9
    first | (simp (disch := omega) only [Kk, Kt, j9, j7, j6, jT, c, B159_50, B159_74, B159_95, B159_115, B159_116, B159_125, B159_135, B159_140, B159_192, B159_195, am_up_n, am_up_s, GA, GR, GRc, GO, GI, GL, GV, am_w_i, am_ga, am_it, am_if, true_and, and_true, or_true, true_or, ne_eq, not_false_eq_true, not_true_eq_false, false_imp_iff, true_imp_iff, Int.reduceEq, Int.reduceLT, Int.reduceLE, Int.reduceAdd, Int.reduceSub, Int.reduceMul, Int.reduceNeg]; exact z) | simp (disch := omega) only [Kk, Kt, j9, j7, j6, jT, c, B159_50, B159_74, B159_95, B159_115, B159_116, B159_125, B159_135, B159_140, B159_192, B159_195, am_up_n, am_up_s, z, GA, GR, GRc, GO, GI, GL, GV, am_w_i, am_ga, am_it, am_if, true_and, and_true, or_true, true_or, ne_eq, not_false_eq_true, not_true_eq_false, false_imp_iff, true_imp_iff, Int.reduceEq, Int.reduceLT, Int.reduceLE, Int.reduceAdd, Int.reduceSub, Int.reduceMul, Int.reduceNeg]
  · have z := pair e1 e2
    clear pair cmp1 sgn
    subst e3
    rw [b] at j9
    first | (simp (disch := omega) only [Kk, Kt, j9, j7, j6, jT, c, B159_50, B159_74, B159_95, B159_115, B159_116, B159_125, B159_135, B159_140, B159_192, B159_195, am_up_n, am_up_s, GA, GR, GRc, GO, GI, GL, GV, am_w_i, am_ga, am_it, am_if, true_and, and_true, or_true, true_or, ne_eq, not_false_eq_true, not_true_eq_false, false_imp_iff, true_imp_iff, Int.reduceEq, Int.reduceLT, Int.reduceLE, Int.reduceAdd, Int.reduceSub, Int.reduceMul, Int.reduceNeg]; exact z) | simp (disch := omega) only [Kk, Kt, j9, j7, j6, jT, c, B159_50, B159_74, B159_95, B159_115, B159_116, B159_125, B159_135, B159_140, B159_192, B159_195, am_up_n, am_up_s, z, GA, GR, GRc, GO, GI, GL, GV, am_w_i, am_ga, am_it, am_if, true_and, and_true, or_true, true_or, ne_eq, not_false_eq_true, not_true_eq_false, false_imp_iff, true_imp_iff, Int.reduceEq, Int.reduceLT, Int.reduceLE, Int.reduceAdd, Int.reduceSub, Int.reduceMul, Int.reduceNeg]
  · have z := pair e1 e2
    clear pair cmp1 sgn
    subst e3
    rw [b] at j9
    first | (simp (disch := omega) only [Kk, Kt, j9, j7, j6, jT, c, B159_50, B159_74, B159_94, B159_95, B159_115, B159_116, B159_125, B159_135, B159_140, B159_192, B159_195, am_up_n, am_up_s, GA, GR, GRc, GO, GI, GL, GV, am_w_i, am_ga, am_it, am_if, true_and, and_true, or_true, true_or, ne_eq, not_false_eq_true, not_true_eq_false, false_imp_iff, true_imp_iff, Int.reduceEq, Int.reduceLT, Int.reduceLE, Int.reduceAdd, Int.reduceSub, Int.reduceMul, Int.reduceNeg]; exact z) | simp (disch := omega) only [Kk, Kt, j9, j7, j6, jT, c, B159_50, B159_74, B159_94, B159_95, B159_115, B159_116, B159_125, B159_135, B159_140, B159_192, B159_195, am_up_n, am_up_s, z, GA, GR, GRc, GO, GI, GL, GV, am_w_i, am_ga, am_it, am_if, true_and, and_true, or_true, true_or, ne_eq, not_false_eq_true, not_true_eq_false, false_imp_iff, true_imp_iff, Int.reduceEq, Int.reduceLT, Int.reduceLE, Int.reduceAdd, Int.reduceSub, Int.reduceMul, Int.reduceNeg]
  · rcases h with ⟨b, -, e2, e3⟩ | ⟨b, -, e2, e3⟩ | ⟨b, -, e2, e3⟩ | ⟨b, -, e2, e3⟩ | ⟨b, -, e2, e3⟩ | ⟨b1, b2, b3, b4, b5, b6, -, e2, e3⟩
    · have z := cmp1 e1 e2
      clear pair cmp1 sgn
      subst e3
      rw [b] at j9
      by_cases c : p + 1 < n
      · obtain ⟨n1, -, n2⟩ := nop c
        have x1 : ¬ I 100 (p + 1) = 61 := fun y => n1 ⟨b, y⟩
        have x2 : ¬ I 100 (p + 1) = 62 := fun y => n2 ⟨b, y⟩
        clear n1 n2 nop
        first | (simp (disch := omega) only [Kk, Kt, j9, j7, j6, jT, c, x1, x2, B159_50, B159_74, B159_94, B159_95, B159_115, B159_116, B159_125, B159_135, B159_140, B159_192, B159_195, am_up_n, am_up_s, GA, GR, GRc, GO, GI, GL, GV, am_w_i, am_ga, am_it, am_if, true_and, and_true, or_true, true_or, ne_eq, not_false_eq_true, not_true_eq_false, false_imp_iff, true_imp_iff, Int.reduceEq, Int.reduceLT, Int.reduceLE, Int.reduceAdd, Int.reduceSub, Int.reduceMul, Int.reduceNeg]; exact z) | simp (disch := omega) only [Kk, Kt, j9, j7, j6, jT, c, x1, x2, B159_50, B159_74, B159_94, B159_95, B159_115, B159_116, B159_125, B159_135, B159_140, B159_192, B159_195, am_up_n, am_up_s, z, GA, GR, GRc, GO, GI, GL, GV, am_w_i, am_ga, am_it, am_if, true_and, and_true, or_true, true_or, ne_eq, not_false_eq_true, not_true_eq_false, false_imp_iff, true_imp_iff, Int.reduceEq, Int.reduceLT, Int.reduceLE, Int.reduceAdd, Int.reduceSub, Int.reduceMul, Int.reduceNeg]
      · clear nop
        first | (simp (disch := omega) only [Kk, Kt, j9, j7, j6, jT, c, B159_50, B159_74, B159_94, B159_95, B159_115, B159_116, B159_125, B159_135, B159_140, B159_192, B159_195, am_up_n, am_up_s, GA, GR, GRc, GO, GI, GL, GV, am_w_i, am_ga, am_it, am_if, true_and, and_true, or_true, true_or, ne_eq, not_false_eq_true, not_true_eq_false, false_imp_iff, true_imp_iff, Int.reduceEq, Int.reduceLT, Int.reduceLE, Int.reduceAdd, Int.reduceSub, Int.reduceMul, Int.reduceNeg]; exact z) | simp (disch := omega) only [Kk, Kt, j9, j7, j6, jT, c, B159_50, B159_74, B159_94, B159_95, B159_115, B159_116, B159_125, B159_135, B159_140, B159_192, B159_195, am_up_n, am_up_s, z, GA, GR, GRc, GO, GI, GL, GV, am_w_i, am_ga, am_it, am_if, true_and, and_true, or_true, true_or, ne_eq, not_false_eq_true, not_true_eq_false, false_imp_iff, true_imp_iff, Int.reduceEq, Int.reduceLT, Int.reduceLE, Int.reduceAdd, Int.reduceSub, Int.reduceMul, Int.reduceNeg]
    · have z := cmp1 e1 e2
      clear pair cmp1 sgn nop
      subst e3
      rw [b] at j9
      by_cases c : p + 1 < n
      · have c7 : p + 1 < 700 := by omega
        first | (simp (disch := omega) only [Kk, Kt, j9, j7, j6, jT, c, c7, B159_50, B159_74, B159_94, B159_95, B159_115, B159_116, B159_125, B159_135, B159_140, B159_192, B159_195, am_up_n, am_up_s, GA, GR, GRc, GO, GI, GL, GV, am_w_i, am_ga, am_it, am_if, true_and, and_true, or_true, true_or, ne_eq, not_false_eq_true, not_true_eq_false, false_imp_iff, true_imp_iff, Int.reduceEq, Int.reduceLT, Int.reduceLE, Int.reduceAdd, Int.reduceSub, Int.reduceMul, Int.reduceNeg]; exact z) | simp (disch := omega) only [Kk, Kt, j9, j7, j6, jT, c, c7, B159_50, B159_74, B159_94, B159_95, B159_115, B159_116, B159_125, B159_135, B159_140, B159_192, B159_195, am_up_n, am_up_s, z, GA, GR, GRc, GO, GI, GL, GV, am_w_i, am_ga, am_it, am_if, true_and, and_true, or_true, true_or, ne_eq, not_false_eq_true, not_true_eq_false, false_imp_iff, true_imp_iff, Int.reduceEq, Int.reduceLT, Int.reduceLE, Int.reduceAdd, Int.reduceSub, Int.reduceMul, Int.reduceNeg]
      · first | (simp (disch := omega) only [Kk, Kt, j9, j7, j6, jT, c, B159_50, B159_74, B159_94, B159_95, B159_115, B159_116, B159_125, B159_135, B159_140, B159_192, B159_195, am_up_n, am_up_s, GA, GR, GRc, GO, GI, GL, GV, am_w_i, am_ga, am_it, am_if, true_and, and_true, or_true, true_or, ne_eq, not_false_eq_true, not_true_eq_false, false_imp_iff, true_imp_iff, Int.reduceEq, Int.reduceLT, Int.reduceLE, Int.reduceAdd, Int.reduceSub, Int.reduceMul, Int.reduceNeg]; exact z) | simp (disch := omega) only [Kk, Kt, j9, j7, j6, jT, c, B159_50, B159_74, B159_94, B159_95, B159_115, B159_116, B159_125, B159_135, B159_140, B159_192, B159_195, am_up_n, am_up_s, z, GA, GR, GRc, GO, GI, GL, GV, am_w_i, am_ga, am_it, am_if, true_and, and_true, or_true, true_or, ne_eq, not_false_eq_true, not_true_eq_false, false_imp_iff, true_imp_iff, Int.reduceEq, Int.reduceLT, Int.reduceLE, Int.reduceAdd, Int.reduceSub, Int.reduceMul, Int.reduceNeg]
    · have z := cmp1 e1 e2
      clear pair cmp1 sgn
      subst e3
      rw [b] at j9
      by_cases c : p + 1 < n
      · obtain ⟨-, n1, -⟩ := nop c
        have x1 : ¬ I 100 (p + 1) = 61 := fun y => n1 ⟨b, y⟩
        clear n1 nop
        first | (simp (disch := omega) only [Kk, Kt, j9, j7, j6, jT, c, x1, B159_50, B159_74, B159_94, B159_95, B159_115, B159_116, B159_125, B159_135, B159_140, B159_192, B159_195, am_up_n, am_up_s, GA, GR, GRc, GO, GI, GL, GV, am_w_i, am_ga, am_it, am_if, true_and, and_true, or_true, true_or, ne_eq, not_false_eq_true, not_true_eq_false, false_imp_iff, true_imp_iff, Int.reduceEq, Int.reduceLT, Int.reduceLE, Int.reduceAdd, Int.reduceSub, Int.reduceMul, Int.reduceNeg]; exact z) | simp (disch := omega) only [Kk, Kt, j9, j7, j6, jT, c, x1, B159_50, B159_74, B159_94, B159_95, B159_115, B159_116, B159_125, B159_135, B159_140, B159_192, B159_195, am_up_n, am_up_s, z, GA, GR, GRc, GO, GI, GL, GV, am_w_i, am_ga, am_it, am_if, true_and, and_true, or_true, true_or, ne_eq, not_false_eq_true, not_true_eq_false, false_imp_iff, true_imp_iff, Int.reduceEq, Int.reduceLT, Int.reduceLE, Int.reduceAdd, Int.reduceSub, Int.reduceMul, Int.reduceNeg]
      · clear nop
        first | (simp (disch := omega) only [Kk, Kt, j9, j7, j6, jT, c, B159_50, B159_74, B159_94, B159_95, B159_115, B159_116, B159_125, B159_135, B159_140, B159_192, B159_195, am_up_n, am_up_s, GA, GR, GRc, GO, GI, GL, GV, am_w_i, am_ga, am_it, am_if, true_and, and_true, or_true, true_or, ne_eq, not_false_eq_true, not_true_eq_false, false_imp_iff, true_imp_iff, Int.reduceEq, Int.reduceLT, Int.reduceLE, Int.reduceAdd, Int.reduceSub, Int.reduceMul, Int.reduceNeg]; exact z) | simp (disch := omega) only [Kk, Kt, j9, j7, j6, jT, c, B159_50, B159_74, B159_94, B159_95, B159_115, B159_116, B159_125, B159_135, B159_140, B159_192, B159_195, am_up_n, am_up_s, z, GA, GR, GRc, GO, GI, GL, GV, am_w_i, am_ga, am_it, am_if, true_and, and_true, or_true, true_or, ne_eq, not_false_eq_true, not_true_eq_false, false_imp_iff, true_imp_iff, Int.reduceEq, Int.reduceLT, Int.reduceLE, Int.reduceAdd, Int.reduceSub, Int.reduceMul, Int.reduceNeg]
    · have z := sgn e1 e3
      clear pair cmp1 sgn nop
      subst e2
      clear e3
      rcases b with b | b | b | b | b | b | b <;> rw [b] at j9 <;> first | (simp (disch := omega) only [Kk, j9, B159_270, B159_275, B159_287, GA, GR, GRc, GO, GI, GL, GV, am_w_i, am_ga, am_it, am_if, true_and, and_true, or_true, true_or, ne_eq, not_false_eq_true, not_true_eq_false, false_imp_iff, true_imp_iff, Int.reduceEq, Int.reduceLT, Int.reduceLE, Int.reduceAdd, Int.reduceSub, Int.reduceMul, Int.reduceNeg]; exact z) | simp (disch := omega) only [Kk, j9, B159_270, B159_275, B159_287, z, GA, GR, GRc, GO, GI, GL, GV, am_w_i, am_ga, am_it, am_if, true_and, and_true, or_true, true_or, ne_eq, not_false_eq_true, not_true_eq_false, false_imp_iff, true_imp_iff, Int.reduceEq, Int.reduceLT, Int.reduceLE, Int.reduceAdd, Int.reduceSub, Int.reduceMul, Int.reduceNeg]
    · have z := sgn e1 (by omega)
      clear pair cmp1 sgn nop
      subst e2
      rw [b] at j9
      first | (simp (disch := omega) only [Kk, j9, B159_270, B159_275, B159_287, GA, GR, GRc, GO, GI, GL, GV, am_w_i, am_ga, am_it, am_if, true_and, and_true, or_true, true_or, ne_eq, not_false_eq_true, not_true_eq_false, false_imp_iff, true_imp_iff, Int.reduceEq, Int.reduceLT, Int.reduceLE, Int.reduceAdd, Int.reduceSub, Int.reduceMul, Int.reduceNeg]; exact z) | simp (disch := omega) only [Kk, j9, B159_270, B159_275, B159_287, z, GA, GR, GRc, GO, GI, GL, GV, am_w_i, am_ga, am_it, am_if, true_and, and_true, or_true, true_or, ne_eq, not_false_eq_true, not_true_eq_false, false_imp_iff, true_imp_iff, Int.reduceEq, Int.reduceLT, Int.reduceLE, Int.reduceAdd, Int.reduceSub, Int.reduceMul, Int.reduceNeg]
    · have z := sgn e1 e3
      clear pair cmp1 sgn nop
      subst e2
      have y1 : ¬ I 100 p = 40 := by omega
      have y2 : ¬ I 100 p = 41 := by omega
      have y3 : ¬ I 100 p = 42 := by omega
      have y4 : ¬ I 100 p = 43 := by omega
      have y5 : ¬ I 100 p = 45 := by omega
      have y6 : ¬ I 100 p = 47 := by omega
      clear b1 e3
      first | (simp (disch := omega) only [Kk, j9, y1, y2, y3, y4, y5, y6, b2, b3, b4, b5, b6, B159_270, B159_275, B159_287, GA, GR, GRc, GO, GI, GL, GV, am_w_i, am_ga, am_it, am_if, true_and, and_true, or_true, true_or, ne_eq, not_false_eq_true, not_true_eq_false, false_imp_iff, true_imp_iff, Int.reduceEq, Int.reduceLT, Int.reduceLE, Int.reduceAdd, Int.reduceSub, Int.reduceMul, Int.reduceNeg]; exact z) | simp (disch := omega) only [Kk, j9, y1, y2, y3, y4, y5, y6, b2, b3, b4, b5, b6, B159_270, B159_275, B159_287, z, GA, GR, GRc, GO, GI, GL, GV, am_w_i, am_ga, am_it, am_if, true_and, and_true, or_true, true_or, ne_eq, not_false_eq_true, not_true_eq_false, false_imp_iff, true_imp_iff, Int.reduceEq, Int.reduceLT, Int.reduceLE, Int.reduceAdd, Int.reduceSub, Int.reduceMul, Int.reduceNeg]
set_option maxHeartbeats 2000000 in
theorem s158 {d : Nat} {w : Nat × Nat × Nat × Nat} {I L : Nat → Int → Int} {n i p j s v kd wh : Int} (hX : GX I) (h6 : I 99 6 = n) (h7 : I 99 7 = i) (hn : n ≤ 700) (hi : 0 ≤ i) (ht : Tok (I 100) n i p j s v kd wh) {Q : Option am_V → am_H → Prop} (q : ∀ I', TF I I' → I' 99 7 = j → I' 99 8 = kd → (kd ≠ 0 → I' 99 9 = wh) → I' 99 10 = p → Q none (mkH w I' L)) : am_Sp (d + 2) 158 [vR (some 99)] (mkH w I L) Q := by
  have e58 : am_Sp (d + 2) 158 [vR (some 99)] (mkH w I L) Q ↔ am_WP (d + 2) 158 49 [some (vR (some 99))] [] (mkH w I L) Q := by rw [S158, B158_49]
  obtain ⟨⟨i1, i2, i3⟩, ht⟩ := ht
  have T0 : TF I (am_up (am_up I 99 7 p) 99 10 p) := (TF.rf.up (by decide)).up (by decide)
  have k60 : am_WP (d + 2) 158 60 [some (vR (some 99))] [] (mkH w (am_up (am_up I 99 7 p) 99 10 p) L) Q := by
    generalize hJ : am_up (am_up I 99 7 p) 99 10 p = J at T0 ⊢
    have j0 : J 99 10 = p := by rw [← hJ, am_up_s]
    have j7 : J 99 7 = p := by rw [← hJ, am_up_n _ _ _ _ (by decide), am_up_s]
    have j6 : J 99 6 = n := by rw [← hJ, am_up_n _ _ _ _ (by decide), am_up_n _ _ _ _ (by decide)]; exact h6
    have jT : J 100 = I 100 := T0.1 100 (by decide)
    have jX : GX J := by unfold GX at hX ⊢; rw [T0.1 49 (by decide), T0.1 101 (by decide)]; exact hX
    clear hJ
    rw [B158_60]
    rcases ht with ⟨e1, e2, -, e3⟩ | ⟨pn, c10, c32, tk⟩
    · have z := q _ (T0.up (i := 8) (v := 0) (by decide)) (by rw [am_up_n _ _ _ _ (by decide), j7, e1, e2]) (by rw [am_up_s, e3]) (fun y => absurd e3 y) (by rw [am_up_n _ _ _ _ (by decide)]; exact j0)
      clear q
      first | (simp (disch := omega) only [Kk, j7, j6, e1, B158_76, GA, GR, GRc, GO, GI, GL, GV, am_w_i, am_ga, am_it, am_if, true_and, and_true, or_true, true_or, ne_eq, not_false_eq_true, not_true_eq_false, false_imp_iff, true_imp_iff, Int.reduceEq, Int.reduceLT, Int.reduceLE, Int.reduceAdd, Int.reduceSub, Int.reduceMul, Int.reduceNeg]; exact z) | simp (disch := omega) only [Kk, j7, j6, e1, B158_76, z, GA, GR, GRc, GO, GI, GL, GV, am_w_i, am_ga, am_it, am_if, true_and, and_true, or_true, true_or, ne_eq, not_false_eq_true, not_true_eq_false, false_imp_iff, true_imp_iff, Int.reduceEq, Int.reduceLT, Int.reduceLE, Int.reduceAdd, Int.reduceSub, Int.reduceMul, Int.reduceNeg]
    · have nn : ¬ p = n := by omega
      have hp0 : 0 ≤ p := by omega
      rcases tk with ⟨m, m1, rfl, m3, m4, m5, hw⟩ | ⟨m, m1, rfl, m3, m4, m5, -, -, e1, e2⟩ | ⟨hl, hd, sg⟩
      · have l0 : isL (I 100 p) := by have := m4 0 (by omega); simpa using this
        unfold isL at l0
        have cl : p < n ∧ 97 ≤ J 100 p ∧ J 100 p ≤ 122 := by rw [jT]; exact ⟨pn, l0⟩
        simp (disch := omega) only [Kk, j7, j6, nn, s156 j6 hn hp0, cl, if_true, GA, GR, GRc, GO, GI, GL, GV, am_w_i, am_ga, am_it, am_if, true_and, and_true, or_true, true_or, ne_eq, not_false_eq_true, not_true_eq_false, false_imp_iff, true_imp_iff, Int.reduceEq, Int.reduceLT, Int.reduceLE, Int.reduceAdd, Int.reduceSub, Int.reduceMul, Int.reduceNeg]
        have key := am_loop (α := Unit) m (fun x _ => am_WP (d + 2) 158 90 [some (vR (some 99))] [] (mkH w (am_up J 99 7 (p + x)) L) Q) (fun _ _ => True) (by
          intro x _ hx _ ih
          have z := ih () trivial
          have lx := m4 x hx
          unfold isL at lx
          have cx : p + (x : Int) < n ∧ 97 ≤ am_up J 99 7 (p + x) 100 (p + x) ∧ am_up J 99 7 (p + x) 100 (p + x) ≤ 122 := by
            rw [am_up_a _ _ _ _ (by decide), jT]; exact ⟨by omega, lx⟩
          have u6 : am_up J 99 7 (p + x) 99 6 = n := by rw [am_up_n _ _ _ _ (by decide)]; exact j6
          rw [show p + ((x + 1 : Nat) : Int) = p + x + 1 by omega] at z
          rw [B158_90]
          simp (disch := omega) only [Kk, am_up_s, s156 u6 hn (show 0 ≤ p + (x : Int) by omega), cx, if_true, GA, GR, GRc, GO, GI, GL, GV, am_w_i, am_ga, am_it, am_if, true_and, and_true, or_true, true_or, ne_eq, not_false_eq_true, not_true_eq_false, false_imp_iff, true_imp_iff, Int.reduceEq, Int.reduceLT, Int.reduceLE, Int.reduceAdd, Int.reduceSub, Int.reduceMul, Int.reduceNeg]
          rw [B158_111, am_up2]
          exact z) (by
          intro _ _
          have cx : ¬ (p + (m : Int) < n ∧ 97 ≤ am_up J 99 7 (p + m) 100 (p + m) ∧ am_up J 99 7 (p + m) 100 (p + m) ≤ 122) := by
            rw [am_up_a _ _ _ _ (by decide), jT]; exact fun y => m5 y.1 y.2
          have u6 : am_up J 99 7 (p + m) 99 6 = n := by rw [am_up_n _ _ _ _ (by decide)]; exact j6
          have uX : GX (am_up J 99 7 (p + m)) := by unfold GX at jX ⊢; rw [am_up_a _ _ _ _ (by decide), am_up_a _ _ _ _ (by decide)]; exact jX
          have uT : am_up J 99 7 (p + m) 100 = I 100 := by rw [am_up_a _ _ _ _ (by decide), jT]
          have T1 : TF I (am_up J 99 7 (p + m)) := T0.up (by decide)
          have em : p + (m : Int) - p = m := by omega
          rw [B158_90]
          simp (disch := omega) only [Kk, am_up_s, s156 u6 hn (show 0 ≤ p + (m : Int) by omega), cx, if_false, am_up_n, j0, GA, GR, GRc, GO, GI, GL, GV, am_w_i, am_ga, am_it, am_if, true_and, and_true, or_true, true_or, ne_eq, not_false_eq_true, not_true_eq_false, false_imp_iff, true_imp_iff, Int.reduceEq, Int.reduceLT, Int.reduceLE, Int.reduceAdd, Int.reduceSub, Int.reduceMul, Int.reduceNeg]
          refine s155 uX ⟨hp0, by omega⟩ (fun k hk wk => ?_) (fun nw => ?_)
          · rw [uT] at wk
            have hm5 := (cz_k1 k hk).1
            have hm := wk.1
            rcases hw with ⟨h1, -⟩ | ⟨-, -, ⟨k', hk', wk', -, e2, e3⟩ | ⟨nw, -⟩⟩
            · omega
            · have ek : k' = k := by
                have a1 := (WK_iff hk ⟨m1, by omega⟩ m4).1 wk
                have a2 := (WK_iff hk' ⟨m1, by omega⟩ m4).1 wk'
                have w1 := wpI_b hk
                have w2 := wpI_b hk'
                have := cz_k4 _ w2.1 _ w1.1 (a2.symm.trans a1)
                rw [← w2.2, this, w1.2]
              subst ek
              have z := q _ ((T1.up (i := 9) (v := (k' : Int)) (by decide)).up (i := 8) (v := 1) (by decide)) (by rw [am_up_n _ _ _ _ (by decide), am_up_n _ _ _ _ (by decide), am_up_s]) (by rw [am_up_s, e2]) (fun _ => by rw [am_up_n _ _ _ _ (by decide), am_up_s, e3]) (by rw [am_up_n _ _ _ _ (by decide), am_up_n _ _ _ _ (by decide), am_up_n _ _ _ _ (by decide)]; exact j0)
              clear q
              first | (simp (disch := omega) only [Kk, B158_130, B158_162, B158_165, am_up_s, am_up_n, j0, em, GA, GR, GRc, GO, GI, GL, GV, am_w_i, am_ga, am_it, am_if, true_and, and_true, or_true, true_or, ne_eq, not_false_eq_true, not_true_eq_false, false_imp_iff, true_imp_iff, Int.reduceEq, Int.reduceLT, Int.reduceLE, Int.reduceAdd, Int.reduceSub, Int.reduceMul, Int.reduceNeg]; exact z) | simp (disch := omega) only [Kk, B158_130, B158_162, B158_165, am_up_s, am_up_n, j0, em, z, GA, GR, GRc, GO, GI, GL, GV, am_w_i, am_ga, am_it, am_if, true_and, and_true, or_true, true_or, ne_eq, not_false_eq_true, not_true_eq_false, false_imp_iff, true_imp_iff, Int.reduceEq, Int.reduceLT, Int.reduceLE, Int.reduceAdd, Int.reduceSub, Int.reduceMul, Int.reduceNeg]
            · exact absurd wk (nw k hk)
          · rw [uT] at nw
            rcases hw with ⟨h1, -, e2, e3⟩ | ⟨h1, -, ⟨k', hk', wk', -⟩ | ⟨-, -, e2, e3⟩⟩
            · have z := q _ ((T1.up (i := 9) (v := -1) (by decide)).up (i := 8) (v := 6) (by decide)) (by rw [am_up_n _ _ _ _ (by decide), am_up_n _ _ _ _ (by decide), am_up_s]) (by rw [am_up_s, e2]) (fun _ => by rw [am_up_n _ _ _ _ (by decide), am_up_s, e3]) (by rw [am_up_n _ _ _ _ (by decide), am_up_n _ _ _ _ (by decide), am_up_n _ _ _ _ (by decide)]; exact j0)
              have g6 : ¬ (m : Int) ≤ 6 := by omega
              clear q
              first | (simp (disch := omega) only [Kk, B158_130, B158_162, B158_165, am_up_s, am_up_n, j0, em, g6, GA, GR, GRc, GO, GI, GL, GV, am_w_i, am_ga, am_it, am_if, true_and, and_true, or_true, true_or, ne_eq, not_false_eq_true, not_true_eq_false, false_imp_iff, true_imp_iff, Int.reduceEq, Int.reduceLT, Int.reduceLE, Int.reduceAdd, Int.reduceSub, Int.reduceMul, Int.reduceNeg]; exact z) | simp (disch := omega) only [Kk, B158_130, B158_162, B158_165, am_up_s, am_up_n, j0, em, g6, z, GA, GR, GRc, GO, GI, GL, GV, am_w_i, am_ga, am_it, am_if, true_and, and_true, or_true, true_or, ne_eq, not_false_eq_true, not_true_eq_false, false_imp_iff, true_imp_iff, Int.reduceEq, Int.reduceLT, Int.reduceLE, Int.reduceAdd, Int.reduceSub, Int.reduceMul, Int.reduceNeg]
            · exact absurd wk' (nw k' hk')
            · have z := q _ (((T1.up (i := 9) (v := -1) (by decide)).up (i := 8) (v := 2) (by decide)).up (i := 9) (v := P6 (I 100) p m) (by decide)) (by rw [am_up_n _ _ _ _ (by decide), am_up_n _ _ _ _ (by decide), am_up_n _ _ _ _ (by decide), am_up_s]) (by rw [am_up_n _ _ _ _ (by decide), am_up_s, e2]) (fun _ => by rw [am_up_s, e3]) (by rw [am_up_n _ _ _ _ (by decide), am_up_n _ _ _ _ (by decide), am_up_n _ _ _ _ (by decide), am_up_n _ _ _ _ (by decide)]; exact j0)
              have g6 : (m : Int) ≤ 6 := by omega
              have vT : am_up (am_up (am_up J 99 7 (p + m)) 99 9 (-1)) 99 8 2 100 = I 100 := by rw [am_up_a _ _ _ _ (by decide), am_up_a _ _ _ _ (by decide), uT]
              have u160 := fun (d : Nat) (Q : Option am_V → am_H → Prop) => s160 (d := d) (w := w) (I := am_up (am_up (am_up J 99 7 (p + m)) 99 9 (-1)) 99 8 2) (L := L) (p := p) (m := m) ⟨hp0, by omega⟩ ⟨m1, by omega⟩ (by rw [vT]; exact m4) Q
              rw [vT] at u160
              clear q
              first | (simp (disch := omega) only [Kk, B158_130, B158_162, B158_165, am_up_s, am_up_n, j0, em, g6, u160, B158_189, GA, GR, GRc, GO, GI, GL, GV, am_w_i, am_ga, am_it, am_if, true_and, and_true, or_true, true_or, ne_eq, not_false_eq_true, not_true_eq_false, false_imp_iff, true_imp_iff, Int.reduceEq, Int.reduceLT, Int.reduceLE, Int.reduceAdd, Int.reduceSub, Int.reduceMul, Int.reduceNeg]; exact z) | simp (disch := omega) only [Kk, B158_130, B158_162, B158_165, am_up_s, am_up_n, j0, em, g6, u160, B158_189, z, GA, GR, GRc, GO, GI, GL, GV, am_w_i, am_ga, am_it, am_if, true_and, and_true, or_true, true_or, ne_eq, not_false_eq_true, not_true_eq_false, false_imp_iff, true_imp_iff, Int.reduceEq, Int.reduceLT, Int.reduceLE, Int.reduceAdd, Int.reduceSub, Int.reduceMul, Int.reduceNeg])
        have k0 := key 0 () (Nat.zero_le _) trivial
        rw [show p + ((0 : Nat) : Int) = p by omega, am_up_e j7] at k0
        exact k0
      · have l0 : isD (I 100 p) := by have := m4 0 (by omega); simpa using this
        unfold isD at l0
        have nl : ¬ (p < n ∧ 97 ≤ J 100 p ∧ J 100 p ≤ 122) := by rw [jT]; omega
        have cl : p < n ∧ 48 ≤ J 100 p ∧ J 100 p ≤ 57 := by rw [jT]; exact ⟨pn, l0⟩
        simp (disch := omega) only [Kk, j7, j6, nn, s156 j6 hn hp0, nl, if_false, s157 j6 hn hp0, cl, if_true, B158_208, GA, GR, GRc, GO, GI, GL, GV, am_w_i, am_ga, am_it, am_if, true_and, and_true, or_true, true_or, ne_eq, not_false_eq_true, not_true_eq_false, false_imp_iff, true_imp_iff, Int.reduceEq, Int.reduceLT, Int.reduceLE, Int.reduceAdd, Int.reduceSub, Int.reduceMul, Int.reduceNeg]
        have key := am_loop (α := Unit) m (fun x _ => am_WP (d + 2) 158 213 [some (vR (some 99))] [] (mkH w (am_up (am_up (am_up J 99 8 3) 99 9 (nvR (I 100) p x)) 99 7 (p + x)) L) Q) (fun _ _ => True) (by
          intro x _ hx _ ih
          have z := ih () trivial
          have lx := m4 x hx
          unfold isD at lx
          have nb := nv_r (T := I 100) (p := p) (m := x) (fun y hy => m4 y (by omega))
          unfold NR at nb
          generalize hK : am_up (am_up (am_up J 99 8 3) 99 9 (nvR (I 100) p x)) 99 7 (p + x) = K
          have eK : ∀ v u : Int, am_up (am_up K 99 9 v) 99 7 u = am_up (am_up (am_up J 99 8 3) 99 9 v) 99 7 u := fun v u => by
            rw [← hK]; funext b y; unfold am_up; (repeat' split) <;> simp_all
          have K7 : K 99 7 = p + x := by rw [← hK, am_up_s]
          have K9 : K 99 9 = nvR (I 100) p x := by rw [← hK, am_up_n _ _ _ _ (by decide), am_up_s]
          have K6 : K 99 6 = n := by rw [← hK, am_up_n _ _ _ _ (by decide), am_up_n _ _ _ _ (by decide), am_up_n _ _ _ _ (by decide)]; exact j6
          have KT : K 100 = I 100 := by rw [← hK, am_up_a _ _ _ _ (by decide), am_up_a _ _ _ _ (by decide), am_up_a _ _ _ _ (by decide), jT]
          have cx : p + (x : Int) < n ∧ 48 ≤ K 100 (p + x) ∧ K 100 (p + x) ≤ 57 := by rw [KT]; exact ⟨by omega, lx⟩
          rw [show p + ((x + 1 : Nat) : Int) = p + x + 1 by omega, nvR] at z
          clear hK
          rw [B158_213]
          by_cases c9 : nvR (I 100) p x ≤ 99999
          · rw [if_pos c9, ← eK] at z
            first | (simp (disch := omega) only [Kk, Kt, K7, s157 K6 hn (show 0 ≤ p + (x : Int) by omega), cx, if_true, K9, c9, KT, B158_261, B158_264, am_up_n, B158_274, GA, GR, GRc, GO, GI, GL, GV, am_w_i, am_ga, am_it, am_if, true_and, and_true, or_true, true_or, ne_eq, not_false_eq_true, not_true_eq_false, false_imp_iff, true_imp_iff, Int.reduceEq, Int.reduceLT, Int.reduceLE, Int.reduceAdd, Int.reduceSub, Int.reduceMul, Int.reduceNeg]; exact z) | simp (disch := omega) only [Kk, Kt, K7, s157 K6 hn (show 0 ≤ p + (x : Int) by omega), cx, if_true, K9, c9, KT, B158_261, B158_264, am_up_n, B158_274, z, GA, GR, GRc, GO, GI, GL, GV, am_w_i, am_ga, am_it, am_if, true_and, and_true, or_true, true_or, ne_eq, not_false_eq_true, not_true_eq_false, false_imp_iff, true_imp_iff, Int.reduceEq, Int.reduceLT, Int.reduceLE, Int.reduceAdd, Int.reduceSub, Int.reduceMul, Int.reduceNeg]
          · rw [if_neg c9, ← eK, am_up_e K9] at z
            first | (simp (disch := omega) only [Kk, Kt, K7, s157 K6 hn (show 0 ≤ p + (x : Int) by omega), cx, if_true, K9, c9, B158_261, am_up_e K9, B158_264, am_up_n, B158_274, GA, GR, GRc, GO, GI, GL, GV, am_w_i, am_ga, am_it, am_if, true_and, and_true, or_true, true_or, ne_eq, not_false_eq_true, not_true_eq_false, false_imp_iff, true_imp_iff, Int.reduceEq, Int.reduceLT, Int.reduceLE, Int.reduceAdd, Int.reduceSub, Int.reduceMul, Int.reduceNeg]; exact z) | simp (disch := omega) only [Kk, Kt, K7, s157 K6 hn (show 0 ≤ p + (x : Int) by omega), cx, if_true, K9, c9, B158_261, am_up_e K9, B158_264, am_up_n, B158_274, z, GA, GR, GRc, GO, GI, GL, GV, am_w_i, am_ga, am_it, am_if, true_and, and_true, or_true, true_or, ne_eq, not_false_eq_true, not_true_eq_false, false_imp_iff, true_imp_iff, Int.reduceEq, Int.reduceLT, Int.reduceLE, Int.reduceAdd, Int.reduceSub, Int.reduceMul, Int.reduceNeg]) (by
          intro _ _
          have z := q (am_up (am_up (am_up J 99 8 3) 99 9 (nvR (I 100) p m)) 99 7 (p + m)) (((T0.up (by decide)).up (by decide)).up (by decide)) (by rw [am_up_s]) (by rw [am_up_n _ _ _ _ (by decide), am_up_n _ _ _ _ (by decide), am_up_s, e1]) (fun _ => by rw [am_up_n _ _ _ _ (by decide), am_up_s, e2]) (by rw [am_up_n _ _ _ _ (by decide), am_up_n _ _ _ _ (by decide), am_up_n _ _ _ _ (by decide)]; exact j0)
          generalize hK : am_up (am_up (am_up J 99 8 3) 99 9 (nvR (I 100) p m)) 99 7 (p + m) = K at z ⊢
          have K7 : K 99 7 = p + m := by rw [← hK, am_up_s]
          have K6 : K 99 6 = n := by rw [← hK, am_up_n _ _ _ _ (by decide), am_up_n _ _ _ _ (by decide), am_up_n _ _ _ _ (by decide)]; exact j6
          have KT : K 100 = I 100 := by rw [← hK, am_up_a _ _ _ _ (by decide), am_up_a _ _ _ _ (by decide), am_up_a _ _ _ _ (by decide), jT]
          have cx : ¬ (p + (m : Int) < n ∧ 48 ≤ K 100 (p + m) ∧ K 100 (p + m) ≤ 57) := by rw [KT]; exact fun y => m5 y.1 y.2
          clear hK q
          rw [B158_213]
          first | (simp (disch := omega) only [Kk, K7, s157 K6 hn (show 0 ≤ p + (m : Int) by omega), cx, if_false, GA, GR, GRc, GO, GI, GL, GV, am_w_i, am_ga, am_it, am_if, true_and, and_true, or_true, true_or, ne_eq, not_false_eq_true, not_true_eq_false, false_imp_iff, true_imp_iff, Int.reduceEq, Int.reduceLT, Int.reduceLE, Int.reduceAdd, Int.reduceSub, Int.reduceMul, Int.reduceNeg]; exact z) | simp (disch := omega) only [Kk, K7, s157 K6 hn (show 0 ≤ p + (m : Int) by omega), cx, if_false, z, GA, GR, GRc, GO, GI, GL, GV, am_w_i, am_ga, am_it, am_if, true_and, and_true, or_true, true_or, ne_eq, not_false_eq_true, not_true_eq_false, false_imp_iff, true_imp_iff, Int.reduceEq, Int.reduceLT, Int.reduceLE, Int.reduceAdd, Int.reduceSub, Int.reduceMul, Int.reduceNeg])
        have k0 := key 0 () (Nat.zero_le _) trivial
        rw [show p + ((0 : Nat) : Int) = p by omega, nvR, am_up_e (v := p) (by rw [am_up_n _ _ _ _ (by decide), am_up_n _ _ _ _ (by decide)]; exact j7)] at k0
        exact k0
      · unfold isL at hl
        unfold isD at hd
        have nl : ¬ (p < n ∧ 97 ≤ J 100 p ∧ J 100 p ≤ 122) := by rw [jT]; exact fun y => hl y.2
        have nd : ¬ (p < n ∧ 48 ≤ J 100 p ∧ J 100 p ≤ 57) := by rw [jT]; exact fun y => hd y.2
        simp (disch := omega) only [Kk, j7, j6, nn, s156 j6 hn hp0, nl, if_false, s157 j6 hn hp0, nd, GA, GR, GRc, GO, GI, GL, GV, am_w_i, am_ga, am_it, am_if, true_and, and_true, or_true, true_or, ne_eq, not_false_eq_true, not_true_eq_false, false_imp_iff, true_imp_iff, Int.reduceEq, Int.reduceLT, Int.reduceLE, Int.reduceAdd, Int.reduceSub, Int.reduceMul, Int.reduceNeg]
        refine s159 j6 j7 hn ⟨hp0, pn⟩ (by rw [jT]; exact sg) (fun I' t a b c e => ?_)
        have z := q I' (T0.tr t) a b (fun _ => c) (by rw [e]; exact j0)
        clear q
        first | (simp (disch := omega) only [GA, GR, GRc, GO, GI, GL, GV, am_w_i, am_ga, am_it, am_if, true_and, and_true, or_true, true_or, ne_eq, not_false_eq_true, not_true_eq_false, false_imp_iff, true_imp_iff, Int.reduceEq, Int.reduceLT, Int.reduceLE, Int.reduceAdd, Int.reduceSub, Int.reduceMul, Int.reduceNeg]; exact z) | simp (disch := omega) only [z, GA, GR, GRc, GO, GI, GL, GV, am_w_i, am_ga, am_it, am_if, true_and, and_true, or_true, true_or, ne_eq, not_false_eq_true, not_true_eq_false, false_imp_iff, true_imp_iff, Int.reduceEq, Int.reduceLT, Int.reduceLE, Int.reduceAdd, Int.reduceSub, Int.reduceMul, Int.reduceNeg]
  have T0 := T0
  rw [e58]
  have key := am_loop (α := Unit) (p - i).toNat (fun x _ => am_WP (d + 2) 158 49 [some (vR (some 99))] [] (mkH w (am_up I 99 7 (i + x)) L) Q) (fun _ _ => True) (by
    intro x _ hx _ ih
    have z := ih () trivial
    have sp := i3 (i + x) (by omega) (by omega)
    have c1 : ¬ n ≤ i + (x : Int) := by omega
    rw [show i + ((x + 1 : Nat) : Int) = i + x + 1 by omega] at z
    clear q k60 ht
    rw [B158_49]
    rcases sp with sp | sp
    · first | (simp (disch := omega) only [Kk, Kt, am_up_s, am_up_n, h6, c1, am_up_a, sp, B158_39, am_up2, GA, GR, GRc, GO, GI, GL, GV, am_w_i, am_ga, am_it, am_if, true_and, and_true, or_true, true_or, ne_eq, not_false_eq_true, not_true_eq_false, false_imp_iff, true_imp_iff, Int.reduceEq, Int.reduceLT, Int.reduceLE, Int.reduceAdd, Int.reduceSub, Int.reduceMul, Int.reduceNeg]; exact z) | simp (disch := omega) only [Kk, Kt, am_up_s, am_up_n, h6, c1, am_up_a, sp, B158_39, am_up2, z, GA, GR, GRc, GO, GI, GL, GV, am_w_i, am_ga, am_it, am_if, true_and, and_true, or_true, true_or, ne_eq, not_false_eq_true, not_true_eq_false, false_imp_iff, true_imp_iff, Int.reduceEq, Int.reduceLT, Int.reduceLE, Int.reduceAdd, Int.reduceSub, Int.reduceMul, Int.reduceNeg]
    · first | (simp (disch := omega) only [Kk, Kt, am_up_s, am_up_n, h6, c1, am_up_a, sp, B158_39, am_up2, GA, GR, GRc, GO, GI, GL, GV, am_w_i, am_ga, am_it, am_if, true_and, and_true, or_true, true_or, ne_eq, not_false_eq_true, not_true_eq_false, false_imp_iff, true_imp_iff, Int.reduceEq, Int.reduceLT, Int.reduceLE, Int.reduceAdd, Int.reduceSub, Int.reduceMul, Int.reduceNeg]; exact z) | simp (disch := omega) only [Kk, Kt, am_up_s, am_up_n, h6, c1, am_up_a, sp, B158_39, am_up2, z, GA, GR, GRc, GO, GI, GL, GV, am_w_i, am_ga, am_it, am_if, true_and, and_true, or_true, true_or, ne_eq, not_false_eq_true, not_true_eq_false, false_imp_iff, true_imp_iff, Int.reduceEq, Int.reduceLT, Int.reduceLE, Int.reduceAdd, Int.reduceSub, Int.reduceMul, Int.reduceNeg]) (by
    intro _ _
    have z := k60
    have ep : i + ((p - i).toNat : Int) = p := by omega
    clear q k60
    rw [ep, B158_49]
    rcases ht with ⟨e1, -⟩ | ⟨pn, c10, c32, -⟩
    · have c1 : n ≤ p := by omega
      first | (simp (disch := omega) only [Kk, am_up_s, am_up_n, h6, c1, B158_52, GA, GR, GRc, GO, GI, GL, GV, am_w_i, am_ga, am_it, am_if, true_and, and_true, or_true, true_or, ne_eq, not_false_eq_true, not_true_eq_false, false_imp_iff, true_imp_iff, Int.reduceEq, Int.reduceLT, Int.reduceLE, Int.reduceAdd, Int.reduceSub, Int.reduceMul, Int.reduceNeg]; exact z) | simp (disch := omega) only [Kk, am_up_s, am_up_n, h6, c1, B158_52, z, GA, GR, GRc, GO, GI, GL, GV, am_w_i, am_ga, am_it, am_if, true_and, and_true, or_true, true_or, ne_eq, not_false_eq_true, not_true_eq_false, false_imp_iff, true_imp_iff, Int.reduceEq, Int.reduceLT, Int.reduceLE, Int.reduceAdd, Int.reduceSub, Int.reduceMul, Int.reduceNeg]
    · have c1 : ¬ n ≤ p := by omega
      first | (simp (disch := omega) only [Kk, Kt, am_up_s, am_up_n, h6, c1, am_up_a, c10, c32, B158_52, GA, GR, GRc, GO, GI, GL, GV, am_w_i, am_ga, am_it, am_if, true_and, and_true, or_true, true_or, ne_eq, not_false_eq_true, not_true_eq_false, false_imp_iff, true_imp_iff, Int.reduceEq, Int.reduceLT, Int.reduceLE, Int.reduceAdd, Int.reduceSub, Int.reduceMul, Int.reduceNeg]; exact z) | simp (disch := omega) only [Kk, Kt, am_up_s, am_up_n, h6, c1, am_up_a, c10, c32, B158_52, z, GA, GR, GRc, GO, GI, GL, GV, am_w_i, am_ga, am_it, am_if, true_and, and_true, or_true, true_or, ne_eq, not_false_eq_true, not_true_eq_false, false_imp_iff, true_imp_iff, Int.reduceEq, Int.reduceLT, Int.reduceLE, Int.reduceAdd, Int.reduceSub, Int.reduceMul, Int.reduceNeg])
  have k0 := key 0 () (Nat.zero_le _) trivial
  rw [show i + ((0 : Nat) : Int) = i by omega, am_up_e h7] at k0
  exact k0
