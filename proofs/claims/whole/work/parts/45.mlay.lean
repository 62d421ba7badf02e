/-! 45: the reference: starts, copies, plain flags -/
theorem cz_cp_0 (I : (Nat → Int → Int)) (a : Nat) (sp : Int) (b : Nat) (dp : Int) : cz_cp I a sp b dp 0 = I := by
  funext c j; unfold cz_cp; rw [if_neg (by omega)]
theorem cz_cp_s (I : (Nat → Int → Int)) (a : Nat) (sp : Int) (b : Nat) (dp : Int) (n : Nat) : am_up (cz_cp I a sp b dp n) b (dp + n) (I a (sp + n)) = cz_cp I a sp b dp ((n + 1 : Nat) : Int) := by
  funext c j; unfold am_up cz_cp
  by_cases h : c = b ∧ j = dp + n
  · rw [if_pos h, if_pos (by omega)]; congr 1; omega
  · rw [if_neg h]
    by_cases h2 : c = b ∧ dp ≤ j ∧ j < dp + n
    · rw [if_pos h2, if_pos (by omega)]
    · rw [if_neg h2, if_neg (by omega)]
theorem cz_cp_o (I : (Nat → Int → Int)) (a : Nat) (sp : Int) (b : Nat) (dp n : Int) {j : Int} (h : j < dp ∨ dp + n ≤ j) : cz_cp I a sp b dp n b j = I b j := by
  unfold cz_cp; rw [if_neg (by omega)]
def cz_pl (I : (Nat → Int → Int)) : (Nat → Int → Int) := am_up (am_up (am_up (am_up (am_up (am_up (am_up (am_up I 99 60 0) 99 61 0) 99 62 0) 99 63 0) 99 64 0) 99 65 (-1)) 99 66 (-1)) 99 67 0
theorem s197 {d : Nat} {w : Nat × Nat × Nat × Nat} {I L : Nat → Int → Int} (Q : Option am_V → am_H → Prop) : am_Sp d 197 [vR (some 99)] (mkH w I L) Q ↔ Q none (mkH w (cz_pl I) L) := by
  simp (disch := omega) only [S197, B197_5, B197_10, B197_15, B197_20, B197_25, B197_30, B197_35, Kk, cz_pl, GA, GR, GRc, GO, GI, GL, GV, am_w_i, am_ga, am_it, am_if, true_and, and_true, or_true, true_or, ne_eq, not_false_eq_true, not_true_eq_false, false_imp_iff, true_imp_iff, Int.reduceEq, Int.reduceLT, Int.reduceLE, Int.reduceAdd, Int.reduceSub, Int.reduceMul, Int.reduceNeg]
theorem cz_pl_at {I : (Nat → Int → Int)} : (∀ a, a ≠ 99 → cz_pl I a = I a) ∧ (∀ j, j < 60 ∨ 68 ≤ j → cz_pl I 99 j = I 99 j) ∧ MFl (cz_pl I) (FT 1) := by
  refine ⟨fun a h => ?_, fun j h => ?_, ?_⟩
  · unfold cz_pl; simp only [am_up_a _ _ _ _ h]
  · unfold cz_pl; simp (disch := omega) only [am_up_n]
  · unfold cz_pl MFl FT am_up; simp
theorem MS.pl {I L : (Nat → Int → Int)} {b : Int} {σ : (Nat → Int → Int)} (h : MS I L b σ) : MS (cz_pl I) L b σ := by
  unfold MS at h ⊢
  have e := (cz_pl_at (I := I)).1
  rw [e 127 (by decide), e 128 (by decide), e 129 (by decide), e 130 (by decide), e 131 (by decide)]; exact h
theorem FT_WF {x : Int} : WF (FT x) := by unfold WF FT; simp
theorem MC.pl {I V : (Nat → Int → Int)} {lw : Int → (Int → Int) → Int} (h1 : MW I V) (h2 : ML I lw) (h3 : WV V) : MC (cz_pl I) V lw (FT 1) := by
  obtain ⟨a, b, c⟩ := cz_pl_at (I := I)
  exact ⟨h1.fr (fun q x _ => a q (by omega)) (fun j _ _ => b j (by omega)), h2.fr (fun q x _ => a q (by omega)), h3, c, FT_WF⟩
def cz_lt (I : (Nat → Int → Int)) : (Nat → Int → Int) := cz_pl (am_up (am_up (cz_cp (cz_cp (cz_cp I 127 0 127 12 ((12 : Nat) : Int)) 128 0 128 2 ((2 : Nat) : Int)) 129 0 129 12 ((12 : Nat) : Int)) 130 1 (I 130 0)) 131 1 (I 131 0))
theorem s198 {d : Nat} {w : Nat × Nat × Nat × Nat} {I L : Nat → Int → Int} (Q : Option am_V → am_H → Prop) : am_Sp (d + 1) 198 [vR (some 99)] (mkH w I L) Q ↔ Q none (mkH w (cz_lt I) L) := by
  refine am_det ?_ Q
  rw [S198]
  have k3 := am_loop (α := (Nat → Int → Int)) 12 (fun i J => am_WP (d + 1) 198 58 [some (vR (some 99)), some (vI (i : Int))] [] (mkH w J L) (fun r' h' => r' = none ∧ h' = mkH w (cz_lt I) L)) (fun i J => J = cz_cp (cz_cp (cz_cp I 127 0 127 12 ((12 : Nat) : Int)) 128 0 128 2 ((2 : Nat) : Int)) 129 0 129 12 i) (by
    intro i J hi hJ ih
    rw [B198_58]
    simp (disch := omega) only [Kk, Ks, B198_79, GA, GR, GRc, GO, GI, GL, GV, am_w_i, am_ga, am_it, am_if, true_and, and_true, or_true, true_or, ne_eq, not_false_eq_true, not_true_eq_false, false_imp_iff, true_imp_iff, Int.reduceEq, Int.reduceLT, Int.reduceLE, Int.reduceAdd, Int.reduceSub, Int.reduceMul, Int.reduceNeg]
    refine ih _ ?_
    rw [hJ, cz_cp_o _ _ _ _ _ _ (by omega)]
    have := cz_cp_s (cz_cp (cz_cp I 127 0 127 12 ((12 : Nat) : Int)) 128 0 128 2 ((2 : Nat) : Int)) 129 0 129 12 i
    rw [Int.zero_add] at this; exact this) (by
    intro J hJ
    rw [B198_58]
    simp (disch := omega) only [Kk, Ks, B198_97, B198_109, s197, am_up_a, GA, GR, GRc, GO, GI, GL, GV, am_w_i, am_ga, am_it, am_if, true_and, and_true, or_true, true_or, ne_eq, not_false_eq_true, not_true_eq_false, false_imp_iff, true_imp_iff, Int.reduceEq, Int.reduceLT, Int.reduceLE, Int.reduceAdd, Int.reduceSub, Int.reduceMul, Int.reduceNeg]
    rw [hJ]; unfold cz_lt
    simp (disch := decide) only [am_up_a, cz_cp_a])
  have k2 := am_loop (α := (Nat → Int → Int)) 2 (fun i J => am_WP (d + 1) 198 31 [some (vR (some 99)), some (vI (i : Int))] [] (mkH w J L) (fun r' h' => r' = none ∧ h' = mkH w (cz_lt I) L)) (fun i J => J = cz_cp (cz_cp I 127 0 127 12 ((12 : Nat) : Int)) 128 0 128 2 i) (by
    intro i J hi hJ ih
    rw [B198_31]
    simp (disch := omega) only [Kk, Ks, B198_50, GA, GR, GRc, GO, GI, GL, GV, am_w_i, am_ga, am_it, am_if, true_and, and_true, or_true, true_or, ne_eq, not_false_eq_true, not_true_eq_false, false_imp_iff, true_imp_iff, Int.reduceEq, Int.reduceLT, Int.reduceLE, Int.reduceAdd, Int.reduceSub, Int.reduceMul, Int.reduceNeg]
    refine ih _ ?_
    rw [hJ, cz_cp_o _ _ _ _ _ _ (by omega)]
    have := cz_cp_s (cz_cp I 127 0 127 12 ((12 : Nat) : Int)) 128 0 128 2 i
    rw [Int.zero_add] at this; exact this) (by
    intro J hJ
    rw [B198_31]
    simp (disch := omega) only [GA, GR, GRc, GO, GI, GL, GV, am_w_i, am_ga, am_it, am_if, true_and, and_true, or_true, true_or, ne_eq, not_false_eq_true, not_true_eq_false, false_imp_iff, true_imp_iff, Int.reduceEq, Int.reduceLT, Int.reduceLE, Int.reduceAdd, Int.reduceSub, Int.reduceMul, Int.reduceNeg]
    exact k3 0 J (Nat.zero_le _) (by rw [hJ]; exact (cz_cp_0 _ _ _ _ _).symm))
  have k1 := am_loop (α := (Nat → Int → Int)) 12 (fun i J => am_WP (d + 1) 198 2 [some (vR (some 99)), some (vI (i : Int))] [] (mkH w J L) (fun r' h' => r' = none ∧ h' = mkH w (cz_lt I) L)) (fun i J => J = cz_cp I 127 0 127 12 i) (by
    intro i J hi hJ ih
    rw [B198_2]
    simp (disch := omega) only [Kk, Ks, B198_23, GA, GR, GRc, GO, GI, GL, GV, am_w_i, am_ga, am_it, am_if, true_and, and_true, or_true, true_or, ne_eq, not_false_eq_true, not_true_eq_false, false_imp_iff, true_imp_iff, Int.reduceEq, Int.reduceLT, Int.reduceLE, Int.reduceAdd, Int.reduceSub, Int.reduceMul, Int.reduceNeg]
    refine ih _ ?_
    rw [hJ, cz_cp_o _ _ _ _ _ _ (by omega)]
    have := cz_cp_s I 127 0 127 12 i
    rw [Int.zero_add] at this; exact this) (by
    intro J hJ
    rw [B198_2]
    simp (disch := omega) only [GA, GR, GRc, GO, GI, GL, GV, am_w_i, am_ga, am_it, am_if, true_and, and_true, or_true, true_or, ne_eq, not_false_eq_true, not_true_eq_false, false_imp_iff, true_imp_iff, Int.reduceEq, Int.reduceLT, Int.reduceLE, Int.reduceAdd, Int.reduceSub, Int.reduceMul, Int.reduceNeg]
    exact k2 0 J (Nat.zero_le _) (by rw [hJ]; exact (cz_cp_0 _ _ _ _ _).symm))
  exact k1 0 I (Nat.zero_le _) (cz_cp_0 _ _ _ _ _).symm
/-- what stays when a try is laid: all but 99's flags and the second halves -/
theorem cz_lt_at {I : (Nat → Int → Int)} : (∀ a, a ≠ 99 → (a < 127 ∨ 131 < a) → cz_lt I a = I a) ∧ (∀ j, j < 60 ∨ 68 ≤ j → cz_lt I 99 j = I 99 j) ∧ MFl (cz_lt I) (FT 1) ∧ FB I (cz_lt I) := by
  obtain ⟨a, b, c⟩ := cz_pl_at (I := am_up (am_up (cz_cp (cz_cp (cz_cp I 127 0 127 12 ((12 : Nat) : Int)) 128 0 128 2 ((2 : Nat) : Int)) 129 0 129 12 ((12 : Nat) : Int)) 130 1 (I 130 0)) 131 1 (I 131 0))
  refine ⟨fun q x y => ?_, fun j hj => ?_, c, ?_⟩
  · unfold cz_lt; rw [a q x]; simp (disch := omega) only [am_up_a, cz_cp_a]
  · unfold cz_lt; rw [b j hj]; simp (disch := omega) only [am_up_a, cz_cp_a]
  · unfold cz_lt FB
    rw [a 127 (by decide), a 128 (by decide), a 129 (by decide), a 130 (by decide), a 131 (by decide)]
    refine ⟨fun j x y => ?_, fun j x y => ?_, fun j x y => ?_, ?_, ?_⟩
    · simp (disch := decide) only [am_up_a, cz_cp_a]; exact cz_cp_o _ _ _ _ _ _ (by omega)
    · simp (disch := decide) only [am_up_a, cz_cp_a]; rw [cz_cp_o _ _ _ _ _ _ (by omega)]; simp (disch := decide) only [cz_cp_a]
    · simp (disch := decide) only [am_up_a, cz_cp_a]; rw [cz_cp_o _ _ _ _ _ _ (by omega)]; simp (disch := decide) only [cz_cp_a]
    · simp (disch := decide) only [am_up_a, am_up_n, cz_cp_a]
    · simp (disch := decide) only [am_up_a, am_up_n, cz_cp_a]
theorem MS.lt {I L : (Nat → Int → Int)} {σ : (Nat → Int → Int)} (h : MS I L 0 σ) : MS (cz_lt I) L 1 σ := by
  obtain ⟨p, q, r, s1, s2, s3⟩ := h
  unfold cz_lt
  refine MS.pl ?_
  refine ⟨fun j x y => ?_, fun j x y => ?_, fun j x y => ?_, ?_, ?_, s3⟩
  · simp (disch := decide) only [am_up_a, cz_cp_a]
    rw [cz_cp_b _ _ _ _ _ _ (by omega) (by omega), ← p j x y]; congr 1; omega
  · simp (disch := decide) only [am_up_a, cz_cp_a]
    rw [cz_cp_b _ _ _ _ _ _ (by omega) (by omega)]
    simp (disch := decide) only [cz_cp_a]
    rw [← q j x y]; congr 1; omega
  · simp (disch := decide) only [am_up_a, cz_cp_a]
    rw [cz_cp_b _ _ _ _ _ _ (by omega) (by omega)]
    simp (disch := decide) only [cz_cp_a]
    rw [← r j x y]; congr 1; omega
  · rw [am_up_s]; exact s1
  · rw [am_up_a _ _ _ _ (by decide), am_up_s]; exact s2
theorem MC.lt {I V : (Nat → Int → Int)} {lw : Int → (Int → Int) → Int} (h1 : MW I V) (h2 : ML I lw) (h3 : WV V) : MC (cz_lt I) V lw (FT 1) := by
  obtain ⟨a, b, c, _⟩ := cz_lt_at (I := I)
  exact ⟨h1.fr (fun q x y => a q (by omega) (by omega)) (fun j _ _ => b j (by omega)), h2.fr (fun q x y => a q (by omega) (by omega)), h3, c, FT_WF⟩
/-- a bank at its start -/
def cz_af (I : (Nat → Int → Int)) (b : Int) : (Nat → Int → Int) := am_up (am_up (fun c j => if c = 129 ∧ 12 * b ≤ j ∧ j < 12 * b + 12 then 0 else cz_cp (cz_cp I 106 0 127 (12 * b) ((12 : Nat) : Int)) 116 0 128 (2 * b) ((2 : Nat) : Int) c j) 130 b 0) 131 b 0
theorem s196 {d : Nat} {w : Nat × Nat × Nat × Nat} {I L : Nat → Int → Int} {b : Int} (hb : b = 0 ∨ b = 1) (Q : Option am_V → am_H → Prop) : am_Sp d 196 [vR (some 99), vI b] (mkH w I L) Q ↔ Q none (mkH w (cz_af I b) L) := by
  refine am_det ?_ Q
  rw [S196]
  have k3 := am_loop (α := (Nat → Int → Int)) 12 (fun i J => am_WP d 196 62 [some (vR (some 99)), some (vI b), some (vI (i : Int))] [] (mkH w J L) (fun r' h' => r' = none ∧ h' = mkH w (cz_af I b) L)) (fun i J => J = fun c j => if c = 129 ∧ 12 * b ≤ j ∧ j < 12 * b + (i : Int) then 0 else cz_cp (cz_cp I 106 0 127 (12 * b) ((12 : Nat) : Int)) 116 0 128 (2 * b) ((2 : Nat) : Int) c j) (by
    intro i J hi hJ ih
    rw [B196_62]
    simp (disch := omega) only [Kk, Ks, B196_80, GA, GR, GRc, GO, GI, GL, GV, am_w_i, am_ga, am_it, am_if, true_and, and_true, or_true, true_or, ne_eq, not_false_eq_true, not_true_eq_false, false_imp_iff, true_imp_iff, Int.reduceEq, Int.reduceLT, Int.reduceLE, Int.reduceAdd, Int.reduceSub, Int.reduceMul, Int.reduceNeg]
    refine ih _ ?_
    rw [hJ]; funext c j; unfold am_up
    by_cases h : c = 129 ∧ j = 12 * b + i
    · rw [if_pos h, if_pos (by omega)]
    · rw [if_neg h]
      dsimp only
      by_cases h2 : c = 129 ∧ 12 * b ≤ j ∧ j < 12 * b + (i : Int)
      · rw [if_pos h2, if_pos (by omega)]
      · rw [if_neg h2, if_neg (by omega)]) (by
    intro J hJ
    rw [B196_62]
    simp (disch := omega) only [Kk, Ks, B196_93, GA, GR, GRc, GO, GI, GL, GV, am_w_i, am_ga, am_it, am_if, true_and, and_true, or_true, true_or, ne_eq, not_false_eq_true, not_true_eq_false, false_imp_iff, true_imp_iff, Int.reduceEq, Int.reduceLT, Int.reduceLE, Int.reduceAdd, Int.reduceSub, Int.reduceMul, Int.reduceNeg]
    rw [hJ]; rfl)
  have k2 := am_loop (α := (Nat → Int → Int)) 2 (fun i J => am_WP d 196 33 [some (vR (some 99)), some (vI b), some (vI (i : Int))] [] (mkH w J L) (fun r' h' => r' = none ∧ h' = mkH w (cz_af I b) L)) (fun i J => J = cz_cp (cz_cp I 106 0 127 (12 * b) ((12 : Nat) : Int)) 116 0 128 (2 * b) i) (by
    intro i J hi hJ ih
    rw [B196_33]
    simp (disch := omega) only [Kk, Ks, Kw, B196_54, GA, GR, GRc, GO, GI, GL, GV, am_w_i, am_ga, am_it, am_if, true_and, and_true, or_true, true_or, ne_eq, not_false_eq_true, not_true_eq_false, false_imp_iff, true_imp_iff, Int.reduceEq, Int.reduceLT, Int.reduceLE, Int.reduceAdd, Int.reduceSub, Int.reduceMul, Int.reduceNeg]
    refine ih _ ?_
    rw [hJ, cz_cp_a _ _ _ _ _ _ (by decide)]
    have := cz_cp_s (cz_cp I 106 0 127 (12 * b) ((12 : Nat) : Int)) 116 0 128 (2 * b) i
    rw [Int.zero_add] at this; exact this) (by
    intro J hJ
    rw [B196_33]
    simp (disch := omega) only [GA, GR, GRc, GO, GI, GL, GV, am_w_i, am_ga, am_it, am_if, true_and, and_true, or_true, true_or, ne_eq, not_false_eq_true, not_true_eq_false, false_imp_iff, true_imp_iff, Int.reduceEq, Int.reduceLT, Int.reduceLE, Int.reduceAdd, Int.reduceSub, Int.reduceMul, Int.reduceNeg]
    exact k3 0 J (Nat.zero_le _) (by rw [hJ]; funext c j; rw [if_neg (by omega)]))
  have k1 := am_loop (α := (Nat → Int → Int)) 12 (fun i J => am_WP d 196 2 [some (vR (some 99)), some (vI b), some (vI (i : Int))] [] (mkH w J L) (fun r' h' => r' = none ∧ h' = mkH w (cz_af I b) L)) (fun i J => J = cz_cp I 106 0 127 (12 * b) i) (by
    intro i J hi hJ ih
    rw [B196_2]
    simp (disch := omega) only [Kk, Ks, Kw, B196_25, GA, GR, GRc, GO, GI, GL, GV, am_w_i, am_ga, am_it, am_if, true_and, and_true, or_true, true_or, ne_eq, not_false_eq_true, not_true_eq_false, false_imp_iff, true_imp_iff, Int.reduceEq, Int.reduceLT, Int.reduceLE, Int.reduceAdd, Int.reduceSub, Int.reduceMul, Int.reduceNeg]
    refine ih _ ?_
    rw [hJ, cz_cp_a _ _ _ _ _ _ (by decide)]
    have := cz_cp_s I 106 0 127 (12 * b) i
    rw [Int.zero_add] at this; exact this) (by
    intro J hJ
    rw [B196_2]
    simp (disch := omega) only [GA, GR, GRc, GO, GI, GL, GV, am_w_i, am_ga, am_it, am_if, true_and, and_true, or_true, true_or, ne_eq, not_false_eq_true, not_true_eq_false, false_imp_iff, true_imp_iff, Int.reduceEq, Int.reduceLT, Int.reduceLE, Int.reduceAdd, Int.reduceSub, Int.reduceMul, Int.reduceNeg]
    exact k2 0 J (Nat.zero_le _) (by rw [hJ]; exact (cz_cp_0 _ _ _ _ _).symm))
  exact k1 0 I (Nat.zero_le _) (cz_cp_0 _ _ _ _ _).symm
theorem cz_af_at {I : (Nat → Int → Int)} {b : Int} : (∀ a, (a < 127 ∨ 131 < a) → cz_af I b a = I a) ∧ (b = 1 → FB I (cz_af I b)) := by
  refine ⟨fun q y => ?_, fun hb => ?_⟩
  · unfold cz_af; simp (disch := omega) only [am_up_a]
    funext j; rw [if_neg (by omega)]; simp (disch := omega) only [cz_cp_a]
  · subst hb
    unfold cz_af FB
    refine ⟨fun j x y => ?_, fun j x y => ?_, fun j x y => ?_, ?_, ?_⟩
    · simp (disch := decide) only [am_up_a]; rw [if_neg (by omega)]
      simp (disch := decide) only [cz_cp_a]; exact cz_cp_o _ _ _ _ _ _ (by omega)
    · simp (disch := decide) only [am_up_a]; rw [if_neg (by omega)]
      rw [cz_cp_o _ _ _ _ _ _ (by omega)]; simp (disch := decide) only [cz_cp_a]
    · simp (disch := decide) only [am_up_a]; rw [if_neg (by omega)]
      simp (disch := decide) only [cz_cp_a]
    · rw [am_up_a _ _ _ _ (by decide), am_up_n _ _ _ _ (by decide), if_neg (by omega)]; simp (disch := decide) only [cz_cp_a]
    · rw [am_up_n _ _ _ _ (by decide), am_up_a _ _ _ _ (by decide), if_neg (by omega)]; simp (disch := decide) only [cz_cp_a]
theorem MS.af {I L V : (Nat → Int → Int)} {b : Int} (h : MW I V) : MS (cz_af I b) L b (am_up (px_beg V) 0 8 (L 99 59)) := by
  obtain ⟨-, -, -, -, h5, h6, -, -⟩ := h
  unfold cz_af
  refine ⟨fun j x y => ?_, fun j x y => ?_, fun j x y => ?_, ?_, ?_, ?_⟩
  · simp (disch := decide) only [am_up_a]; rw [if_neg (by omega)]
    simp (disch := decide) only [cz_cp_a]
    rw [cz_cp_b _ _ _ _ _ _ (by omega) (by omega), show 0 + (12 * b + j - 12 * b) = j by omega, h6 j x y]; rfl
  · simp (disch := decide) only [am_up_a]; rw [if_neg (by omega)]
    rw [cz_cp_b _ _ _ _ _ _ (by omega) (by omega), show 0 + (2 * b + j - 2 * b) = j by omega]
    simp (disch := decide) only [cz_cp_a]
    rw [(h5 j x y).2]; rfl
  · rw [am_up_a _ _ _ _ (by decide), am_up_a _ _ _ _ (by decide), am_up_a _ _ _ _ (by decide)]
    show (if 129 = 129 ∧ 12 * b ≤ 12 * b + j ∧ 12 * b + j < 12 * b + 12 then (0 : Int) else _) = 0
    rw [if_pos ⟨rfl, by omega, by omega⟩]
  · rw [am_up_s]; rfl
  · rw [am_up_a _ _ _ _ (by decide), am_up_s]; rfl
  · rw [am_up_s]
