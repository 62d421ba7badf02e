/-! 69: keep, back -/
theorem GR0.im {V : (Nat → Int → Int)} {lw : (Int → (Int → Int) → Int)} {σ : (Nat → Int → Int)} {n f g : Int} {w : (Nat × Nat × Nat × Nat)} {I L I' L' : (Nat → Int → Int)} (h : GR0 V lw σ n f g w I L) (hf : ∀ a, a ≠ 0 → ¬ (59 ≤ a ∧ a ≤ 62) → a ≠ 99 → a ≠ 137 → a ≠ 138 → I' a = I a) (h0 : ∀ j, j ≠ 10 → I' 0 j = I 0 j) (hg : ∀ j, j ≠ 2 → j ≠ 76 → I' 99 j = I 99 j) (hl : L' 99 59 = L 99 59) (hi : GIm V I' L') : GR0 V lw σ n f g w I' L' := by
  obtain ⟨⟨⟨b1, b2, b3, b4, b5, b6⟩, c1, c2, c3, c4, c5⟩, a2, a3, a4, a5, a6, a7, a8, a9, a10⟩ := h
  have hle := isW_le b1
  refine ⟨⟨⟨b1, b2.fr (fun q x y => hf q (by omega) (by omega) (by omega) (by omega) (by omega)), b3.fr (fun q x y => hf q (by omega) (by omega) (by omega) (by omega) (by omega)), b4, b5.fr (fun q x y => hf q (by omega) (by omega) (by omega) (by omega) (by omega)) (fun j x y => hg j (by omega) (by omega)), b6.fr (fun q x y => hf q (by omega) (by omega) (by omega) (by omega) (by omega))⟩, c1.fr (fun q x y => hf q (by omega) (by omega) (by omega) (by omega) (by omega)), c2.fb ⟨fun _ _ _ => by rw [hf 127 (by decide) (by decide) (by decide) (by decide) (by decide)], fun _ _ _ => by rw [hf 128 (by decide) (by decide) (by decide) (by decide) (by decide)], fun _ _ _ => by rw [hf 129 (by decide) (by decide) (by decide) (by decide) (by decide)], by rw [hf 130 (by decide) (by decide) (by decide) (by decide) (by decide)], by rw [hf 131 (by decide) (by decide) (by decide) (by decide) (by decide)]⟩ hl, c3, c4, c5.fr (hf 54 (by decide) (by decide) (by decide) (by decide) (by decide)) ?_⟩, a2, a3, ?_, ?_, hi, ?_, ?_, ?_, ?_⟩
  · rw [hf 51 (by decide) (by decide) (by decide) (by decide) (by decide)]; exact ⟨rfl, rfl, rfl⟩
  · exact a4.fr (h0 1 (by decide)) (hg 1 (by decide) (by decide)) (hf 1 (by decide) (by decide) (by decide) (by decide) (by decide)) (hf 100 (by decide) (by decide) (by decide) (by decide) (by decide))
  · unfold GF at a5 ⊢; rw [h0 2 (by decide), h0 3 (by decide), hg 4 (by decide) (by decide), hg 5 (by decide) (by decide)]; exact a5
  · exact a7.fr (by rw [hf 90 (by decide) (by decide) (by decide) (by decide) (by decide)]) (hg 74 (by decide) (by decide)) (hf 91 (by decide) (by decide) (by decide) (by decide) (by decide)) (hf 136 (by decide) (by decide) (by decide) (by decide) (by decide))
  · obtain ⟨T, m, kb, d1, d2, d3⟩ := a8
    exact ⟨T, m, kb, d1.fr (fun a x y => hf a (by omega) (by omega) (by omega) (by omega) (by omega)), d2.fr (hg 70 (by decide) (by decide)) (hg 71 (by decide) (by decide)) (hf 134 (by decide) (by decide) (by decide) (by decide) (by decide)), d3⟩
  · exact a9.fr (hf 64 (by decide) (by decide) (by decide) (by decide) (by decide)) (hf 65 (by decide) (by decide) (by decide) (by decide) (by decide))
  · unfold GX at a10 ⊢; rw [hf 49 (by decide) (by decide) (by decide) (by decide) (by decide), hf 101 (by decide) (by decide) (by decide) (by decide) (by decide)]; exact a10
theorem is51 : isS 51 := Or.inl rfl
theorem is59 : isS 59 := Or.inr (Or.inr (Or.inl rfl))
set_option maxHeartbeats 1000000 in
theorem p_keep : PM 147 277 [] := by
  intro d w I L hG
  obtain ⟨V, lw, σ, n, f, g, G⟩ := hG
  obtain ⟨⟨hw, hR, hL, hV, hM, hN⟩, rS, mS, wS, ny, ct⟩ := G.1
  have h12 := hV.1.2.2
  have cc := cz_copy_at (I := I) (s := 59) (t := 51) (by omega)
  have r59 := rS.copy (s := 59) (t := 51) (by omega)
  have c59 := ct.copy (s := 59) (t := 51) (by omega) (by omega)
  rw [S147]
  simp (disch := omega) only [KX, HS is51, HS is59, s58 is59 is51 (by decide), B147_16, GA, GR, GRc, GO, GI, GL, GV, am_w_i, am_ga, am_it, am_if, true_and, and_true, or_true, true_or, ne_eq, not_false_eq_true, not_true_eq_false, false_imp_iff, true_imp_iff, Int.reduceEq, Int.reduceLT, Int.reduceLE, Int.reduceAdd, Int.reduceSub, Int.reduceMul, Int.reduceNeg]
  have cf := cc.2.2.2.2
  generalize cz_copy I 59 51 = I1 at *
  have e3 : am_up I1 0 10 1 51 3 = σ 0 3 := by rw [am_up_a _ _ _ _ (by decide), cf 51 (by decide)]; exact rS.2.2.2.1
  rw [e3, S277]
  have mJ : MS (am_up (am_up (am_up I1 0 10 1) 99 2 0) 99 76 1) L 0 σ := mS.k (fun a _ _ => by rw [am_up_a _ _ _ _ (by omega), am_up_a _ _ _ _ (by omega), am_up_a _ _ _ _ (by omega), cf a (by omega)])
  simp (disch := omega) only [Kk, B277_5, B277_10, Ku, GA, GR, GRc, GO, GI, GL, GV, am_w_i, am_ga, am_it, am_if, true_and, and_true, or_true, true_or, ne_eq, not_false_eq_true, not_true_eq_false, false_imp_iff, true_imp_iff, Int.reduceEq, Int.reduceLT, Int.reduceLE, Int.reduceAdd, Int.reduceSub, Int.reduceMul, Int.reduceNeg]
  refine s273 (a := 137) (ln := 14) (b := 0) mJ ⟨by decide, by decide⟩ (fun J => by simp only [Ku]) (fun J => by simp only [Ku]; rfl) (by omega) (by omega) (by omega) (fun I2 k1 k2 k3 k4 k5 => ?_)
  simp only [Int.zero_add] at k1 k2 k3
  have mI : MS I2 L 0 σ := mJ.k (fun a _ _ => k5 a (by omega))
  simp (disch := omega) only [GA, GR, GRc, GO, GI, GL, GV, am_w_i, am_ga, am_it, am_if, true_and, and_true, or_true, true_or, ne_eq, not_false_eq_true, not_true_eq_false, false_imp_iff, true_imp_iff, Int.reduceEq, Int.reduceLT, Int.reduceLE, Int.reduceAdd, Int.reduceSub, Int.reduceMul, Int.reduceNeg]
  refine am_loop (α := (Nat → Int → Int)) 12 (fun i J => am_WP (d + 20) 277 21 [some (vR (some 99)), some (vI (i : Int))] [] (mkH w J L) (fun r' h2 => r' = some (vI (σ 0 3)) ∧ some (vI (σ 0 3)) ≠ none ∧ ∃ w2 I2 L2, h2 = mkH w2 I2 L2 ∧ GG w2 I2 L2)) (fun i J => (∀ j, 0 ≤ j → j < (i : Int) → J 138 j = σ 3 j) ∧ Fr (fun x => x = 138) I2 J) ?_ ?_ 0 I2 (Nat.zero_le _) ⟨fun j h1 h2 => by omega, Fr.rf⟩
  · intro i J hi ⟨j1, j3⟩ ih
    have e : J 129 i = σ 3 i := by rw [j3 129 (by decide)]; exact mI.o0 (by omega) (by omega)
    rw [B277_21]
    simp (disch := omega) only [Kk, Ks, Ku, e, B277_39, GA, GR, GRc, GO, GI, GL, GV, am_w_i, am_ga, am_it, am_if, true_and, and_true, or_true, true_or, ne_eq, not_false_eq_true, not_true_eq_false, false_imp_iff, true_imp_iff, Int.reduceEq, Int.reduceLT, Int.reduceLE, Int.reduceAdd, Int.reduceSub, Int.reduceMul, Int.reduceNeg]
    refine ih _ ⟨fun j h1 h2 => ?_, j3.up rfl⟩
    by_cases ej : j = i
    · subst ej; rw [am_up_s]
    · rw [am_up_n _ _ _ _ (by omega)]; exact j1 j h1 (by omega)
  · intro J ⟨j1, j3⟩
    have e0 : J 130 0 = σ 0 4 := by rw [j3 130 (by decide)]; exact mI.2.2.2.2.1
    have e1 : J 131 0 = σ 0 3 := by rw [j3 131 (by decide)]; exact mI.2.2.2.1
    have el : L 99 59 = σ 0 8 := mI.2.2.2.2.2
    rw [B277_21]
    simp (disch := omega) only [Kk, Ks, Ku, e0, e1, B277_58, am_up_a, B277_71, B277_79, GA, GR, GRc, GO, GI, GL, GV, am_w_i, am_ga, am_it, am_if, true_and, and_true, or_true, true_or, ne_eq, not_false_eq_true, not_true_eq_false, false_imp_iff, true_imp_iff, Int.reduceEq, Int.reduceLT, Int.reduceLE, Int.reduceAdd, Int.reduceSub, Int.reduceMul, Int.reduceNeg]
    have fr : ∀ a, a ≠ 138 → a ≠ 137 → a ≠ 99 → a ≠ 0 → ¬ (59 ≤ a ∧ a ≤ 62) → J a = I a := fun a x1 x2 x3 x4 x5 => by rw [j3 a x1, k5 a x2, am_up_a _ _ _ _ x3, am_up_a _ _ _ _ x3, am_up_a _ _ _ _ x4, cf a (by omega)]
    have f59 : ∀ a, 59 ≤ a → a ≤ 62 → J a = I1 a := fun a x1 x2 => by rw [j3 a (by omega), k5 a (by omega), am_up_a _ _ _ _ (by omega), am_up_a _ _ _ _ (by omega), am_up_a _ _ _ _ (by omega)]
    have f0 : J 0 = am_up I1 0 10 1 0 := by rw [j3 0 (by decide), k5 0 (by decide), am_up_a _ _ _ _ (by decide), am_up_a _ _ _ _ (by decide)]
    have f9 : J 99 = am_up (am_up (am_up I1 0 10 1) 99 2 0) 99 76 1 99 := by rw [j3 99 (by decide), k5 99 (by decide)]
    have f37 : J 137 = I2 137 := j3 137 (by decide)
    refine ⟨by simp, w, _, _, rfl, V, lw, σ, n, f, g, G.im (fun a x1 x2 x3 x4 x5 => ?_) (fun j hj => ?_) (fun j hj hj2 => ?_) ?_ ⟨?_, ?_, fun _ => ⟨σ, ?_, ?_, fun j j0 j1' => ⟨?_, ?_⟩, ⟨?_, ?_, ?_, ?_, ?_⟩, wS, ny, G.2.1⟩⟩⟩
    · rw [am_up_a _ _ _ _ x5, am_up_a _ _ _ _ x5]; exact fr a x5 x4 x3 x1 x2
    · rw [am_up_a _ _ _ _ (by decide), am_up_a _ _ _ _ (by decide), f0, am_up_n _ _ _ _ hj, cf 0 (by decide)]
    · rw [am_up_a _ _ _ _ (by decide), am_up_a _ _ _ _ (by decide), f9, am_up_n _ _ _ _ hj2, am_up_n _ _ _ _ hj, am_up_a _ _ _ _ (by decide), cf 99 (by decide)]
    · rw [am_up_n _ _ _ _ (by decide)]
    · simp (disch := decide) only [am_up_a]; rw [f0, f9, am_up_s, am_up_s]
    · simp (disch := decide) only [am_up_a]; rw [f0, am_up_s]; exact Or.inr rfl
    · exact r59.fr (fun a _ _ => by rw [am_up_a _ _ _ _ (by omega), am_up_a _ _ _ _ (by omega)]; exact f59 a (by omega) (by omega))
    · refine c59.fr ?_ ⟨?_, ?_, ?_⟩ <;> rw [am_up_a _ _ _ _ (by omega), am_up_a _ _ _ _ (by omega), f59 _ (by omega) (by omega)]
    · rw [am_up_a _ _ _ _ (by omega), am_up_a _ _ _ _ (by omega), f37]; exact k1 j j0 j1'
    · rw [am_up_n _ _ _ _ (by omega), am_up_n _ _ _ _ (by omega)]; exact j1 j j0 j1'
    · rw [am_up_a _ _ _ _ (by omega), am_up_a _ _ _ _ (by omega), f37]; exact k2
    · rw [am_up_a _ _ _ _ (by omega), am_up_a _ _ _ _ (by omega), f37]; exact k3
    · rw [am_up_n _ _ _ _ (by omega), am_up_s]
    · rw [am_up_s]
    · rw [am_up_s]; exact el
set_option maxHeartbeats 1000000 in
theorem p_back : PM 148 278 [] := by
  intro d w I L hG
  have no := fun r => PM.no (d := d) (j1 := 148) (j2 := 278) (as := []) r hG
  obtain ⟨V, lw, σ0, n, f, g, G⟩ := hG
  have hV := G.1.1.2.2.2.1
  obtain ⟨i1, i2, i3⟩ := G.2.2.2.2.2.1
  by_cases c : I 0 10 = 1
  · have c9 : I 99 76 = 1 := by rw [← i1]; exact c
    obtain ⟨σ, r59, c59, q1, q2, wS, ny, dn⟩ := i3 c
    have h12 := hV.1.2.2
    have cc := cz_copy_at (I := I) (s := 51) (t := 59) (by omega)
    have r51 := r59.copy (s := 51) (t := 59) (by omega)
    have c51 := c59.copy (s := 51) (t := 59) (by omega) (by omega)
    rw [S148]
    simp (disch := omega) only [KX, c, HS is51, HS is59, s58 is51 is59 (by decide), KG, S18, KP, KN, B148_35, GA, GR, GRc, GO, GI, GL, GV, am_w_i, am_ga, am_it, am_if, true_and, and_true, or_true, true_or, ne_eq, not_false_eq_true, not_true_eq_false, false_imp_iff, true_imp_iff, Int.reduceEq, Int.reduceLT, Int.reduceLE, Int.reduceAdd, Int.reduceSub, Int.reduceMul, Int.reduceNeg]
    have cf := cc.2.2.2.2
    generalize cz_copy I 51 59 = I1 at *
    have e3 : am_up (am_up I1 90 0 0) 64 0 0 51 3 = σ 0 3 := by rw [am_up_a _ _ _ _ (by decide), am_up_a _ _ _ _ (by decide)]; exact r51.2.2.2.1
    rw [e3, S278]
    have e76 : am_up (am_up (am_up I1 90 0 0) 64 0 0) 99 2 0 99 76 = 1 := by rw [am_up_n _ _ _ _ (by decide), am_up_a _ _ _ _ (by decide), am_up_a _ _ _ _ (by decide), cf 99 (by decide)]; exact c9
    simp (disch := omega) only [Kk, B278_5, Ku, e76, GA, GR, GRc, GO, GI, GL, GV, am_w_i, am_ga, am_it, am_if, true_and, and_true, or_true, true_or, ne_eq, not_false_eq_true, not_true_eq_false, false_imp_iff, true_imp_iff, Int.reduceEq, Int.reduceLT, Int.reduceLE, Int.reduceAdd, Int.reduceSub, Int.reduceMul, Int.reduceNeg]
    refine s274 (a := 137) (ln := 14) (b := 0) ⟨by decide, by decide⟩ (fun J => by simp only [Ku]) (fun J => by simp only [Ku]; rfl) (by omega) (by omega) (by omega) (fun I2 k1 k2 k3 k4 => ?_)
    simp only [Int.zero_add] at k1 k2 k3
    rw [am_up_a _ _ _ _ (by decide), am_up_a _ _ _ _ (by decide), am_up_a _ _ _ _ (by decide), cf 137 (by decide)] at k1 k2 k3
    have f38 : I2 138 = I 138 := by rw [k4 138 (by decide), am_up_a _ _ _ _ (by decide), am_up_a _ _ _ _ (by decide), am_up_a _ _ _ _ (by decide), cf 138 (by decide)]
    simp (disch := omega) only [GA, GR, GRc, GO, GI, GL, GV, am_w_i, am_ga, am_it, am_if, true_and, and_true, or_true, true_or, ne_eq, not_false_eq_true, not_true_eq_false, false_imp_iff, true_imp_iff, Int.reduceEq, Int.reduceLT, Int.reduceLE, Int.reduceAdd, Int.reduceSub, Int.reduceMul, Int.reduceNeg]
    refine am_loop (α := (Nat → Int → Int)) 12 (fun i J => am_WP (d + 20) 278 25 [some (vR (some 99)), some (vI (i : Int))] [] (mkH w J L) (fun r' h2 => r' = some (vI (σ 0 3)) ∧ some (vI (σ 0 3)) ≠ none ∧ ∃ w2 I2 L2, h2 = mkH w2 I2 L2 ∧ GG w2 I2 L2)) (fun i J => (∀ j, 0 ≤ j → j < (i : Int) → J 129 j = σ 3 j) ∧ Fr (fun x => x = 129) I2 J) ?_ ?_ 0 I2 (Nat.zero_le _) ⟨fun j h1 h2 => by omega, Fr.rf⟩
    · intro i J hi ⟨j1, j3⟩ ih
      have e : J 138 i = σ 3 i := by rw [j3 138 (by decide), f38]; exact (q1 i (by omega) (by omega)).2
      rw [B278_25]
      simp (disch := omega) only [Kk, Ks, Ku, e, B278_43, GA, GR, GRc, GO, GI, GL, GV, am_w_i, am_ga, am_it, am_if, true_and, and_true, or_true, true_or, ne_eq, not_false_eq_true, not_true_eq_false, false_imp_iff, true_imp_iff, Int.reduceEq, Int.reduceLT, Int.reduceLE, Int.reduceAdd, Int.reduceSub, Int.reduceMul, Int.reduceNeg]
      refine ih _ ⟨fun j h1 h2 => ?_, j3.up rfl⟩
      by_cases ej : j = i
      · subst ej; rw [am_up_s]
      · rw [am_up_n _ _ _ _ (by omega)]; exact j1 j h1 (by omega)
    · intro J ⟨j1, j3⟩
      have e0 : J 138 12 = σ 0 4 := by rw [j3 138 (by decide), f38]; exact q2.2.2.1
      have e1 : J 138 13 = σ 0 3 := by rw [j3 138 (by decide), f38]; exact q2.2.2.2.1
      have el : L 99 79 = σ 0 8 := q2.2.2.2.2
      rw [B278_25]
      simp (disch := omega) only [Kk, Ks, Ku, e0, e1, B278_62, am_up_a, B278_75, B278_83, B278_88, am_up_s, GA, GR, GRc, GO, GI, GL, GV, am_w_i, am_ga, am_it, am_if, true_and, and_true, or_true, true_or, ne_eq, not_false_eq_true, not_true_eq_false, false_imp_iff, true_imp_iff, Int.reduceEq, Int.reduceLT, Int.reduceLE, Int.reduceAdd, Int.reduceSub, Int.reduceMul, Int.reduceNeg]
      have fr : ∀ a, a ≠ 129 → a ≠ 127 → a ≠ 128 → a ≠ 99 → a ≠ 64 → a ≠ 90 → ¬ (51 ≤ a ∧ a ≤ 54) → J a = I a := fun a x1 x2 x3 x4 x5 x6 x7 => by rw [j3 a x1, k4 a (by omega), am_up_a _ _ _ _ x4, am_up_a _ _ _ _ x5, am_up_a _ _ _ _ x6, cf a (by omega)]
      have f51 : ∀ a, 51 ≤ a → a ≤ 54 → J a = I1 a := fun a x1 x2 => by rw [j3 a (by omega), k4 a (by omega), am_up_a _ _ _ _ (by omega), am_up_a _ _ _ _ (by omega), am_up_a _ _ _ _ (by omega)]
      have f90 : J 90 0 = 0 := by rw [j3 90 (by decide), k4 90 (by decide), am_up_a _ _ _ _ (by decide), am_up_a _ _ _ _ (by decide), am_up_s]
      have f64 : J 64 0 = 0 := by rw [j3 64 (by decide), k4 64 (by decide), am_up_a _ _ _ _ (by decide), am_up_s]
      have f9 : ∀ j, j ≠ 2 → J 99 j = I 99 j := fun j hj => by rw [j3 99 (by decide), k4 99 (by decide), am_up_n _ _ _ _ hj, am_up_a _ _ _ _ (by decide), am_up_a _ _ _ _ (by decide), cf 99 (by decide)]
      have f27 : J 127 = I2 127 := j3 127 (by decide)
      have f28 : J 128 = I2 128 := j3 128 (by decide)
      refine ⟨by simp, w, _, _, rfl, V, lw, σ, n, f, g, G.nw ⟨0, by omega, ?_, am_up_s _ _ _ _, fun i hi => by omega⟩ ?_ ⟨fun j j0 j1' => ?_, fun j j0 j1' => ?_, fun j j0 j1' => ?_, ?_, ?_, ?_⟩ wS ny dn ?_ (GPl.no ?_) ⟨fun a ha => ?_, fun j hj => ?_⟩ ?_ ⟨rfl, rfl⟩⟩
      · simp (disch := decide) only [am_up_a]; exact f90
      · exact r51.fr (fun a _ _ => by simp (disch := omega) only [am_up_a]; exact f51 a (by omega) (by omega))
      · simp (disch := decide) only [am_up_a]; rw [show 12 * 0 + j = j by omega, f27, k1 j j0 j1']; exact (q1 j j0 j1').1
      · simp (disch := decide) only [am_up_a]; rw [show 2 * 0 + j = j by omega, f28]
        rcases (show j = 0 ∨ j = 1 by omega) with e | e <;> subst e
        · rw [k2]; exact q2.1
        · rw [k3]; exact q2.2.1
      · simp (disch := decide) only [am_up_a]; rw [show 12 * 0 + j = j by omega]; exact j1 j j0 j1'
      · simp (disch := decide) only [am_up_a]; rw [am_up_s]
      · simp (disch := decide) only [am_up_a]; rw [am_up_s]
      · rw [am_up_s]; exact el
      · refine c51.fr ?_ ⟨?_, ?_, ?_⟩ <;> (simp (disch := decide) only [am_up_a]; rw [f51 _ (by omega) (by omega)])
      · simp (disch := decide) only [am_up_a]; exact f64
      · simp (disch := omega) only [am_up_a]; exact fr a (by omega) (by omega) (by omega) (by omega) (by omega) (by omega) (by omega)
      · rw [am_up_n _ _ _ _ (by omega)]; simp (disch := decide) only [am_up_a]; exact f9 j (by omega)
      · rw [am_up_n _ _ _ _ (by decide)]
  · have c0 : I 0 10 = 0 := by omega
    have e76 : am_up I 99 2 0 99 76 = 0 := by rw [am_up_n _ _ _ _ (by decide), ← i1]; exact c0
    refine no (-1) ?_ ?_
    · rw [S148]
      simp (disch := omega) only [KX, c0, GA, GR, GRc, GO, GI, GL, GV, am_w_i, am_ga, am_it, am_if, true_and, and_true, or_true, true_or, ne_eq, not_false_eq_true, not_true_eq_false, false_imp_iff, true_imp_iff, Int.reduceEq, Int.reduceLT, Int.reduceLE, Int.reduceAdd, Int.reduceSub, Int.reduceMul, Int.reduceNeg]
    · rw [S278]
      simp (disch := omega) only [Kk, B278_5, e76, GA, GR, GRc, GO, GI, GL, GV, am_w_i, am_ga, am_it, am_if, true_and, and_true, or_true, true_or, ne_eq, not_false_eq_true, not_true_eq_false, false_imp_iff, true_imp_iff, Int.reduceEq, Int.reduceLT, Int.reduceLE, Int.reduceAdd, Int.reduceSub, Int.reduceMul, Int.reduceNeg]
