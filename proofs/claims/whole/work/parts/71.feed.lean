/-! 71: feed -/
theorem am_and255 (x : Int) : am_and x 255 = x % 256 := by
  unfold am_and
  have h : ((Int32.ofInt x &&& Int32.ofInt 255).toBitVec) = (BitVec.ofInt 32 x) &&& 255#32 := rfl
  rw [← Int32.toInt_toBitVec, h]
  have h2 : (BitVec.ofInt 32 x &&& 255#32).toNat = (x % 256).toNat := by
    rw [BitVec.toNat_and, BitVec.toNat_ofInt, show (255#32).toNat = 2 ^ 8 - 1 from rfl, Nat.and_two_pow_sub_one_eq_mod]
    omega
  rw [BitVec.toInt_eq_toNat_of_lt (by rw [h2]; omega), h2]
  omega
theorem am_wb_and (x : Int) : am_wb (am_and x 255) = am_wb (am_wb x) := by
  rw [am_and255]; unfold am_wb; omega
theorem GR0.tp {V : (Nat → Int → Int)} {lw : (Int → (Int → Int) → Int)} {σ : (Nat → Int → Int)} {n n' f g : Int} {w : (Nat × Nat × Nat × Nat)} {I L I' : (Nat → Int → Int)} (h : GR0 V lw σ n f g w I L) (hf : ∀ a, a ≠ 0 → a ≠ 1 → a ≠ 99 → a ≠ 100 → I' a = I a) (h0 : ∀ j, j ≠ 1 → I' 0 j = I 0 j) (hg : ∀ j, j ≠ 1 → j ≠ 2 → I' 99 j = I 99 j) (ht : GT n' I') : GR0 V lw σ n' f g w I' L := by
  obtain ⟨⟨⟨b1, b2, b3, b4, b5, b6⟩, c1, c2, c3, c4, c5⟩, a2, a3, a4, a5, a6, a7, a8, a9, a10⟩ := h
  have hle := isW_le b1
  refine ⟨⟨⟨b1, b2.fr (fun q x y => hf q (by omega) (by omega) (by omega) (by omega)), b3.fr (fun q x y => hf q (by omega) (by omega) (by omega) (by omega)), b4, b5.fr (fun q x y => hf q (by omega) (by omega) (by omega) (by omega)) (fun j x y => hg j (by omega) (by omega)), b6.fr (fun q x y => hf q (by omega) (by omega) (by omega) (by omega))⟩, c1.fr (fun q x y => hf q (by omega) (by omega) (by omega) (by omega)), c2.k (fun a _ _ => hf a (by omega) (by omega) (by omega) (by omega)), c3, c4, c5.fr (hf 54 (by decide) (by decide) (by decide) (by decide)) ?_⟩, a2, a3, ht, ?_, ?_, ?_, ?_, ?_, ?_⟩
  · rw [hf 51 (by decide) (by decide) (by decide) (by decide)]; exact ⟨rfl, rfl, rfl⟩
  · unfold GF at a5 ⊢; rw [h0 2 (by decide), h0 3 (by decide), hg 4 (by decide) (by decide), hg 5 (by decide) (by decide)]; exact a5
  · exact a6.fr (h0 10 (by decide)) (hg 76 (by decide) (by decide)) (fun a x y => hf a (by omega) (by omega) (by omega) (by omega)) (hf 137 (by decide) (by decide) (by decide) (by decide)) (hf 138 (by decide) (by decide) (by decide) (by decide)) rfl
  · exact a7.fr (by rw [hf 90 (by decide) (by decide) (by decide) (by decide)]) (hg 74 (by decide) (by decide)) (hf 91 (by decide) (by decide) (by decide) (by decide)) (hf 136 (by decide) (by decide) (by decide) (by decide))
  · obtain ⟨T, m, kb, d1, d2, d3⟩ := a8
    exact ⟨T, m, kb, d1.fr (fun a x y => hf a (by omega) (by omega) (by omega) (by omega)), d2.fr (hg 70 (by decide) (by decide)) (hg 71 (by decide) (by decide)) (hf 134 (by decide) (by decide) (by decide) (by decide)), d3⟩
  · exact a9.fr (hf 64 (by decide) (by decide) (by decide) (by decide)) (hf 65 (by decide) (by decide) (by decide) (by decide))
  · unfold GX at a10 ⊢; rw [hf 49 (by decide) (by decide) (by decide) (by decide), hf 101 (by decide) (by decide) (by decide) (by decide)]; exact a10
theorem s88 {d : Nat} {w : Nat × Nat × Nat × Nat} {I L : Nat → Int → Int} {n l : Int} (hn : I 0 1 = n) (h0 : 0 ≤ n) (h1 : n + 4 ≤ 700) {Q : Option am_V → am_H → Prop} (q : ∀ I', I' 0 1 = n + 4 → (∀ j : Int, 0 ≤ j → j < 4 → I' 1 (n + j) = am_wb (am_wb (am_shr l (24 - 8 * j)))) → (∀ j, j < n → I' 1 j = I 1 j) → (∀ a, a ≠ 0 → a ≠ 1 → I' a = I a) → (∀ j, j ≠ 1 → I' 0 j = I 0 j) → Q none (mkH w I' L)) : am_Sp d 88 [vR (some 0), vI l] (mkH w I L) Q := by
  rw [S88]
  refine am_loop (α := (Nat → Int → Int)) 4 (fun i J => am_WP d 88 3 [some (vR (some 0)), some (vI l), some (vI (24 - 8 * (i : Int)))] [] (mkH w J L) Q) (fun i J => J 0 1 = n + i ∧ (∀ j, 0 ≤ j → j < (i : Int) → J 1 (n + j) = am_wb (am_wb (am_shr l (24 - 8 * j)))) ∧ (∀ j, j < n → J 1 j = I 1 j) ∧ (∀ a, a ≠ 0 → a ≠ 1 → J a = I a) ∧ (∀ j, j ≠ 1 → J 0 j = I 0 j)) ?_ ?_ 0 I (Nat.zero_le _) ⟨by rw [hn]; omega, fun j h1 h2 => by omega, fun _ _ => rfl, fun _ _ _ => rfl, fun _ _ => rfl⟩
  · intro i J hi ⟨j1, j2, j3, j4, j5⟩ ih
    have e1 : am_up J 1 (n + (i : Int)) (am_wb (am_wb (am_shr l (24 - 8 * (i : Int))))) 0 1 = n + i := by rw [am_up_a _ _ _ _ (by decide)]; exact j1
    have e2 : 24 - 8 * (i : Int) + -8 = 24 - 8 * ((i + 1 : Nat) : Int) := by omega
    rw [B88_3]
    simp (disch := omega) only [KX, j1, B88_30, e1, B88_40, e2, GA, GR, GRc, GO, GI, GL, GV, am_w_i, am_ga, am_it, am_if, true_and, and_true, or_true, true_or, ne_eq, not_false_eq_true, not_true_eq_false, false_imp_iff, true_imp_iff, Int.reduceEq, Int.reduceLT, Int.reduceLE, Int.reduceAdd, Int.reduceSub, Int.reduceMul, Int.reduceNeg]
    refine ih _ ⟨by rw [am_up_s]; omega, fun j h1 h2 => ?_, fun j hj => ?_, fun a x y => ?_, fun j hj => ?_⟩
    · rw [am_up_a _ _ _ _ (by decide)]
      by_cases ej : j = i
      · subst ej; rw [am_up_s]
      · rw [am_up_n _ _ _ _ (by omega)]; exact j2 j h1 (by omega)
    · rw [am_up_a _ _ _ _ (by decide), am_up_n _ _ _ _ (by omega)]; exact j3 j hj
    · rw [am_up_a _ _ _ _ x, am_up_a _ _ _ _ y]; exact j4 a x y
    · rw [am_up_n _ _ _ _ hj, am_up_a _ _ _ _ (by decide)]; exact j5 j hj
  · intro J ⟨j1, j2, j3, j4, j5⟩
    have z := q J j1 j2 j3 j4 j5
    rw [B88_3]
    first | (simp (disch := omega) only [GA, GR, GRc, GO, GI, GL, GV, am_w_i, am_ga, am_it, am_if, true_and, and_true, or_true, true_or, ne_eq, not_false_eq_true, not_true_eq_false, false_imp_iff, true_imp_iff, Int.reduceEq, Int.reduceLT, Int.reduceLE, Int.reduceAdd, Int.reduceSub, Int.reduceMul, Int.reduceNeg]; exact z) | simp (disch := omega) only [z, GA, GR, GRc, GO, GI, GL, GV, am_w_i, am_ga, am_it, am_if, true_and, and_true, or_true, true_or, ne_eq, not_false_eq_true, not_true_eq_false, false_imp_iff, true_imp_iff, Int.reduceEq, Int.reduceLT, Int.reduceLE, Int.reduceAdd, Int.reduceSub, Int.reduceMul, Int.reduceNeg]
