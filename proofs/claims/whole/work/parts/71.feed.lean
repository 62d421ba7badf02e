/-! 71: feed -/
theorem am_and255 (x : Int) : am_and x 255 = x % 256 := by
  unfold am_and
  have h : ((Int32.ofInt x &&& Int32.ofInt 255).toBitVec) = (BitVec.ofInt 32 x) &&& 255#32 := rfl
  rw [← Int32.toInt_toBitVec, h]
  have h2 : (BitVec.ofInt 32 x &&& 255#32).toNat = (x % 256).toNat := by
    rw [BitVec.toNat_and, BitVec.toNat_ofInt, show (255#32).toNat = 2 ^ 8 - 1 from rfl, Nat.and_two_pow_sub_one_eq_mod]
    omega
  rw [BitVec.toInt_eq_toNat_of_lt (by rw [h2]; omega), h2]
  omega
theorem am_wb_and (x : Int) : am_wb (am_and x 255) = am_wb (am_wb x) := by
  rw [am_and255]; unfold am_wb; omega
theorem GR0.tp {V : (Nat → Int → Int)} {lw : (Int → (Int → Int) → Int)} {σ : (Nat → Int → Int)} {n n' f g : Int} {w : (Nat × Nat × Nat × Nat)} {I L I' : (Nat → Int → Int)} (h : GR0 V lw σ n f g w I L) (hf : ∀ a, a ≠ 0 → a ≠ 1 → a ≠ 99 → a ≠ 100 → I' a = I a) (h0 : ∀ j, j ≠ 1 → I' 0 j = I 0 j) (hg : ∀ j, j ≠ 1 → j ≠ 2 → I' 99 j = I 99 j) (ht : GT n' I') : GR0 V lw σ n' f g w I' L := by
  obtain ⟨⟨⟨b1, b2, b3, b4, b5, b6⟩, c1, c2, c3, c4, c5⟩, a2, a3, a4, a5, a6, a7, a8, a9, a10⟩ := h
  have hle := isW_le b1
  refine ⟨⟨⟨b1, b2.fr (fun q x y => hf q (by omega) (by omega) (by omega) (by omega)), b3.fr (fun q x y => hf q (by omega) (by omega) (by omega) (by omega)), b4, b5.fr (fun q x y => hf q (by omega) (by omega) (by omega) (by omega)) (fun j x y => hg j (by omega) (by omega)), b6.fr (fun q x y => hf q (by omega) (by omega) (by omega) (by omega))⟩, c1.fr (fun q x y => hf q (by omega) (by omega) (by omega) (by omega)), c2.k (fun a _ _ => hf a (by omega) (by omega) (by omega) (by omega)), c3, c4, c5.fr (hf 54 (by decide) (by decide) (by decide) (by decide)) ?_⟩, a2, a3, ht, ?_, ?_, ?_, ?_, ?_, ?_⟩
  · rw [hf 51 (by decide) (by decide) (by decide) (by decide)]; exact ⟨rfl, rfl, rfl⟩
  · unfold GF at a5 ⊢; rw [h0 2 (by decide), h0 3 (by decide), hg 4 (by decide) (by decide), hg 5 (by decide) (by decide)]; exact a5
  · exact a6.fr (h0 10 (by decide)) (hg 76 (by decide) (by decide)) (fun a x y => hf a (by omega) (by omega) (by omega) (by omega)) (hf 137 (by decide) (by decide) (by decide) (by decide)) (hf 138 (by decide) (by decide) (by decide) (by decide)) rfl
  · exact a7.fr (by rw [hf 90 (by decide) (by decide) (by decide) (by decide)]) (hg 74 (by decide) (by decide)) (hf 91 (by decide) (by decide) (by decide) (by decide)) (hf 136 (by decide) (by decide) (by decide) (by decide))
  · obtain ⟨T, m, kb, d1, d2, d3⟩ := a8
    exact ⟨T, m, kb, d1.fr (fun a x y => hf a (by omega) (by omega) (by omega) (by omega)), d2.fr (hg 70 (by decide) (by decide)) (hg 71 (by decide) (by decide)) (hf 134 (by decide) (by decide) (by decide) (by decide)), d3⟩
  · exact a9.fr (hf 64 (by decide) (by decide) (by decide) (by decide)) (hf 65 (by decide) (by decide) (by decide) (by decide))
  · unfold GX at a10 ⊢; rw [hf 49 (by decide) (by decide) (by decide) (by decide), hf 101 (by decide) (by decide) (by decide) (by decide)]; exact a10
theorem s88 {d : Nat} {w : Nat × Nat × Nat × Nat} {I L : Nat → Int → Int} {n l : Int} (hn : I 0 1 = n) (h0 : 0 ≤ n) (h1 : n + 4 ≤ 700) {Q : Option am_V → am_H → Prop} (q : ∀ I', I' 0 1 = n + 4 → (∀ j : Int, 0 ≤ j → j < 4 → I' 1 (n + j) = am_wb (am_wb (am_shr l (24 - 8 * j)))) → (∀ j, j < n → I' 1 j = I 1 j) → (∀ a, a ≠ 0 → a ≠ 1 → I' a = I a) → (∀ j, j ≠ 1 → I' 0 j = I 0 j) → Q none (mkH w I' L)) : am_Sp d 88 [vR (some 0), vI l] (mkH w I L) Q := by
  rw [S88]
  refine am_loop (α := (Nat → Int → Int)) 4 (fun i J => am_WP d 88 3 [some (vR (some 0)), some (vI l), some (vI (24 - 8 * (i : Int)))] [] (mkH w J L) Q) (fun i J => J 0 1 = n + i ∧ (∀ j, 0 ≤ j → j < (i : Int) → J 1 (n + j) = am_wb (am_wb (am_shr l (24 - 8 * j)))) ∧ (∀ j, j < n → J 1 j = I 1 j) ∧ (∀ a, a ≠ 0 → a ≠ 1 → J a = I a) ∧ (∀ j, j ≠ 1 → J 0 j = I 0 j)) ?_ ?_ 0 I (Nat.zero_le _) ⟨by rw [hn]; omega, fun j h1 h2 => by omega, fun _ _ => rfl, fun _ _ _ => rfl, fun _ _ => rfl⟩
  · intro i J hi ⟨j1, j2, j3, j4, j5⟩ ih
    have e1 : am_up J 1 (n + (i : Int)) (am_wb (am_wb (am_shr l (24 - 8 * (i : Int))))) 0 1 = n + i := by rw [am_up_a _ _ _ _ (by decide)]; exact j1
    have e2 : 24 - 8 * (i : Int) + -8 = 24 - 8 * ((i + 1 : Nat) : Int) := by omega
    rw [B88_3]
    simp (disch := omega) only [KX, j1, B88_30, e1, B88_40, e2, GA, GR, GRc, GO, GI, GL, GV, am_w_i, am_ga, am_it, am_if, true_and, and_true, or_true, true_or, ne_eq, not_false_eq_true, not_true_eq_false, false_imp_iff, true_imp_iff, Int.reduceEq, Int.reduceLT, Int.reduceLE, Int.reduceAdd, Int.reduceSub, Int.reduceMul, Int.reduceNeg]
    refine ih _ ⟨by rw [am_up_s]; omega, fun j h1 h2 => ?_, fun j hj => ?_, fun a x y => ?_, fun j hj => ?_⟩
    · rw [am_up_a _ _ _ _ (by decide)]
      by_cases ej : j = i
      · subst ej; rw [am_up_s]
      · rw [am_up_n _ _ _ _ (by omega)]; exact j2 j h1 (by omega)
    · rw [am_up_a _ _ _ _ (by decide), am_up_n _ _ _ _ (by omega)]; exact j3 j hj
    · rw [am_up_a _ _ _ _ x, am_up_a _ _ _ _ y]; exact j4 a x y
    · rw [am_up_n _ _ _ _ hj, am_up_a _ _ _ _ (by decide)]; exact j5 j hj
  · intro J ⟨j1, j2, j3, j4, j5⟩
    have z := q J j1 j2 j3 j4 j5
    rw [B88_3]
    first | (simp (disch := omega) only [GA, GR, GRc, GO, GI, GL, GV, am_w_i, am_ga, am_it, am_if, true_and, and_true, or_true, true_or, ne_eq, not_false_eq_true, not_true_eq_false, false_imp_iff, true_imp_iff, Int.reduceEq, Int.reduceLT, Int.reduceLE, Int.reduceAdd, Int.reduceSub, Int.reduceMul, Int.reduceNeg]; exact z) | simp (disch := omega) only [z, GA, GR, GRc, GO, GI, GL, GV, am_w_i, am_ga, am_it, am_if, true_and, and_true, or_true, true_or, ne_eq, not_false_eq_true, not_true_eq_false, false_imp_iff, true_imp_iff, Int.reduceEq, Int.reduceLT, Int.reduceLE, Int.reduceAdd, Int.reduceSub, Int.reduceMul, Int.reduceNeg]
def px_wd (a b c e f : Int) (i : Int) : Int := if 4 ≤ i then (if 8 ≤ i then (if 12 ≤ i then (if 16 ≤ i then f else e) else c) else b) else a
set_option maxHeartbeats 2000000 in
theorem p_feed {a b c e f : Int} : PM 87 152 [vI a, vI b, vI c, vI e, vI f] := by
  intro d w I L hG
  have no := fun r => PM.no (d := d) (j1 := 87) (j2 := 152) (as := [vI a, vI b, vI c, vI e, vI f]) r hG
  obtain ⟨V, lw, σ, n, fa, g, G⟩ := hG
  obtain ⟨n0, n1, n2, n3⟩ := G.2.2.2.1
  have n2t : am_up I 99 2 0 99 1 = n := by rw [am_up_n _ _ _ _ (by decide)]; exact n2
  by_cases c1 : n + 20 ≤ 700
  · rw [S87]
    simp (disch := omega) only [KX, n1, c1, GA, GR, GRc, GO, GI, GL, GV, am_w_i, am_ga, am_it, am_if, true_and, and_true, or_true, true_or, ne_eq, not_false_eq_true, not_true_eq_false, false_imp_iff, true_imp_iff, Int.reduceEq, Int.reduceLT, Int.reduceLE, Int.reduceAdd, Int.reduceSub, Int.reduceMul, Int.reduceNeg]
    refine s88 n1 (by omega) (by omega) (fun I1 a1 a2 a3 a4 a5 => ?_)
    simp (disch := omega) only [KX, GA, GR, GRc, GO, GI, GL, GV, am_w_i, am_ga, am_it, am_if, true_and, and_true, or_true, true_or, ne_eq, not_false_eq_true, not_true_eq_false, false_imp_iff, true_imp_iff, Int.reduceEq, Int.reduceLT, Int.reduceLE, Int.reduceAdd, Int.reduceSub, Int.reduceMul, Int.reduceNeg]
    refine s88 a1 (by omega) (by omega) (fun I2 b1 b2 b3 b4 b5 => ?_)
    simp (disch := omega) only [KX, GA, GR, GRc, GO, GI, GL, GV, am_w_i, am_ga, am_it, am_if, true_and, and_true, or_true, true_or, ne_eq, not_false_eq_true, not_true_eq_false, false_imp_iff, true_imp_iff, Int.reduceEq, Int.reduceLT, Int.reduceLE, Int.reduceAdd, Int.reduceSub, Int.reduceMul, Int.reduceNeg]
    refine s88 b1 (by omega) (by omega) (fun I3 c1 c2 c3 c4 c5 => ?_)
    simp (disch := omega) only [KX, GA, GR, GRc, GO, GI, GL, GV, am_w_i, am_ga, am_it, am_if, true_and, and_true, or_true, true_or, ne_eq, not_false_eq_true, not_true_eq_false, false_imp_iff, true_imp_iff, Int.reduceEq, Int.reduceLT, Int.reduceLE, Int.reduceAdd, Int.reduceSub, Int.reduceMul, Int.reduceNeg]
    refine s88 c1 (by omega) (by omega) (fun I4 d1 d2 d3 d4 d5 => ?_)
    simp (disch := omega) only [KX, GA, GR, GRc, GO, GI, GL, GV, am_w_i, am_ga, am_it, am_if, true_and, and_true, or_true, true_or, ne_eq, not_false_eq_true, not_true_eq_false, false_imp_iff, true_imp_iff, Int.reduceEq, Int.reduceLT, Int.reduceLE, Int.reduceAdd, Int.reduceSub, Int.reduceMul, Int.reduceNeg]
    refine s88 d1 (by omega) (by omega) (fun I5 e1 e2 e3 e4 e5 => ?_)
    have ee : I5 0 1 = n + 20 := by rw [e1]; omega
    simp (disch := omega) only [KX, ee, GA, GR, GRc, GO, GI, GL, GV, am_w_i, am_ga, am_it, am_if, true_and, and_true, or_true, true_or, ne_eq, not_false_eq_true, not_true_eq_false, false_imp_iff, true_imp_iff, Int.reduceEq, Int.reduceLT, Int.reduceLE, Int.reduceAdd, Int.reduceSub, Int.reduceMul, Int.reduceNeg]
    have hf : ∀ x, x ≠ 0 → x ≠ 1 → I5 x = I x := fun x y z => by rw [e4 x y z, d4 x y z, c4 x y z, b4 x y z, a4 x y z]
    have h0 : ∀ j, j ≠ 1 → I5 0 j = I 0 j := fun j y => by rw [e5 j y, d5 j y, c5 j y, b5 j y, a5 j y]
    have hb : ∀ j, j < n → I5 1 j = I 1 j := fun j y => by rw [e3 j (by omega), d3 j (by omega), c3 j (by omega), b3 j (by omega), a3 j y]
    have ht : ∀ j, 0 ≤ j → j < 20 → I5 1 (n + j) = am_wb (am_wb (am_shr (px_wd a b c e f j) (24 - 8 * (j % 4)))) := by
      intro j y1 y2
      unfold px_wd
      by_cases k1 : 4 ≤ j
      · rw [if_pos k1]
        by_cases k2 : 8 ≤ j
        · rw [if_pos k2]
          by_cases k3 : 12 ≤ j
          · rw [if_pos k3]
            by_cases k4 : 16 ≤ j
            · rw [if_pos k4, show n + j = n + 4 + 4 + 4 + 4 + (j - 16) by omega, e2 _ (by omega) (by omega), show j - 16 = j % 4 by omega]
            · rw [if_neg k4, e3 _ (by omega), show n + j = n + 4 + 4 + 4 + (j - 12) by omega, d2 _ (by omega) (by omega), show j - 12 = j % 4 by omega]
          · rw [if_neg k3, e3 _ (by omega), d3 _ (by omega), show n + j = n + 4 + 4 + (j - 8) by omega, c2 _ (by omega) (by omega), show j - 8 = j % 4 by omega]
        · rw [if_neg k2, e3 _ (by omega), d3 _ (by omega), c3 _ (by omega), show n + j = n + 4 + (j - 4) by omega, b2 _ (by omega) (by omega), show j - 4 = j % 4 by omega]
      · rw [if_neg k1, e3 _ (by omega), d3 _ (by omega), c3 _ (by omega), b3 _ (by omega), a2 _ (by omega) (by omega), show j % 4 = j by omega]
    have g1 : am_up I5 99 2 0 99 1 = n := by rw [am_up_n _ _ _ _ (by decide), hf 99 (by decide) (by decide)]; exact n2
    rw [S152]
    have cc : n + 20 ≤ 700 := by omega
    simp (disch := omega) only [Kk, B152_5, g1, cc, GA, GR, GRc, GO, GI, GL, GV, am_w_i, am_ga, am_it, am_if, true_and, and_true, or_true, true_or, ne_eq, not_false_eq_true, not_true_eq_false, false_imp_iff, true_imp_iff, Int.reduceEq, Int.reduceLT, Int.reduceLE, Int.reduceAdd, Int.reduceSub, Int.reduceMul, Int.reduceNeg]
    refine am_loop (α := (Nat → Int → Int) × Option am_V) 20 (fun i x => am_WP (d + 20) 152 23 [some (vR (some 99)), some (vI a), some (vI b), some (vI c), some (vI e), some (vI f), some (vI (i : Int)), x.2] [] (mkH w x.1 L) (fun r' h2 => r' = some (vI (n + 20)) ∧ some (vI (n + 20)) ≠ none ∧ ∃ w2 I2 L2, h2 = mkH w2 I2 L2 ∧ GG w2 I2 L2)) (fun i x => (∀ j, 0 ≤ j → j < (i : Int) → x.1 100 (n + j) = am_and (am_shr (px_wd a b c e f j) (24 - 8 * (j % 4))) 255) ∧ (∀ j, j < n → x.1 100 j = I 100 j) ∧ Fr (fun y => y = 100) (am_up I5 99 2 0) x.1) ?_ ?_ 0 (am_up I5 99 2 0, none) (Nat.zero_le _) ⟨fun j h1 h2 => by omega, fun j _ => by dsimp only; rw [am_up_a _ _ _ _ (by decide), hf 100 (by decide) (by decide)], Fr.rf⟩
    · intro i ⟨J, l7⟩ hi ⟨j1, j2, j3⟩ ih
      dsimp only at j1 j2 j3 ⊢
      have k1 : J 99 1 = n := by rw [j3 99 (by decide)]; exact g1
      have tm : Int.tmod (i : Int) 4 = (i : Int) % 4 := Int.tmod_eq_emod_of_nonneg (by omega)
      have st : am_WP (d + 20) 152 76 [some (vR (some 99)), some (vI a), some (vI b), some (vI c), some (vI e), some (vI f), some (vI (i : Int)), l7] [vI (px_wd a b c e f i)] (mkH w J L) (fun r' h2 => r' = some (vI (n + 20)) ∧ some (vI (n + 20)) ≠ none ∧ ∃ w2 I2 L2, h2 = mkH w2 I2 L2 ∧ GG w2 I2 L2) := by
        rw [B152_76]
        simp (disch := omega) only [Kk, Kt, k1, tm, B152_107, GA, GR, GRc, GO, GI, GL, GV, am_w_i, am_ga, am_it, am_if, true_and, and_true, or_true, true_or, ne_eq, not_false_eq_true, not_true_eq_false, false_imp_iff, true_imp_iff, Int.reduceEq, Int.reduceLT, Int.reduceLE, Int.reduceAdd, Int.reduceSub, Int.reduceMul, Int.reduceNeg]
        refine ih (am_up J 100 (n + (i : Int)) (am_and (am_shr (px_wd a b c e f i) (24 - 8 * ((i : Int) % 4))) 255), some (vI (px_wd a b c e f i))) ⟨fun j h1 h2 => ?_, fun j hj => ?_, j3.up rfl⟩
        · dsimp only
          by_cases ej : j = i
          · subst ej; rw [am_up_s]
          · rw [am_up_n _ _ _ _ (by omega)]; exact j1 j h1 (by omega)
        · dsimp only; rw [am_up_n _ _ _ _ (by omega)]; exact j2 j hj
      rw [B152_23]
      unfold px_wd at st
      by_cases k1 : 4 ≤ (i : Int)
      · by_cases k2 : 8 ≤ (i : Int)
        · by_cases k3 : 12 ≤ (i : Int)
          · by_cases k4 : 16 ≤ (i : Int)
            · rw [if_pos k1, if_pos k2, if_pos k3, if_pos k4] at st
              have z := st
              first | (simp (disch := omega) only [k1, k2, k3, k4, GA, GR, GRc, GO, GI, GL, GV, am_w_i, am_ga, am_it, am_if, true_and, and_true, or_true, true_or, ne_eq, not_false_eq_true, not_true_eq_false, false_imp_iff, true_imp_iff, Int.reduceEq, Int.reduceLT, Int.reduceLE, Int.reduceAdd, Int.reduceSub, Int.reduceMul, Int.reduceNeg]; exact z) | simp (disch := omega) only [k1, k2, k3, k4, z, GA, GR, GRc, GO, GI, GL, GV, am_w_i, am_ga, am_it, am_if, true_and, and_true, or_true, true_or, ne_eq, not_false_eq_true, not_true_eq_false, false_imp_iff, true_imp_iff, Int.reduceEq, Int.reduceLT, Int.reduceLE, Int.reduceAdd, Int.reduceSub, Int.reduceMul, Int.reduceNeg]
            · rw [if_pos k1, if_pos k2, if_pos k3, if_neg k4] at st
              have z := st
              first | (simp (disch := omega) only [k1, k2, k3, k4, GA, GR, GRc, GO, GI, GL, GV, am_w_i, am_ga, am_it, am_if, true_and, and_true, or_true, true_or, ne_eq, not_false_eq_true, not_true_eq_false, false_imp_iff, true_imp_iff, Int.reduceEq, Int.reduceLT, Int.reduceLE, Int.reduceAdd, Int.reduceSub, Int.reduceMul, Int.reduceNeg]; exact z) | simp (disch := omega) only [k1, k2, k3, k4, z, GA, GR, GRc, GO, GI, GL, GV, am_w_i, am_ga, am_it, am_if, true_and, and_true, or_true, true_or, ne_eq, not_false_eq_true, not_true_eq_false, false_imp_iff, true_imp_iff, Int.reduceEq, Int.reduceLT, Int.reduceLE, Int.reduceAdd, Int.reduceSub, Int.reduceMul, Int.reduceNeg]
          · rw [if_pos k1, if_pos k2, if_neg k3] at st
            have z := st
            first | (simp (disch := omega) only [k1, k2, k3, GA, GR, GRc, GO, GI, GL, GV, am_w_i, am_ga, am_it, am_if, true_and, and_true, or_true, true_or, ne_eq, not_false_eq_true, not_true_eq_false, false_imp_iff, true_imp_iff, Int.reduceEq, Int.reduceLT, Int.reduceLE, Int.reduceAdd, Int.reduceSub, Int.reduceMul, Int.reduceNeg]; exact z) | simp (disch := omega) only [k1, k2, k3, z, GA, GR, GRc, GO, GI, GL, GV, am_w_i, am_ga, am_it, am_if, true_and, and_true, or_true, true_or, ne_eq, not_false_eq_true, not_true_eq_false, false_imp_iff, true_imp_iff, Int.reduceEq, Int.reduceLT, Int.reduceLE, Int.reduceAdd, Int.reduceSub, Int.reduceMul, Int.reduceNeg]
        · rw [if_pos k1, if_neg k2] at st
          have z := st
          first | (simp (disch := omega) only [k1, k2, GA, GR, GRc, GO, GI, GL, GV, am_w_i, am_ga, am_it, am_if, true_and, and_true, or_true, true_or, ne_eq, not_false_eq_true, not_true_eq_false, false_imp_iff, true_imp_iff, Int.reduceEq, Int.reduceLT, Int.reduceLE, Int.reduceAdd, Int.reduceSub, Int.reduceMul, Int.reduceNeg]; exact z) | simp (disch := omega) only [k1, k2, z, GA, GR, GRc, GO, GI, GL, GV, am_w_i, am_ga, am_it, am_if, true_and, and_true, or_true, true_or, ne_eq, not_false_eq_true, not_true_eq_false, false_imp_iff, true_imp_iff, Int.reduceEq, Int.reduceLT, Int.reduceLE, Int.reduceAdd, Int.reduceSub, Int.reduceMul, Int.reduceNeg]
      · rw [if_neg k1] at st
        have z := st
        first | (simp (disch := omega) only [k1, GA, GR, GRc, GO, GI, GL, GV, am_w_i, am_ga, am_it, am_if, true_and, and_true, or_true, true_or, ne_eq, not_false_eq_true, not_true_eq_false, false_imp_iff, true_imp_iff, Int.reduceEq, Int.reduceLT, Int.reduceLE, Int.reduceAdd, Int.reduceSub, Int.reduceMul, Int.reduceNeg]; exact z) | simp (disch := omega) only [k1, z, GA, GR, GRc, GO, GI, GL, GV, am_w_i, am_ga, am_it, am_if, true_and, and_true, or_true, true_or, ne_eq, not_false_eq_true, not_true_eq_false, false_imp_iff, true_imp_iff, Int.reduceEq, Int.reduceLT, Int.reduceLE, Int.reduceAdd, Int.reduceSub, Int.reduceMul, Int.reduceNeg]
    · intro ⟨J, l7⟩ ⟨j1, j2, j3⟩
      dsimp only at j1 j2 j3 ⊢
      have k1 : J 99 1 = n := by rw [j3 99 (by decide)]; exact g1
      rw [B152_23]
      simp (disch := omega) only [Kk, k1, B152_124, am_up_s, GA, GR, GRc, GO, GI, GL, GV, am_w_i, am_ga, am_it, am_if, true_and, and_true, or_true, true_or, ne_eq, not_false_eq_true, not_true_eq_false, false_imp_iff, true_imp_iff, Int.reduceEq, Int.reduceLT, Int.reduceLE, Int.reduceAdd, Int.reduceSub, Int.reduceMul, Int.reduceNeg]
      refine ⟨by simp, w, _, L, rfl, V, lw, σ, n + 20, fa, g, G.tp (fun x y1 y2 y3 y4 => ?_) (fun j hj => ?_) (fun j hj hj2 => ?_) ⟨⟨by omega, by omega⟩, ?_, am_up_s _ _ _ _, fun j y1 y2 => ?_⟩⟩
      · rw [am_up_a _ _ _ _ y3, j3 x y4, am_up_a _ _ _ _ y3, hf x y1 y2]
      · rw [am_up_a _ _ _ _ (by decide), j3 0 (by decide), am_up_a _ _ _ _ (by decide), h0 j hj]
      · rw [am_up_n _ _ _ _ hj, j3 99 (by decide), am_up_n _ _ _ _ hj2, hf 99 (by decide) (by decide)]
      · rw [am_up_a _ _ _ _ (by decide), j3 0 (by decide), am_up_a _ _ _ _ (by decide)]; exact ee
      · rw [am_up_a _ _ _ _ (by decide), am_up_a _ _ _ _ (by decide), j3 1 (by decide), am_up_a _ _ _ _ (by decide)]
        by_cases ej : j < n
        · rw [j2 j ej, hb j ej]; exact n3 j y1 ej
        · have q1 := j1 (j - n) (by omega) (by omega)
          have q2 := ht (j - n) (by omega) (by omega)
          rw [show n + (j - n) = j by omega] at q1 q2
          rw [q1, q2, am_wb_and]
          refine ⟨?_, rfl⟩
          rw [am_and255]; omega
  · refine no (-1) ?_ ?_
    · rw [S87]
      simp (disch := omega) only [KX, n1, c1, GA, GR, GRc, GO, GI, GL, GV, am_w_i, am_ga, am_it, am_if, true_and, and_true, or_true, true_or, ne_eq, not_false_eq_true, not_true_eq_false, false_imp_iff, true_imp_iff, Int.reduceEq, Int.reduceLT, Int.reduceLE, Int.reduceAdd, Int.reduceSub, Int.reduceMul, Int.reduceNeg]
    · rw [S152]
      simp (disch := omega) only [Kk, B152_5, n2t, c1, GA, GR, GRc, GO, GI, GL, GV, am_w_i, am_ga, am_it, am_if, true_and, and_true, or_true, true_or, ne_eq, not_false_eq_true, not_true_eq_false, false_imp_iff, true_imp_iff, Int.reduceEq, Int.reduceLT, Int.reduceLE, Int.reduceAdd, Int.reduceSub, Int.reduceMul, Int.reduceNeg]
