/-! a3: the reference: a text of nothing, copies -/
/-- behind plain() -/
def PN (I I' : (Nat → Int → Int)) : Prop := (∀ a, a ≠ 99 → a ≠ 102 → a ≠ 106 → a ≠ 115 → a ≠ 116 → a ≠ 117 → I' a = I a) ∧ (∀ x, ¬ (16 ≤ x ∧ x ≤ 21) → x ≠ 48 → I' 99 x = I 99 x) ∧ (I' 99 16 = 0 ∧ I' 99 17 = 0 ∧ I' 99 18 = 0 ∧ I' 99 19 = 0 ∧ I' 99 20 = 0 ∧ I' 99 48 = 0 ∧ I' 99 21 = 0) ∧ (I' 102 1 = 0 ∧ ∀ j, j < 1 → I' 102 j = I 102 j) ∧ ((∀ j, j < 12 → I' 106 j = I 106 j) ∧ ∀ j, 0 ≤ j → j < 12 → I' 106 (12 + j) = 0) ∧ ((∀ j, (j < 4 → I' 116 j = I 116 j) ∧ (j < 0 → I' 115 j = I 115 j)) ∧ ∀ j, 0 ≤ j → j < 4 → I' 115 j = 0 ∧ I' 116 (4 + j) = 0) ∧ ((∀ j, j < 3 → I' 117 j = I 117 j) ∧ ∀ j, 0 ≤ j → j < 3 → I' 117 (3 + j) = 0)
set_option maxHeartbeats 1000000 in
theorem s165 {d : Nat} {w : Nat × Nat × Nat × Nat} {I L : Nat → Int → Int} {Q : Option am_V → am_H → Prop} (q : ∀ I', PN I I' → Q none (mkH w I' L)) : am_Sp d 165 [vR (some 99)] (mkH w I L) Q := by
  rw [S165]
  simp (disch := omega) only [Kk, Kw, B165_5, B165_10, B165_15, B165_20, B165_25, B165_30, B165_35, B165_42, GA, GR, GRc, GO, GI, GL, GV, am_w_i, am_ga, am_it, am_if, true_and, and_true, or_true, true_or, ne_eq, not_false_eq_true, not_true_eq_false, false_imp_iff, true_imp_iff, Int.reduceEq, Int.reduceLT, Int.reduceLE, Int.reduceAdd, Int.reduceSub, Int.reduceMul, Int.reduceNeg]
  generalize e1 : am_up (am_up (am_up (am_up (am_up (am_up (am_up (am_up I 99 16 0) 99 17 0) 99 18 0) 99 19 0) 99 20 0) 99 48 0) 99 21 0) 102 1 0 = I1
  have f1 : ∀ a, a ≠ 99 → a ≠ 102 → I1 a = I a := fun a h1 h2 => by rw [← e1]; simp (disch := assumption) only [am_up_a]
  have g1 : ∀ x, ¬ (16 ≤ x ∧ x ≤ 21) → x ≠ 48 → I1 99 x = I 99 x := fun x h1 h2 => by rw [← e1, am_up_a _ _ _ _ (by decide)]; simp (disch := omega) only [am_up_n]
  have g2 : I1 99 16 = 0 ∧ I1 99 17 = 0 ∧ I1 99 18 = 0 ∧ I1 99 19 = 0 ∧ I1 99 20 = 0 ∧ I1 99 48 = 0 ∧ I1 99 21 = 0 := by rw [← e1]; simp (disch := decide) only [am_up_a, am_up_n, am_up_s, and_self]
  have g3 : I1 102 1 = 0 ∧ ∀ j, j < 1 → I1 102 j = I 102 j := by
    rw [← e1, am_up_s]
    refine ⟨rfl, fun j hj => ?_⟩
    rw [am_up_n _ _ _ _ (by omega)]; simp (disch := decide) only [am_up_a]
  clear e1
  refine am_loop (α := (Nat → Int → Int)) 12 (fun i J => am_WP d 165 44 [some (vR (some 99)), some (vI (i : Int))] [] (mkH w J L) Q) (fun i J => (∀ a, a ≠ 106 → J a = I1 a) ∧ (∀ j, j < 12 → J 106 j = I1 106 j) ∧ ∀ j, 0 ≤ j → j < (i : Int) → J 106 (12 + j) = 0) ?_ ?_ 0 I1 (Nat.zero_le _) ⟨fun _ _ => rfl, fun _ _ => rfl, fun j h1 h2 => by omega⟩
  · intro i J hi ⟨j1, j2, j3⟩ ih
    rw [B165_44]
    simp (disch := omega) only [Kk, Kw, B165_60, GA, GR, GRc, GO, GI, GL, GV, am_w_i, am_ga, am_it, am_if, true_and, and_true, or_true, true_or, ne_eq, not_false_eq_true, not_true_eq_false, false_imp_iff, true_imp_iff, Int.reduceEq, Int.reduceLT, Int.reduceLE, Int.reduceAdd, Int.reduceSub, Int.reduceMul, Int.reduceNeg]
    refine ih (am_up J 106 (12 + (i : Int)) 0) ⟨fun a ha => by rw [am_up_a _ _ _ _ ha]; exact j1 a ha, fun j hj => by rw [am_up_n _ _ _ _ (by omega)]; exact j2 j hj, fun j h1 h2 => ?_⟩
    by_cases ej : j = i
    · subst ej; rw [am_up_s]
    · rw [am_up_n _ _ _ _ (by omega)]; exact j3 j h1 (by omega)
  · intro I2 ⟨j1, j2, j3⟩
    rw [B165_44]
    simp (disch := omega) only [Kk, GA, GR, GRc, GO, GI, GL, GV, am_w_i, am_ga, am_it, am_if, true_and, and_true, or_true, true_or, ne_eq, not_false_eq_true, not_true_eq_false, false_imp_iff, true_imp_iff, Int.reduceEq, Int.reduceLT, Int.reduceLE, Int.reduceAdd, Int.reduceSub, Int.reduceMul, Int.reduceNeg]
    refine am_loop (α := (Nat → Int → Int)) 4 (fun i J => am_WP d 165 68 [some (vR (some 99)), some (vI (i : Int))] [] (mkH w J L) Q) (fun i J => (∀ a, a ≠ 115 → a ≠ 116 → J a = I2 a) ∧ (∀ j, (j < 4 → J 116 j = I2 116 j) ∧ (j < 0 → J 115 j = I2 115 j)) ∧ ∀ j, 0 ≤ j → j < (i : Int) → J 115 j = 0 ∧ J 116 (4 + j) = 0) ?_ ?_ 0 I2 (Nat.zero_le _) ⟨fun _ _ _ => rfl, fun _ => ⟨fun _ => rfl, fun _ => rfl⟩, fun j h1 h2 => by omega⟩
    · intro i J hi ⟨k1, k2, k3⟩ ih
      rw [B165_68]
      simp (disch := omega) only [Kk, Kl, Kw, B165_80, B165_89, GA, GR, GRc, GO, GI, GL, GV, am_w_i, am_ga, am_it, am_if, true_and, and_true, or_true, true_or, ne_eq, not_false_eq_true, not_true_eq_false, false_imp_iff, true_imp_iff, Int.reduceEq, Int.reduceLT, Int.reduceLE, Int.reduceAdd, Int.reduceSub, Int.reduceMul, Int.reduceNeg]
      refine ih (am_up (am_up J 115 (i : Int) 0) 116 (4 + (i : Int)) 0) ⟨fun a ha hb => by rw [am_up_a _ _ _ _ hb, am_up_a _ _ _ _ ha]; exact k1 a ha hb, fun j => ⟨fun hj => by rw [am_up_n _ _ _ _ (by omega), am_up_a _ _ _ _ (by decide)]; exact (k2 j).1 hj, fun hj => by rw [am_up_a _ _ _ _ (by decide), am_up_n _ _ _ _ (by omega)]; exact (k2 j).2 hj⟩, fun j h1 h2 => ?_⟩
      by_cases ej : j = i
      · subst ej; rw [am_up_s, am_up_a _ _ _ _ (by decide), am_up_s]; exact ⟨rfl, rfl⟩
      · have k := k3 j h1 (by omega)
        exact ⟨by rw [am_up_a _ _ _ _ (by decide), am_up_n _ _ _ _ ej]; exact k.1, by rw [am_up_n _ _ _ _ (by omega), am_up_a _ _ _ _ (by decide)]; exact k.2⟩
    · intro I3 ⟨k1, k2, k3⟩
      rw [B165_68]
      simp (disch := omega) only [Kk, GA, GR, GRc, GO, GI, GL, GV, am_w_i, am_ga, am_it, am_if, true_and, and_true, or_true, true_or, ne_eq, not_false_eq_true, not_true_eq_false, false_imp_iff, true_imp_iff, Int.reduceEq, Int.reduceLT, Int.reduceLE, Int.reduceAdd, Int.reduceSub, Int.reduceMul, Int.reduceNeg]
      refine am_loop (α := (Nat → Int → Int)) 3 (fun i J => am_WP d 165 97 [some (vR (some 99)), some (vI (3 + (i : Int)))] [] (mkH w J L) Q) (fun i J => (∀ a, a ≠ 117 → J a = I3 a) ∧ (∀ j, j < 3 → J 117 j = I3 117 j) ∧ ∀ j, 0 ≤ j → j < (i : Int) → J 117 (3 + j) = 0) ?_ ?_ 0 I3 (Nat.zero_le _) ⟨fun _ _ => rfl, fun _ _ => rfl, fun j h1 h2 => by omega⟩
      · intro i J hi ⟨l1, l2, l3⟩ ih
        rw [B165_97]
        have z := ih (am_up J 117 (3 + (i : Int)) 0) ⟨fun a ha => by rw [am_up_a _ _ _ _ ha]; exact l1 a ha, fun j hj => by rw [am_up_n _ _ _ _ (by omega)]; exact l2 j hj, fun j h1 h2 => by
          by_cases ej : j = i
          · subst ej; rw [am_up_s]
          · rw [am_up_n _ _ _ _ (by omega)]; exact l3 j h1 (by omega)⟩
        rw [show 3 + ((i + 1 : Nat) : Int) = 3 + (i : Int) + 1 by omega] at z
        clear ih
        first | (simp (disch := omega) only [Kk, Kl, B165_110, GA, GR, GRc, GO, GI, GL, GV, am_w_i, am_ga, am_it, am_if, true_and, and_true, or_true, true_or, ne_eq, not_false_eq_true, not_true_eq_false, false_imp_iff, true_imp_iff, Int.reduceEq, Int.reduceLT, Int.reduceLE, Int.reduceAdd, Int.reduceSub, Int.reduceMul, Int.reduceNeg]; exact z) | simp (disch := omega) only [Kk, Kl, B165_110, z, GA, GR, GRc, GO, GI, GL, GV, am_w_i, am_ga, am_it, am_if, true_and, and_true, or_true, true_or, ne_eq, not_false_eq_true, not_true_eq_false, false_imp_iff, true_imp_iff, Int.reduceEq, Int.reduceLT, Int.reduceLE, Int.reduceAdd, Int.reduceSub, Int.reduceMul, Int.reduceNeg]
      · intro J ⟨l1, l2, l3⟩
        have z := q J ⟨fun a h1 h2 h3 h4 h5 h6 => by rw [l1 a h6, k1 a h4 h5, j1 a h3, f1 a h1 h2], fun x h1 h2 => by rw [l1 99 (by decide), k1 99 (by decide) (by decide), j1 99 (by decide)]; exact g1 x h1 h2, by rw [l1 99 (by decide), k1 99 (by decide) (by decide), j1 99 (by decide)]; exact g2, by rw [l1 102 (by decide), k1 102 (by decide) (by decide), j1 102 (by decide)]; exact g3, ⟨fun j hj => by rw [l1 106 (by decide), k1 106 (by decide) (by decide), j2 j hj, f1 106 (by decide) (by decide)], fun j h1 h2 => by rw [l1 106 (by decide), k1 106 (by decide) (by decide)]; exact j3 j h1 h2⟩, ⟨fun j => ⟨fun hj => by rw [l1 116 (by decide), (k2 j).1 hj, j1 116 (by decide), f1 116 (by decide) (by decide)], fun hj => by rw [l1 115 (by decide), (k2 j).2 hj, j1 115 (by decide), f1 115 (by decide) (by decide)]⟩, fun j h1 h2 => by rw [l1 115 (by decide), l1 116 (by decide)]; exact k3 j h1 h2⟩, fun j hj => by rw [l2 j hj, k1 117 (by decide) (by decide), j1 117 (by decide), f1 117 (by decide) (by decide)], fun j h1 h2 => l3 j h1 h2⟩
        clear q
        rw [B165_97]
        first | (simp (disch := omega) only [GA, GR, GRc, GO, GI, GL, GV, am_w_i, am_ga, am_it, am_if, true_and, and_true, or_true, true_or, ne_eq, not_false_eq_true, not_true_eq_false, false_imp_iff, true_imp_iff, Int.reduceEq, Int.reduceLT, Int.reduceLE, Int.reduceAdd, Int.reduceSub, Int.reduceMul, Int.reduceNeg]; exact z) | simp (disch := omega) only [z, GA, GR, GRc, GO, GI, GL, GV, am_w_i, am_ga, am_it, am_if, true_and, and_true, or_true, true_or, ne_eq, not_false_eq_true, not_true_eq_false, false_imp_iff, true_imp_iff, Int.reduceEq, Int.reduceLT, Int.reduceLE, Int.reduceAdd, Int.reduceSub, Int.reduceMul, Int.reduceNeg]
theorem PN.pf {I I' : (Nat → Int → Int)} (h : PN I I') : PF I I' := by
  obtain ⟨a, b, c, e, f, g, k⟩ := h
  refine ⟨fun x h1 h2 => a x h1 (by omega) (by omega) (by omega) (by omega) (by omega), fun x j h1 h2 h3 => ?_, fun x h1 h2 h3 h4 h5 => b x h4 (by omega)⟩
  by_cases c1 : x = 102
  · subst c1; exact e.2 j h3
  by_cases c2 : x = 106
  · subst c2; exact f.1 j h3
  by_cases c3 : x = 115
  · subst c3; exact (g.1 j).2 h3
  by_cases c4 : x = 116
  · subst c4; exact (g.1 j).1 h3
  by_cases c5 : x = 117
  · subst c5; exact k.1 j h3
  rw [a x (by omega) c1 c2 c3 c4 c5]
theorem s166 {d : Nat} {w : Nat × Nat × Nat × Nat} {I L : Nat → Int → Int} {a : Nat} {n : Int} (hk : ∀ J, am_kd (mkH w J L) a = 13) (hl : ∀ J, am_ln (mkH w J L) a = 2 * n) (hn : 0 ≤ n ∧ n ≤ 64) (Q : Option am_V → am_H → Prop) : am_Sp d 166 [vR (some a), vI n] (mkH w I L) Q ↔ Q none (mkH w (cz_cp I a n a 0 n) L) := by
  obtain ⟨m, rfl⟩ : ∃ m : Nat, n = m := ⟨n.toNat, by omega⟩
  refine am_det ?_ Q
  rw [S166]
  refine am_loop (α := (Nat → Int → Int)) m (fun i J => am_WP d 166 2 [some (vR (some a)), some (vI (m : Int)), some (vI (i : Int))] [] (mkH w J L) (fun r' h' => r' = none ∧ h' = mkH w (cz_cp I a m a 0 m) L)) (fun i J => J = cz_cp I a m a 0 i) ?_ ?_ 0 I (Nat.zero_le _) ?_
  · intro i J hi hJ ih
    rw [B166_2]
    simp (disch := omega) only [hk, hl, B166_15, GA, GR, GRc, GO, GI, GL, GV, am_w_i, am_ga, am_it, am_if, true_and, and_true, or_true, true_or, ne_eq, not_false_eq_true, not_true_eq_false, false_imp_iff, true_imp_iff, Int.reduceEq, Int.reduceLT, Int.reduceLE, Int.reduceAdd, Int.reduceSub, Int.reduceMul, Int.reduceNeg]
    refine ih (am_up J a (i : Int) (J a ((m : Int) + i))) ?_
    rw [hJ]; funext c j; unfold am_up cz_cp
    by_cases h : c = a ∧ j = i
    · rw [if_pos h, if_neg (by omega), if_pos (by omega), h.2]; congr 1
    · rw [if_neg h]
      by_cases h2 : c = a ∧ 0 ≤ j ∧ j < 0 + (i : Int)
      · rw [if_pos h2, if_pos (by omega)]
      · rw [if_neg h2, if_neg (by omega)]
  · intro J hJ
    rw [B166_2]
    simp (disch := omega) only [hJ, GA, GR, GRc, GO, GI, GL, GV, am_w_i, am_ga, am_it, am_if, true_and, and_true, or_true, true_or, ne_eq, not_false_eq_true, not_true_eq_false, false_imp_iff, true_imp_iff, Int.reduceEq, Int.reduceLT, Int.reduceLE, Int.reduceAdd, Int.reduceSub, Int.reduceMul, Int.reduceNeg]
  · funext c j; unfold cz_cp; rw [if_neg (by omega)]
