/-! 55: law, happier, payers, healed, wanted, sign, tells -/
theorem q_happier {V σ : (Nat → Int → Int)} {lw : (Int → (Int → Int) → Int)} : P2 (GC V lw σ) 128 254 [] := by
  refine ⟨vI (if px_hap σ 0 (V 0 0).toNat = px_hap σ 1 (V 0 0).toNat then -2 else if px_hap σ 1 (V 0 0).toNat < px_hap σ 0 (V 0 0).toNat then 0 else 1), fun w I L G d Q q => ?_, fun w I L G d Q q => ?_⟩
  · obtain ⟨⟨hw, hR, hL, hV, hM, hN⟩, rS, mS, wS, ny, ct⟩ := id G
    have h6 := hV.1.1
    have g1 : I w.1 0 = ((V 0 0).toNat : Int) := by have : I w.1 0 = V 0 0 := hR.1.1; omega
    have z := q _ _ _ QR.rf
    rw [S128]
    simp (disch := omega) only [KX, HW hw, HS (show isS 51 from Or.inl rfl), g1, s64 (s := 51) (n := (V 0 0).toNat) (t := 0) (Or.inl rfl) (by omega) (by omega) (rS.bA wS.1), s64 (s := 51) (n := (V 0 0).toNat) (t := 1) (Or.inl rfl) (by omega) (by omega) (rS.bA wS.1), rS.hap (n := (V 0 0).toNat) (t := 0) (by omega) (by omega), rS.hap (n := (V 0 0).toNat) (t := 1) (by omega) (by omega), B128_50, GA, GR, GRc, GO, GI, GL, GV, am_w_i, am_ga, am_it, am_if, true_and, and_true, or_true, true_or, ne_eq, not_false_eq_true, not_true_eq_false, false_imp_iff, true_imp_iff, Int.reduceEq, Int.reduceLT, Int.reduceLE, Int.reduceAdd, Int.reduceSub, Int.reduceMul, Int.reduceNeg]
    by_cases c : px_hap σ 0 (V 0 0).toNat = px_hap σ 1 (V 0 0).toNat
    · rw [if_pos c] at z; simp [c, z]
    · rw [if_neg c] at z
      by_cases c1 : px_hap σ 1 (V 0 0).toNat < px_hap σ 0 (V 0 0).toNat
      · rw [if_pos c1] at z
        have c2 : ¬ px_hap σ 0 (V 0 0).toNat ≤ px_hap σ 1 (V 0 0).toNat := by omega
        simp [c, c2, z]
      · rw [if_neg c1] at z
        have c2 : px_hap σ 0 (V 0 0).toNat ≤ px_hap σ 1 (V 0 0).toNat := by omega
        simp [c, c2, z]
  · obtain ⟨⟨hw, hR, hL, hV, hM, hN⟩, rS, mS, wS, ny, ct⟩ := id G
    have h6 := hV.1.1
    have z := q _ _ (QR.t (v := 0))
    rw [S254]
    simp (disch := omega) only [Kk, B254_5, s220 (n := (V 0 0).toNat) hM.t hV (by omega) (b := 0) (t := 0) (Or.inl rfl) mS.t wS (by omega), s220 (n := (V 0 0).toNat) hM.t hV (by omega) (b := 0) (t := 1) (Or.inl rfl) mS.t wS (by omega), B254_39, GA, GR, GRc, GO, GI, GL, GV, am_w_i, am_ga, am_it, am_if, true_and, and_true, or_true, true_or, ne_eq, not_false_eq_true, not_true_eq_false, false_imp_iff, true_imp_iff, Int.reduceEq, Int.reduceLT, Int.reduceLE, Int.reduceAdd, Int.reduceSub, Int.reduceMul, Int.reduceNeg]
    by_cases c : px_hap σ 0 (V 0 0).toNat = px_hap σ 1 (V 0 0).toNat
    · rw [if_pos c] at z; simp [c, z]
    · rw [if_neg c] at z
      by_cases c1 : px_hap σ 1 (V 0 0).toNat < px_hap σ 0 (V 0 0).toNat
      · rw [if_pos c1] at z
        have c2 : ¬ px_hap σ 0 (V 0 0).toNat ≤ px_hap σ 1 (V 0 0).toNat := by omega
        simp [c2, z]
      · rw [if_neg c1] at z
        have c2 : px_hap σ 0 (V 0 0).toNat ≤ px_hap σ 1 (V 0 0).toNat := by omega
        have c3 : ¬ px_hap σ 1 (V 0 0).toNat ≤ px_hap σ 0 (V 0 0).toNat := by omega
        simp [c2, c3, z]
theorem q_payers {V σ : (Nat → Int → Int)} {lw : (Int → (Int → Int) → Int)} {e : Int} : P2 (GC V lw σ) 132 256 [vI e] := by
  by_cases c : 0 ≤ e ∧ e < V 0 1
  · refine ⟨vI ((if V 8 e ≤ σ 2 0 then 1 else 0) + (if V 8 e ≤ σ 2 1 then 2 else 0)), fun w I L G d Q q => ?_, fun w I L G d Q q => ?_⟩
    · obtain ⟨⟨hw, hR, hL, hV, hM, hN⟩, rS, mS, wS, ny, ct⟩ := id G
      have h8 := hV.1.2.1
      have z := q _ _ _ QR.rf
      rw [S132]
      simp (disch := omega) only [KX, s94 hw hR, c, if_true, HW hw, (hR.2.2.1 e c.1 c.2).2.2.2.1, HS (show isS 51 from Or.inl rfl), rS.2.1 0 (by omega) (by omega), rS.2.1 1 (by omega) (by omega), B132_38, B132_56, GA, GR, GRc, GO, GI, GL, GV, am_w_i, am_ga, am_it, am_if, true_and, and_true, or_true, true_or, ne_eq, not_false_eq_true, not_true_eq_false, false_imp_iff, true_imp_iff, Int.reduceEq, Int.reduceLT, Int.reduceLE, Int.reduceAdd, Int.reduceSub, Int.reduceMul, Int.reduceNeg]
      by_cases c1 : V 8 e ≤ σ 2 0 <;> by_cases c2 : V 8 e ≤ σ 2 1 <;>
      · have d1 : (σ 2 0 < V 8 e) = ¬ (V 8 e ≤ σ 2 0) := by simp
        have d2 : (σ 2 1 < V 8 e) = ¬ (V 8 e ≤ σ 2 1) := by simp
        simp only [c1, c2, if_true, if_false] at z
        simp only [d1, d2, c1, c2]
        simp (disch := omega) only [GA, GR, GRc, GO, GI, GL, GV, am_w_i, am_ga, am_it, am_if, true_and, and_true, or_true, true_or, ne_eq, not_false_eq_true, not_true_eq_false, false_imp_iff, true_imp_iff, Int.reduceEq, Int.reduceLT, Int.reduceLE, Int.reduceAdd, Int.reduceSub, Int.reduceMul, Int.reduceNeg]
        exact z
    · obtain ⟨⟨hw, hR, hL, hV, hM, hN⟩, rS, mS, wS, ny, ct⟩ := id G
      have h8 := hV.1.2.1
      have z := q _ _ (QR.t (v := 0))
      rw [S256]
      simp (disch := omega) only [Kk, B256_5, s200 hM.t, c, if_true, Kw, Ks, am_up_a, (hM.2.2.1 e c.1 c.2).2.2.2.1, mS.p0 (j := 0), mS.p0 (j := 1), B256_35, B256_55, GA, GR, GRc, GO, GI, GL, GV, am_w_i, am_ga, am_it, am_if, true_and, and_true, or_true, true_or, ne_eq, not_false_eq_true, not_true_eq_false, false_imp_iff, true_imp_iff, Int.reduceEq, Int.reduceLT, Int.reduceLE, Int.reduceAdd, Int.reduceSub, Int.reduceMul, Int.reduceNeg]
      by_cases c1 : V 8 e ≤ σ 2 0 <;> by_cases c2 : V 8 e ≤ σ 2 1 <;>
      · have d1 : (σ 2 0 < V 8 e) = ¬ (V 8 e ≤ σ 2 0) := by simp
        have d2 : (σ 2 1 < V 8 e) = ¬ (V 8 e ≤ σ 2 1) := by simp
        simp only [c1, c2, if_true, if_false] at z
        simp only [d1, d2, c1, c2]
        simp (disch := omega) only [GA, GR, GRc, GO, GI, GL, GV, am_w_i, am_ga, am_it, am_if, true_and, and_true, or_true, true_or, ne_eq, not_false_eq_true, not_true_eq_false, false_imp_iff, true_imp_iff, Int.reduceEq, Int.reduceLT, Int.reduceLE, Int.reduceAdd, Int.reduceSub, Int.reduceMul, Int.reduceNeg]
        exact z
  · refine ⟨vI (-1), fun w I L G d Q q => ?_, fun w I L G d Q q => ?_⟩
    · obtain ⟨⟨hw, hR, hL, hV, hM, hN⟩, rS, mS, wS, ny, ct⟩ := id G
      have z := q _ _ _ QR.rf
      rw [S132]
      simp (disch := omega) only [KX, s94 hw hR, c, if_false, z, GA, GR, GRc, GO, GI, GL, GV, am_w_i, am_ga, am_it, am_if, true_and, and_true, or_true, true_or, ne_eq, not_false_eq_true, not_true_eq_false, false_imp_iff, true_imp_iff, Int.reduceEq, Int.reduceLT, Int.reduceLE, Int.reduceAdd, Int.reduceSub, Int.reduceMul, Int.reduceNeg]
    · obtain ⟨⟨hw, hR, hL, hV, hM, hN⟩, rS, mS, wS, ny, ct⟩ := id G
      have z := q _ _ (QR.t (v := 0))
      rw [S256]
      simp (disch := omega) only [Kk, B256_5, s200 hM.t, c, if_false, z, GA, GR, GRc, GO, GI, GL, GV, am_w_i, am_ga, am_it, am_if, true_and, and_true, or_true, true_or, ne_eq, not_false_eq_true, not_true_eq_false, false_imp_iff, true_imp_iff, Int.reduceEq, Int.reduceLT, Int.reduceLE, Int.reduceAdd, Int.reduceSub, Int.reduceMul, Int.reduceNeg]
theorem q_healed {V σ : (Nat → Int → Int)} {lw : (Int → (Int → Int) → Int)} {k : Int} : P2 (GC V lw σ) 133 257 [vI k] := by
  by_cases c : 0 ≤ k ∧ k < V 0 0
  · refine ⟨vI (if am_max (iabs (σ 1 (2 * k))) (iabs (σ 1 (2 * k + 1))) = 0 then 0 else if V 3 k = 0 then -2 else (am_max (iabs (σ 1 (2 * k))) (iabs (σ 1 (2 * k + 1))) + V 3 k - 1).tdiv (V 3 k)), fun w I L G d Q q => ?_, fun w I L G d Q q => ?_⟩
    · obtain ⟨⟨hw, hR, hL, hV, hM, hN⟩, rS, mS, wS, ny, ct⟩ := id G
      have h6 := hV.1.1
      have h9 := (hV.2.1 k c.1 c.2).2
      have z := q _ _ _ QR.rf
      have a1 := wS.1 (2 * k) (by omega) (by omega)
      have a2 := wS.1 (2 * k + 1) (by omega) (by omega)
      have e1 : I (51 + 1) (2 * k) = σ 1 (2 * k) := rS.1 _ (by omega) (by omega)
      have e2 : I (51 + 1) (2 * k + 1) = σ 1 (2 * k + 1) := rS.1 _ (by omega) (by omega)
      have b1 := iabs_b (c := 999) a1
      have b2 := iabs_b (c := 999) a2
      have mb : 0 ≤ am_max (iabs (σ 1 (2 * k))) (iabs (σ 1 (2 * k + 1))) ∧ am_max (iabs (σ 1 (2 * k))) (iabs (σ 1 (2 * k + 1))) ≤ 999 := by unfold am_max; split <;> omega
      rw [S133]
      simp (disch := omega) only [KX, s93 hw hR, c, if_true, HS (show isS 51 from Or.inl rfl), s59 (s := 51) (Or.inl rfl) (k := k) (t := 0) ⟨c.1, by omega⟩ (by omega), s59 (s := 51) (Or.inl rfl) (k := k) (t := 1) ⟨c.1, by omega⟩ (by omega), Int.add_zero, e1, e2, am_abs_i, HW hw, (hR.2.1 k c.1 c.2).2.2, B133_70, GA, GR, GRc, GO, GI, GL, GV, am_w_i, am_ga, am_it, am_if, true_and, and_true, or_true, true_or, ne_eq, not_false_eq_true, not_true_eq_false, false_imp_iff, true_imp_iff, Int.reduceEq, Int.reduceLT, Int.reduceLE, Int.reduceAdd, Int.reduceSub, Int.reduceMul, Int.reduceNeg]
      generalize am_max (iabs (σ 1 (2 * k))) (iabs (σ 1 (2 * k + 1))) = m at mb z ⊢
      by_cases c1 : m = 0
      · rw [if_pos c1] at z; simp (disch := omega) only [c1, z, GA, GR, GRc, GO, GI, GL, GV, am_w_i, am_ga, am_it, am_if, true_and, and_true, or_true, true_or, ne_eq, not_false_eq_true, not_true_eq_false, false_imp_iff, true_imp_iff, Int.reduceEq, Int.reduceLT, Int.reduceLE, Int.reduceAdd, Int.reduceSub, Int.reduceMul, Int.reduceNeg]
      · rw [if_neg c1] at z
        by_cases c2 : V 3 k = 0
        · rw [if_pos c2] at z; simp (disch := omega) only [c1, c2, z, GA, GR, GRc, GO, GI, GL, GV, am_w_i, am_ga, am_it, am_if, true_and, and_true, or_true, true_or, ne_eq, not_false_eq_true, not_true_eq_false, false_imp_iff, true_imp_iff, Int.reduceEq, Int.reduceLT, Int.reduceLE, Int.reduceAdd, Int.reduceSub, Int.reduceMul, Int.reduceNeg]
        · rw [if_neg c2] at z
          have td := tdiv_b (a := m + V 3 k - 1) (b := V 3 k) (c := 2000) (by omega)
          simp (disch := omega) only [c1, c2, z, GA, GR, GRc, GO, GI, GL, GV, am_w_i, am_ga, am_it, am_if, true_and, and_true, or_true, true_or, ne_eq, not_false_eq_true, not_true_eq_false, false_imp_iff, true_imp_iff, Int.reduceEq, Int.reduceLT, Int.reduceLE, Int.reduceAdd, Int.reduceSub, Int.reduceMul, Int.reduceNeg]
    · obtain ⟨⟨hw, hR, hL, hV, hM, hN⟩, rS, mS, wS, ny, ct⟩ := id G
      have h6 := hV.1.1
      have h9 := (hV.2.1 k c.1 c.2).2
      have z := q _ _ (QR.t (v := 0))
      have a1 := wS.1 (2 * k) (by omega) (by omega)
      have a2 := wS.1 (2 * k + 1) (by omega) (by omega)
      have b1 := iabs_b (c := 999) a1
      have b2 := iabs_b (c := 999) a2
      have mb : 0 ≤ am_max (iabs (σ 1 (2 * k))) (iabs (σ 1 (2 * k + 1))) ∧ am_max (iabs (σ 1 (2 * k))) (iabs (σ 1 (2 * k + 1))) ≤ 999 := by unfold am_max; split <;> omega
      have fin : am_WP (d + 20) 257 51 [some (vR (some 99)), some (vI k), some (vI (iabs (σ 1 (2 * k)))), some (vI (iabs (σ 1 (2 * k + 1)))), none] [vI (am_max (iabs (σ 1 (2 * k))) (iabs (σ 1 (2 * k + 1))))] (mkH w (am_up I 99 2 0) L) Q := by
        rw [B257_51]
        generalize am_max (iabs (σ 1 (2 * k))) (iabs (σ 1 (2 * k + 1))) = m at mb z ⊢
        simp (disch := omega) only [Kk, Kw, am_up_a, (hM.2.1 k c.1 c.2).2.2, B257_94, GA, GR, GRc, GO, GI, GL, GV, am_w_i, am_ga, am_it, am_if, true_and, and_true, or_true, true_or, ne_eq, not_false_eq_true, not_true_eq_false, false_imp_iff, true_imp_iff, Int.reduceEq, Int.reduceLT, Int.reduceLE, Int.reduceAdd, Int.reduceSub, Int.reduceMul, Int.reduceNeg]
        by_cases c1 : m = 0
        · rw [if_pos c1] at z; simp (disch := omega) only [c1, z, GA, GR, GRc, GO, GI, GL, GV, am_w_i, am_ga, am_it, am_if, true_and, and_true, or_true, true_or, ne_eq, not_false_eq_true, not_true_eq_false, false_imp_iff, true_imp_iff, Int.reduceEq, Int.reduceLT, Int.reduceLE, Int.reduceAdd, Int.reduceSub, Int.reduceMul, Int.reduceNeg]
        · rw [if_neg c1] at z
          by_cases c2 : V 3 k = 0
          · rw [if_pos c2] at z; simp (disch := omega) only [c1, c2, z, GA, GR, GRc, GO, GI, GL, GV, am_w_i, am_ga, am_it, am_if, true_and, and_true, or_true, true_or, ne_eq, not_false_eq_true, not_true_eq_false, false_imp_iff, true_imp_iff, Int.reduceEq, Int.reduceLT, Int.reduceLE, Int.reduceAdd, Int.reduceSub, Int.reduceMul, Int.reduceNeg]
          · rw [if_neg c2] at z
            have td := tdiv_b (a := m + V 3 k - 1) (b := V 3 k) (c := 2000) (by omega)
            simp (disch := omega) only [c1, c2, z, GA, GR, GRc, GO, GI, GL, GV, am_w_i, am_ga, am_it, am_if, true_and, and_true, or_true, true_or, ne_eq, not_false_eq_true, not_true_eq_false, false_imp_iff, true_imp_iff, Int.reduceEq, Int.reduceLT, Int.reduceLE, Int.reduceAdd, Int.reduceSub, Int.reduceMul, Int.reduceNeg]
      rw [S257]
      simp (disch := omega) only [Kk, B257_5, s199 hM.t, c, if_true, Ks, am_up_a, mS.a0 (j := 2 * k), mS.a0 (j := 2 * k + 1), s202, GA, GR, GRc, GO, GI, GL, GV, am_w_i, am_ga, am_it, am_if, true_and, and_true, or_true, true_or, ne_eq, not_false_eq_true, not_true_eq_false, false_imp_iff, true_imp_iff, Int.reduceEq, Int.reduceLT, Int.reduceLE, Int.reduceAdd, Int.reduceSub, Int.reduceMul, Int.reduceNeg]
      refine ⟨fun c1 => ?_, fun c1 => ?_⟩
      · have : am_max (iabs (σ 1 (2 * k))) (iabs (σ 1 (2 * k + 1))) = iabs (σ 1 (2 * k + 1)) := by unfold am_max; split <;> omega
        rw [this] at fin; exact fin
      · have : am_max (iabs (σ 1 (2 * k))) (iabs (σ 1 (2 * k + 1))) = iabs (σ 1 (2 * k)) := by unfold am_max; split <;> omega
        rw [this] at fin; exact fin
  · refine ⟨vI (-1), fun w I L G d Q q => ?_, fun w I L G d Q q => ?_⟩
    · obtain ⟨⟨hw, hR, hL, hV, hM, hN⟩, rS, mS, wS, ny, ct⟩ := id G
      have z := q _ _ _ QR.rf
      rw [S133]
      simp (disch := omega) only [KX, s93 hw hR, c, if_false, z, GA, GR, GRc, GO, GI, GL, GV, am_w_i, am_ga, am_it, am_if, true_and, and_true, or_true, true_or, ne_eq, not_false_eq_true, not_true_eq_false, false_imp_iff, true_imp_iff, Int.reduceEq, Int.reduceLT, Int.reduceLE, Int.reduceAdd, Int.reduceSub, Int.reduceMul, Int.reduceNeg]
    · obtain ⟨⟨hw, hR, hL, hV, hM, hN⟩, rS, mS, wS, ny, ct⟩ := id G
      have z := q _ _ (QR.t (v := 0))
      rw [S257]
      simp (disch := omega) only [Kk, B257_5, s199 hM.t, c, if_false, z, GA, GR, GRc, GO, GI, GL, GV, am_w_i, am_ga, am_it, am_if, true_and, and_true, or_true, true_or, ne_eq, not_false_eq_true, not_true_eq_false, false_imp_iff, true_imp_iff, Int.reduceEq, Int.reduceLT, Int.reduceLE, Int.reduceAdd, Int.reduceSub, Int.reduceMul, Int.reduceNeg]
def px_bits (p : Nat → Bool) : Nat → Int
  | 0 => 0
  | m + 1 => if p m = true then am_or (px_bits p m) (am_shl 1 m) else px_bits p m
theorem px_bits_in (p : Nat → Bool) : ∀ m, am_in (px_bits p m)
  | 0 => by unfold am_in; simp [px_bits]
  | m + 1 => by rw [px_bits]; split; exact am_or_in _ _; exact px_bits_in p m
theorem am_or_0 {x : Int} (h : am_in x) : am_or x 0 = x := by
  unfold am_or
  rw [show Int32.ofInt 0 = 0 from rfl, Int32.or_zero, am_toI h]
theorem q_wanted {V σ : (Nat → Int → Int)} {lw : (Int → (Int → Int) → Int)} {t : Int} : P2 (GC V lw σ) 120 246 [vI t] := by
  by_cases c : t = 0 ∨ t = 1
  · have ht : 0 ≤ t ∧ t < 2 := by omega
    refine ⟨vI (px_bits (fun k => decide (σ 1 (2 * (k : Int) + t) < σ 1 (2 * (k : Int) + (1 - t)))) (V 0 0).toNat), fun w I L G d Q q => ?_, fun w I L G d Q q => ?_⟩
    · obtain ⟨⟨hw, hR, hL, hV, hM, hN⟩, rS, mS, wS, ny, ct⟩ := id G
      have h6 := hV.1.1
      obtain ⟨n, hn⟩ : ∃ n : Nat, V 0 0 = n := ⟨(V 0 0).toNat, by omega⟩
      have hn2 : (V 0 0).toNat = n := by omega
      rw [hn2] at q
      rw [S120]
      simp (disch := omega) only [s95, c, if_true, GA, GR, GRc, GO, GI, GL, GV, am_w_i, am_ga, am_it, am_if, true_and, and_true, or_true, true_or, ne_eq, not_false_eq_true, not_true_eq_false, false_imp_iff, true_imp_iff, Int.reduceEq, Int.reduceLT, Int.reduceLE, Int.reduceAdd, Int.reduceSub, Int.reduceMul, Int.reduceNeg]
      refine am_loop (α := Unit) n (fun i _ => am_WP (d + 20) 120 13 [some (vR (some 0)), some (vI t), some (vI (px_bits (fun k => decide (σ 1 (2 * (k : Int) + t) < σ 1 (2 * (k : Int) + (1 - t)))) i)), some (vI (i : Int))] [] (mkH w I L) Q) (fun i _ => True) ?_ ?_ 0 () (Nat.zero_le _) trivial
      · intro i _ hi _ ih
        have z := ih () trivial
        rw [px_bits] at z
        have e1 : I (51 + 1) (2 * (i : Int) + t) = σ 1 (2 * (i : Int) + t) := rS.1 _ (by omega) (by omega)
        have e2 : I (51 + 1) (2 * (i : Int) + (1 - t)) = σ 1 (2 * (i : Int) + (1 - t)) := rS.1 _ (by omega) (by omega)
        rw [B120_13]
        simp (disch := omega) only [KX, HW hw, hR.1.1, hn, HS (show isS 51 from Or.inl rfl), s59 (s := 51) (Or.inl rfl) (k := (i : Int)) (t := t) ⟨by omega, by omega⟩ ht, s59 (s := 51) (Or.inl rfl) (k := (i : Int)) (t := 1 - t) ⟨by omega, by omega⟩ (by omega), e1, e2, B120_53, GA, GR, GRc, GO, GI, GL, GV, am_w_i, am_ga, am_it, am_if, true_and, and_true, or_true, true_or, ne_eq, not_false_eq_true, not_true_eq_false, false_imp_iff, true_imp_iff, Int.reduceEq, Int.reduceLT, Int.reduceLE, Int.reduceAdd, Int.reduceSub, Int.reduceMul, Int.reduceNeg]
        by_cases c1 : σ 1 (2 * (i : Int) + t) < σ 1 (2 * (i : Int) + (1 - t))
        · rw [if_pos (decide_eq_true c1)] at z
          first | (simp (disch := omega) only [GA, GR, GRc, GO, GI, GL, GV, am_w_i, am_ga, am_it, am_if, true_and, and_true, or_true, true_or, ne_eq, not_false_eq_true, not_true_eq_false, false_imp_iff, true_imp_iff, Int.reduceEq, Int.reduceLT, Int.reduceLE, Int.reduceAdd, Int.reduceSub, Int.reduceMul, Int.reduceNeg]; exact z) | simp (disch := omega) only [z, GA, GR, GRc, GO, GI, GL, GV, am_w_i, am_ga, am_it, am_if, true_and, and_true, or_true, true_or, ne_eq, not_false_eq_true, not_true_eq_false, false_imp_iff, true_imp_iff, Int.reduceEq, Int.reduceLT, Int.reduceLE, Int.reduceAdd, Int.reduceSub, Int.reduceMul, Int.reduceNeg]
        · rw [if_neg (by simp [c1])] at z
          first | (simp (disch := omega) only [GA, GR, GRc, GO, GI, GL, GV, am_w_i, am_ga, am_it, am_if, true_and, and_true, or_true, true_or, ne_eq, not_false_eq_true, not_true_eq_false, false_imp_iff, true_imp_iff, Int.reduceEq, Int.reduceLT, Int.reduceLE, Int.reduceAdd, Int.reduceSub, Int.reduceMul, Int.reduceNeg]; exact z) | simp (disch := omega) only [z, GA, GR, GRc, GO, GI, GL, GV, am_w_i, am_ga, am_it, am_if, true_and, and_true, or_true, true_or, ne_eq, not_false_eq_true, not_true_eq_false, false_imp_iff, true_imp_iff, Int.reduceEq, Int.reduceLT, Int.reduceLE, Int.reduceAdd, Int.reduceSub, Int.reduceMul, Int.reduceNeg]
      · intro _ _
        rw [B120_13]
        simp (disch := omega) only [KX, HW hw, hR.1.1, hn, GA, GR, GRc, GO, GI, GL, GV, am_w_i, am_ga, am_it, am_if, true_and, and_true, or_true, true_or, ne_eq, not_false_eq_true, not_true_eq_false, false_imp_iff, true_imp_iff, Int.reduceEq, Int.reduceLT, Int.reduceLE, Int.reduceAdd, Int.reduceSub, Int.reduceMul, Int.reduceNeg]
        exact q _ _ _ QR.rf
    · obtain ⟨⟨hw, hR, hL, hV, hM, hN⟩, rS, mS, wS, ny, ct⟩ := id G
      have h6 := hV.1.1
      obtain ⟨n, hn⟩ : ∃ n : Nat, V 0 0 = n := ⟨(V 0 0).toNat, by omega⟩
      have hn2 : (V 0 0).toNat = n := by omega
      rw [hn2] at q
      rw [S246]
      simp (disch := omega) only [Kk, B246_5, s201, c, if_true, GA, GR, GRc, GO, GI, GL, GV, am_w_i, am_ga, am_it, am_if, true_and, and_true, or_true, true_or, ne_eq, not_false_eq_true, not_true_eq_false, false_imp_iff, true_imp_iff, Int.reduceEq, Int.reduceLT, Int.reduceLE, Int.reduceAdd, Int.reduceSub, Int.reduceMul, Int.reduceNeg]
      refine am_loop (α := Unit) n (fun i _ => am_WP (d + 20) 246 18 [some (vR (some 99)), some (vI t), some (vI (px_bits (fun k => decide (σ 1 (2 * (k : Int) + t) < σ 1 (2 * (k : Int) + (1 - t)))) i)), some (vI (i : Int))] [] (mkH w (am_up I 99 2 0) L) Q) (fun i _ => True) ?_ ?_ 0 () (Nat.zero_le _) trivial
      · intro i _ hi _ ih
        have z := ih () trivial
        rw [px_bits] at z
        have e2 : 2 * (i : Int) + 1 - t = 2 * (i : Int) + (1 - t) := by omega
        rw [B246_18]
        simp (disch := omega) only [Kk, am_up_n, hM.1.1, hn, Ks, am_up_a, e2, mS.a0 (j := 2 * (i : Int) + t), mS.a0 (j := 2 * (i : Int) + (1 - t)), B246_59, am_or_0 (px_bits_in _ _), GA, GR, GRc, GO, GI, GL, GV, am_w_i, am_ga, am_it, am_if, true_and, and_true, or_true, true_or, ne_eq, not_false_eq_true, not_true_eq_false, false_imp_iff, true_imp_iff, Int.reduceEq, Int.reduceLT, Int.reduceLE, Int.reduceAdd, Int.reduceSub, Int.reduceMul, Int.reduceNeg]
        by_cases c1 : σ 1 (2 * (i : Int) + t) < σ 1 (2 * (i : Int) + (1 - t))
        · rw [if_pos (decide_eq_true c1)] at z
          first | (simp (disch := omega) only [GA, GR, GRc, GO, GI, GL, GV, am_w_i, am_ga, am_it, am_if, true_and, and_true, or_true, true_or, ne_eq, not_false_eq_true, not_true_eq_false, false_imp_iff, true_imp_iff, Int.reduceEq, Int.reduceLT, Int.reduceLE, Int.reduceAdd, Int.reduceSub, Int.reduceMul, Int.reduceNeg]; exact z) | simp (disch := omega) only [z, GA, GR, GRc, GO, GI, GL, GV, am_w_i, am_ga, am_it, am_if, true_and, and_true, or_true, true_or, ne_eq, not_false_eq_true, not_true_eq_false, false_imp_iff, true_imp_iff, Int.reduceEq, Int.reduceLT, Int.reduceLE, Int.reduceAdd, Int.reduceSub, Int.reduceMul, Int.reduceNeg]
        · rw [if_neg (by simp [c1])] at z
          first | (simp (disch := omega) only [GA, GR, GRc, GO, GI, GL, GV, am_w_i, am_ga, am_it, am_if, true_and, and_true, or_true, true_or, ne_eq, not_false_eq_true, not_true_eq_false, false_imp_iff, true_imp_iff, Int.reduceEq, Int.reduceLT, Int.reduceLE, Int.reduceAdd, Int.reduceSub, Int.reduceMul, Int.reduceNeg]; exact z) | simp (disch := omega) only [z, GA, GR, GRc, GO, GI, GL, GV, am_w_i, am_ga, am_it, am_if, true_and, and_true, or_true, true_or, ne_eq, not_false_eq_true, not_true_eq_false, false_imp_iff, true_imp_iff, Int.reduceEq, Int.reduceLT, Int.reduceLE, Int.reduceAdd, Int.reduceSub, Int.reduceMul, Int.reduceNeg]
      · intro _ _
        rw [B246_18]
        simp (disch := omega) only [Kk, am_up_n, hM.1.1, hn, GA, GR, GRc, GO, GI, GL, GV, am_w_i, am_ga, am_it, am_if, true_and, and_true, or_true, true_or, ne_eq, not_false_eq_true, not_true_eq_false, false_imp_iff, true_imp_iff, Int.reduceEq, Int.reduceLT, Int.reduceLE, Int.reduceAdd, Int.reduceSub, Int.reduceMul, Int.reduceNeg]
        exact q _ _ QR.t
  · refine ⟨vI (-1), fun w I L G d Q q => ?_, fun w I L G d Q q => ?_⟩
    · have z := q _ _ _ QR.rf
      rw [S120]
      simp (disch := omega) only [s95, c, if_false, z, GA, GR, GRc, GO, GI, GL, GV, am_w_i, am_ga, am_it, am_if, true_and, and_true, or_true, true_or, ne_eq, not_false_eq_true, not_true_eq_false, false_imp_iff, true_imp_iff, Int.reduceEq, Int.reduceLT, Int.reduceLE, Int.reduceAdd, Int.reduceSub, Int.reduceMul, Int.reduceNeg]
    · have z := q _ _ (QR.t (v := 0))
      rw [S246]
      simp (disch := omega) only [Kk, B246_5, s201, c, if_false, z, GA, GR, GRc, GO, GI, GL, GV, am_w_i, am_ga, am_it, am_if, true_and, and_true, or_true, true_or, ne_eq, not_false_eq_true, not_true_eq_false, false_imp_iff, true_imp_iff, Int.reduceEq, Int.reduceLT, Int.reduceLE, Int.reduceAdd, Int.reduceSub, Int.reduceMul, Int.reduceNeg]
theorem px_gs_b {V σ : (Nat → Int → Int)} {D : Int} {k : Int} (hV : WV V) (hW : WS D σ) (h0 : 0 ≤ k) (h1 : k < V 0 0) : 0 ≤ px_gap σ k * V 2 k ∧ px_gap σ k * V 2 k ≤ 17982 := by
  have h6 := hV.1.1
  have a := px_gap_b (k := k) hW.1 h0 (by omega)
  have b := (hV.2.1 k h0 h1).1
  exact ⟨Int.mul_nonneg a.1 b.1, Int.le_trans (Int.mul_le_mul a.2 b.2 b.1 (by omega)) (by omega)⟩
theorem s117 {d : Nat} {w : Nat × Nat × Nat × Nat} {I L : Nat → Int → Int} {V σ : (Nat → Int → Int)} {lw : (Int → (Int → Int) → Int)} {k : Int} (G : GC V lw σ w I L) (h0 : 0 ≤ k) (h1 : k < V 0 0) (Q : Option am_V → am_H → Prop) : am_Sp (d + 2) 117 [vR (some 0), vI k] (mkH w I L) Q ↔ Q (some (vI (px_gap σ k * V 2 k))) (mkH w I L) := by
  obtain ⟨⟨hw, hR, hL, hV, hM, hN⟩, rS, mS, wS, ny, ct⟩ := id G
  have h6 := hV.1.1
  have b := px_gs_b hV wS h0 h1
  rw [S117]
  simp (disch := omega) only [KX, HS (show isS 51 from Or.inl rfl), s62 (s := 51) (Or.inl rfl) (k := k) ⟨h0, by omega⟩ (rS.bA wS.1), rS.gap h0, HW hw, (hR.2.1 k h0 h1).2.1, GA, GR, GRc, GO, GI, GL, GV, am_w_i, am_ga, am_it, am_if, true_and, and_true, or_true, true_or, ne_eq, not_false_eq_true, not_true_eq_false, false_imp_iff, true_imp_iff, Int.reduceEq, Int.reduceLT, Int.reduceLE, Int.reduceAdd, Int.reduceSub, Int.reduceMul, Int.reduceNeg]
theorem q_tells {V σ : (Nat → Int → Int)} {lw : (Int → (Int → Int) → Int)} : P2 (GC V lw σ) 119 245 [] := by
  refine ⟨vI (px_bits (fun k => decide (10 ≤ px_gap σ k * V 2 k)) (V 0 0).toNat), fun w I L G d Q q => ?_, fun w I L G d Q q => ?_⟩
  · have G0 := G
    obtain ⟨⟨hw, hR, hL, hV, hM, hN⟩, rS, mS, wS, ny, ct⟩ := id G
    have h6 := hV.1.1
    obtain ⟨n, hn⟩ : ∃ n : Nat, V 0 0 = n := ⟨(V 0 0).toNat, by omega⟩
    have hn2 : (V 0 0).toNat = n := by omega
    rw [hn2] at q
    rw [S119]
    refine am_loop (α := Unit) n (fun i _ => am_WP (d + 20) 119 4 [some (vR (some 0)), some (vI (px_bits (fun k => decide (10 ≤ px_gap σ k * V 2 k)) i)), some (vI (i : Int))] [] (mkH w I L) Q) (fun i _ => True) ?_ ?_ 0 () (Nat.zero_le _) trivial
    · intro i _ hi _ ih
      have z := ih () trivial
      rw [px_bits] at z
      rw [B119_4]
      simp (disch := omega) only [KX, HW hw, hR.1.1, hn, s117 G0 (k := (i : Int)) (by omega) (by omega), B119_31, GA, GR, GRc, GO, GI, GL, GV, am_w_i, am_ga, am_it, am_if, true_and, and_true, or_true, true_or, ne_eq, not_false_eq_true, not_true_eq_false, false_imp_iff, true_imp_iff, Int.reduceEq, Int.reduceLT, Int.reduceLE, Int.reduceAdd, Int.reduceSub, Int.reduceMul, Int.reduceNeg]
      by_cases c1 : 10 ≤ px_gap σ i * V 2 i
      · rw [if_pos (decide_eq_true c1)] at z
        first | (simp (disch := omega) only [c1, GA, GR, GRc, GO, GI, GL, GV, am_w_i, am_ga, am_it, am_if, true_and, and_true, or_true, true_or, ne_eq, not_false_eq_true, not_true_eq_false, false_imp_iff, true_imp_iff, Int.reduceEq, Int.reduceLT, Int.reduceLE, Int.reduceAdd, Int.reduceSub, Int.reduceMul, Int.reduceNeg]; exact z) | simp (disch := omega) only [c1, z, GA, GR, GRc, GO, GI, GL, GV, am_w_i, am_ga, am_it, am_if, true_and, and_true, or_true, true_or, ne_eq, not_false_eq_true, not_true_eq_false, false_imp_iff, true_imp_iff, Int.reduceEq, Int.reduceLT, Int.reduceLE, Int.reduceAdd, Int.reduceSub, Int.reduceMul, Int.reduceNeg]
      · rw [if_neg (by simp [c1])] at z
        first | (simp (disch := omega) only [c1, GA, GR, GRc, GO, GI, GL, GV, am_w_i, am_ga, am_it, am_if, true_and, and_true, or_true, true_or, ne_eq, not_false_eq_true, not_true_eq_false, false_imp_iff, true_imp_iff, Int.reduceEq, Int.reduceLT, Int.reduceLE, Int.reduceAdd, Int.reduceSub, Int.reduceMul, Int.reduceNeg]; exact z) | simp (disch := omega) only [c1, z, GA, GR, GRc, GO, GI, GL, GV, am_w_i, am_ga, am_it, am_if, true_and, and_true, or_true, true_or, ne_eq, not_false_eq_true, not_true_eq_false, false_imp_iff, true_imp_iff, Int.reduceEq, Int.reduceLT, Int.reduceLE, Int.reduceAdd, Int.reduceSub, Int.reduceMul, Int.reduceNeg]
    · intro _ _
      rw [B119_4]
      simp (disch := omega) only [KX, HW hw, hR.1.1, hn, GA, GR, GRc, GO, GI, GL, GV, am_w_i, am_ga, am_it, am_if, true_and, and_true, or_true, true_or, ne_eq, not_false_eq_true, not_true_eq_false, false_imp_iff, true_imp_iff, Int.reduceEq, Int.reduceLT, Int.reduceLE, Int.reduceAdd, Int.reduceSub, Int.reduceMul, Int.reduceNeg]
      exact q _ _ _ QR.rf
  · obtain ⟨⟨hw, hR, hL, hV, hM, hN⟩, rS, mS, wS, ny, ct⟩ := id G
    have h6 := hV.1.1
    obtain ⟨n, hn⟩ : ∃ n : Nat, V 0 0 = n := ⟨(V 0 0).toNat, by omega⟩
    have hn2 : (V 0 0).toNat = n := by omega
    rw [hn2] at q
    rw [S245]
    simp (disch := omega) only [Kk, B245_5, GA, GR, GRc, GO, GI, GL, GV, am_w_i, am_ga, am_it, am_if, true_and, and_true, or_true, true_or, ne_eq, not_false_eq_true, not_true_eq_false, false_imp_iff, true_imp_iff, Int.reduceEq, Int.reduceLT, Int.reduceLE, Int.reduceAdd, Int.reduceSub, Int.reduceMul, Int.reduceNeg]
    refine am_loop (α := Unit) n (fun i _ => am_WP (d + 20) 245 9 [some (vR (some 99)), some (vI (px_bits (fun k => decide (10 ≤ px_gap σ k * V 2 k)) i)), some (vI (i : Int))] [] (mkH w (am_up I 99 2 0) L) Q) (fun i _ => True) ?_ ?_ 0 () (Nat.zero_le _) trivial
    · intro i _ hi _ ih
      have z := ih () trivial
      rw [px_bits] at z
      have b := px_gs_b hV wS (k := (i : Int)) (by omega) (by omega)
      rw [B245_9]
      simp (disch := omega) only [Kk, am_up_n, hM.1.1, hn, s205 (b := 0) (Or.inl rfl) (k := (i : Int)) ⟨by omega, by omega⟩ mS.t wS, Kw, am_up_a, (hM.2.1 i (by omega) (by omega)).2.1, B245_43, am_or_0 (px_bits_in _ _), GA, GR, GRc, GO, GI, GL, GV, am_w_i, am_ga, am_it, am_if, true_and, and_true, or_true, true_or, ne_eq, not_false_eq_true, not_true_eq_false, false_imp_iff, true_imp_iff, Int.reduceEq, Int.reduceLT, Int.reduceLE, Int.reduceAdd, Int.reduceSub, Int.reduceMul, Int.reduceNeg]
      by_cases c1 : 10 ≤ px_gap σ i * V 2 i
      · rw [if_pos (decide_eq_true c1)] at z
        first | (simp (disch := omega) only [c1, GA, GR, GRc, GO, GI, GL, GV, am_w_i, am_ga, am_it, am_if, true_and, and_true, or_true, true_or, ne_eq, not_false_eq_true, not_true_eq_false, false_imp_iff, true_imp_iff, Int.reduceEq, Int.reduceLT, Int.reduceLE, Int.reduceAdd, Int.reduceSub, Int.reduceMul, Int.reduceNeg]; exact z) | simp (disch := omega) only [c1, z, GA, GR, GRc, GO, GI, GL, GV, am_w_i, am_ga, am_it, am_if, true_and, and_true, or_true, true_or, ne_eq, not_false_eq_true, not_true_eq_false, false_imp_iff, true_imp_iff, Int.reduceEq, Int.reduceLT, Int.reduceLE, Int.reduceAdd, Int.reduceSub, Int.reduceMul, Int.reduceNeg]
      · rw [if_neg (by simp [c1])] at z
        first | (simp (disch := omega) only [c1, GA, GR, GRc, GO, GI, GL, GV, am_w_i, am_ga, am_it, am_if, true_and, and_true, or_true, true_or, ne_eq, not_false_eq_true, not_true_eq_false, false_imp_iff, true_imp_iff, Int.reduceEq, Int.reduceLT, Int.reduceLE, Int.reduceAdd, Int.reduceSub, Int.reduceMul, Int.reduceNeg]; exact z) | simp (disch := omega) only [c1, z, GA, GR, GRc, GO, GI, GL, GV, am_w_i, am_ga, am_it, am_if, true_and, and_true, or_true, true_or, ne_eq, not_false_eq_true, not_true_eq_false, false_imp_iff, true_imp_iff, Int.reduceEq, Int.reduceLT, Int.reduceLE, Int.reduceAdd, Int.reduceSub, Int.reduceMul, Int.reduceNeg]
    · intro _ _
      rw [B245_9]
      simp (disch := omega) only [Kk, am_up_n, hM.1.1, hn, GA, GR, GRc, GO, GI, GL, GV, am_w_i, am_ga, am_it, am_if, true_and, and_true, or_true, true_or, ne_eq, not_false_eq_true, not_true_eq_false, false_imp_iff, true_imp_iff, Int.reduceEq, Int.reduceLT, Int.reduceLE, Int.reduceAdd, Int.reduceSub, Int.reduceMul, Int.reduceNeg]
      exact q _ _ QR.t
def px_sign (V σ : (Nat → Int → Int)) : Nat → Int × Int
  | 0 => (-2, 0)
  | m + 1 => if (px_sign V σ m).2 < px_gap σ m * V 2 m then ((m : Int), px_gap σ m * V 2 m) else px_sign V σ m
theorem q_sign {V σ : (Nat → Int → Int)} {lw : (Int → (Int → Int) → Int)} : P2 (GC V lw σ) 118 244 [] := by
  by_cases c : V 0 0 = 0
  · refine ⟨vI (-1), fun w I L G d Q q => ?_, fun w I L G d Q q => ?_⟩
    · obtain ⟨⟨hw, hR, hL, hV, hM, hN⟩, rS, mS, wS, ny, ct⟩ := id G
      have z := q _ _ _ QR.rf
      rw [S118]
      simp (disch := omega) only [KX, HW hw, hR.1.1, c, z, GA, GR, GRc, GO, GI, GL, GV, am_w_i, am_ga, am_it, am_if, true_and, and_true, or_true, true_or, ne_eq, not_false_eq_true, not_true_eq_false, false_imp_iff, true_imp_iff, Int.reduceEq, Int.reduceLT, Int.reduceLE, Int.reduceAdd, Int.reduceSub, Int.reduceMul, Int.reduceNeg]
    · obtain ⟨⟨hw, hR, hL, hV, hM, hN⟩, rS, mS, wS, ny, ct⟩ := id G
      have z := q _ _ (QR.t (v := 0))
      rw [S244]
      simp (disch := omega) only [Kk, B244_5, am_up_n, hM.1.1, c, z, GA, GR, GRc, GO, GI, GL, GV, am_w_i, am_ga, am_it, am_if, true_and, and_true, or_true, true_or, ne_eq, not_false_eq_true, not_true_eq_false, false_imp_iff, true_imp_iff, Int.reduceEq, Int.reduceLT, Int.reduceLE, Int.reduceAdd, Int.reduceSub, Int.reduceMul, Int.reduceNeg]
  · refine ⟨vI (px_sign V σ (V 0 0).toNat).1, fun w I L G d Q q => ?_, fun w I L G d Q q => ?_⟩
    · have G0 := G
      obtain ⟨⟨hw, hR, hL, hV, hM, hN⟩, rS, mS, wS, ny, ct⟩ := id G
      have h6 := hV.1.1
      obtain ⟨n, hn⟩ : ∃ n : Nat, V 0 0 = n := ⟨(V 0 0).toNat, by omega⟩
      have hn2 : (V 0 0).toNat = n := by omega
      rw [hn2] at q
      rw [S118]
      simp (disch := omega) only [KX, HW hw, hR.1.1, GA, GR, GRc, GO, GI, GL, GV, am_w_i, am_ga, am_it, am_if, true_and, and_true, or_true, true_or, ne_eq, not_false_eq_true, not_true_eq_false, false_imp_iff, true_imp_iff, Int.reduceEq, Int.reduceLT, Int.reduceLE, Int.reduceAdd, Int.reduceSub, Int.reduceMul, Int.reduceNeg]
      refine am_loop (α := Unit) n (fun i _ => am_WP (d + 20) 118 19 [some (vR (some 0)), some (vI (px_sign V σ i).1), some (vI (px_sign V σ i).2), some (vI (i : Int))] [] (mkH w I L) Q) (fun i _ => True) ?_ ?_ 0 () (Nat.zero_le _) trivial
      · intro i _ hi _ ih
        have z := ih () trivial
        rw [px_sign] at z
        rw [B118_19]
        simp (disch := omega) only [KX, HW hw, hR.1.1, hn, s117 G0 (k := (i : Int)) (by omega) (by omega), B118_47, GA, GR, GRc, GO, GI, GL, GV, am_w_i, am_ga, am_it, am_if, true_and, and_true, or_true, true_or, ne_eq, not_false_eq_true, not_true_eq_false, false_imp_iff, true_imp_iff, Int.reduceEq, Int.reduceLT, Int.reduceLE, Int.reduceAdd, Int.reduceSub, Int.reduceMul, Int.reduceNeg]
        by_cases c1 : (px_sign V σ i).2 < px_gap σ i * V 2 i
        · rw [if_pos c1] at z
          first | (simp (disch := omega) only [GA, GR, GRc, GO, GI, GL, GV, am_w_i, am_ga, am_it, am_if, true_and, and_true, or_true, true_or, ne_eq, not_false_eq_true, not_true_eq_false, false_imp_iff, true_imp_iff, Int.reduceEq, Int.reduceLT, Int.reduceLE, Int.reduceAdd, Int.reduceSub, Int.reduceMul, Int.reduceNeg]; exact z) | simp (disch := omega) only [z, GA, GR, GRc, GO, GI, GL, GV, am_w_i, am_ga, am_it, am_if, true_and, and_true, or_true, true_or, ne_eq, not_false_eq_true, not_true_eq_false, false_imp_iff, true_imp_iff, Int.reduceEq, Int.reduceLT, Int.reduceLE, Int.reduceAdd, Int.reduceSub, Int.reduceMul, Int.reduceNeg]
        · rw [if_neg c1] at z
          first | (simp (disch := omega) only [GA, GR, GRc, GO, GI, GL, GV, am_w_i, am_ga, am_it, am_if, true_and, and_true, or_true, true_or, ne_eq, not_false_eq_true, not_true_eq_false, false_imp_iff, true_imp_iff, Int.reduceEq, Int.reduceLT, Int.reduceLE, Int.reduceAdd, Int.reduceSub, Int.reduceMul, Int.reduceNeg]; exact z) | simp (disch := omega) only [z, GA, GR, GRc, GO, GI, GL, GV, am_w_i, am_ga, am_it, am_if, true_and, and_true, or_true, true_or, ne_eq, not_false_eq_true, not_true_eq_false, false_imp_iff, true_imp_iff, Int.reduceEq, Int.reduceLT, Int.reduceLE, Int.reduceAdd, Int.reduceSub, Int.reduceMul, Int.reduceNeg]
      · intro _ _
        rw [B118_19]
        simp (disch := omega) only [KX, HW hw, hR.1.1, hn, GA, GR, GRc, GO, GI, GL, GV, am_w_i, am_ga, am_it, am_if, true_and, and_true, or_true, true_or, ne_eq, not_false_eq_true, not_true_eq_false, false_imp_iff, true_imp_iff, Int.reduceEq, Int.reduceLT, Int.reduceLE, Int.reduceAdd, Int.reduceSub, Int.reduceMul, Int.reduceNeg]
        exact q _ _ _ QR.rf
    · obtain ⟨⟨hw, hR, hL, hV, hM, hN⟩, rS, mS, wS, ny, ct⟩ := id G
      have h6 := hV.1.1
      obtain ⟨n, hn⟩ : ∃ n : Nat, V 0 0 = n := ⟨(V 0 0).toNat, by omega⟩
      have hn2 : (V 0 0).toNat = n := by omega
      rw [hn2] at q
      rw [S244]
      simp (disch := omega) only [Kk, B244_5, am_up_n, hM.1.1, GA, GR, GRc, GO, GI, GL, GV, am_w_i, am_ga, am_it, am_if, true_and, and_true, or_true, true_or, ne_eq, not_false_eq_true, not_true_eq_false, false_imp_iff, true_imp_iff, Int.reduceEq, Int.reduceLT, Int.reduceLE, Int.reduceAdd, Int.reduceSub, Int.reduceMul, Int.reduceNeg]
      refine am_loop (α := Option am_V) n (fun i x => am_WP (d + 20) 244 21 [some (vR (some 99)), some (vI (px_sign V σ i).1), some (vI (px_sign V σ i).2), some (vI (i : Int)), x] [] (mkH w (am_up I 99 2 0) L) Q) (fun i _ => True) ?_ ?_ 0 none (Nat.zero_le _) trivial
      · intro i x hi _ ih
        have b := px_gs_b hV wS (k := (i : Int)) (by omega) (by omega)
        have z := ih (some (vI (px_gap σ i * V 2 i))) trivial
        rw [px_sign] at z
        rw [B244_21]
        simp (disch := omega) only [Kk, am_up_n, hM.1.1, hn, s205 (b := 0) (Or.inl rfl) (k := (i : Int)) ⟨by omega, by omega⟩ mS.t wS, Kw, am_up_a, (hM.2.1 i (by omega) (by omega)).2.1, B244_58, GA, GR, GRc, GO, GI, GL, GV, am_w_i, am_ga, am_it, am_if, true_and, and_true, or_true, true_or, ne_eq, not_false_eq_true, not_true_eq_false, false_imp_iff, true_imp_iff, Int.reduceEq, Int.reduceLT, Int.reduceLE, Int.reduceAdd, Int.reduceSub, Int.reduceMul, Int.reduceNeg]
        by_cases c1 : (px_sign V σ i).2 < px_gap σ i * V 2 i
        · rw [if_pos c1] at z
          first | (simp (disch := omega) only [GA, GR, GRc, GO, GI, GL, GV, am_w_i, am_ga, am_it, am_if, true_and, and_true, or_true, true_or, ne_eq, not_false_eq_true, not_true_eq_false, false_imp_iff, true_imp_iff, Int.reduceEq, Int.reduceLT, Int.reduceLE, Int.reduceAdd, Int.reduceSub, Int.reduceMul, Int.reduceNeg]; exact z) | simp (disch := omega) only [z, GA, GR, GRc, GO, GI, GL, GV, am_w_i, am_ga, am_it, am_if, true_and, and_true, or_true, true_or, ne_eq, not_false_eq_true, not_true_eq_false, false_imp_iff, true_imp_iff, Int.reduceEq, Int.reduceLT, Int.reduceLE, Int.reduceAdd, Int.reduceSub, Int.reduceMul, Int.reduceNeg]
        · rw [if_neg c1] at z
          first | (simp (disch := omega) only [GA, GR, GRc, GO, GI, GL, GV, am_w_i, am_ga, am_it, am_if, true_and, and_true, or_true, true_or, ne_eq, not_false_eq_true, not_true_eq_false, false_imp_iff, true_imp_iff, Int.reduceEq, Int.reduceLT, Int.reduceLE, Int.reduceAdd, Int.reduceSub, Int.reduceMul, Int.reduceNeg]; exact z) | simp (disch := omega) only [z, GA, GR, GRc, GO, GI, GL, GV, am_w_i, am_ga, am_it, am_if, true_and, and_true, or_true, true_or, ne_eq, not_false_eq_true, not_true_eq_false, false_imp_iff, true_imp_iff, Int.reduceEq, Int.reduceLT, Int.reduceLE, Int.reduceAdd, Int.reduceSub, Int.reduceMul, Int.reduceNeg]
      · intro x _
        rw [B244_21]
        simp (disch := omega) only [Kk, am_up_n, hM.1.1, hn, GA, GR, GRc, GO, GI, GL, GV, am_w_i, am_ga, am_it, am_if, true_and, and_true, or_true, true_or, ne_eq, not_false_eq_true, not_true_eq_false, false_imp_iff, true_imp_iff, Int.reduceEq, Int.reduceLT, Int.reduceLE, Int.reduceAdd, Int.reduceSub, Int.reduceMul, Int.reduceNeg]
        exact q _ _ QR.t
