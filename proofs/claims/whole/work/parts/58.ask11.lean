/-! 58: mean, due, busiest -/
/-- what is behind a task's day is no more open -/
def DN (V σ : (Nat → Int → Int)) : Prop := ∀ i, 0 ≤ i → i < V 0 2 → V 12 i < σ 0 3 → σ 3 i ≠ 0
theorem s130 {d : Nat} {w : Nat × Nat × Nat × Nat} {I L : Nat → Int → Int} {V σ : (Nat → Int → Int)} {lw : (Int → (Int → Int) → Int)} {i t : Int} (G : GC V lw σ w I L) (h0 : 0 ≤ i) (h1 : i < V 0 2) (Q : Option am_V → am_H → Prop) : am_Sp d 130 [vR (some 0), vI i, vI t] (mkH w I L) Q ↔ ((σ 3 i = 0 ∧ V 10 i = t → Q (some (vI 1)) (mkH w I L)) ∧ (¬ (σ 3 i = 0 ∧ V 10 i = t) → Q (some (vI 0)) (mkH w I L))) := by
  obtain ⟨⟨hw, hR, hL, hV, hM, hN⟩, rS, mS, wS, ny, ct⟩ := id G
  have h12 := hV.1.2.2
  rw [S130]
  simp (disch := omega) only [KX, HS (show isS 51 from Or.inl rfl), rS.2.2.1 i h0 (by omega), HW hw, (hR.2.2.2.1 i h0 h1).1, B130_29, B130_30, GA, GR, GRc, GO, GI, GL, GV, am_w_i, am_ga, am_it, am_if, true_and, and_true, or_true, true_or, ne_eq, not_false_eq_true, not_true_eq_false, false_imp_iff, true_imp_iff, Int.reduceEq, Int.reduceLT, Int.reduceLE, Int.reduceAdd, Int.reduceSub, Int.reduceMul, Int.reduceNeg]
  by_cases c1 : σ 3 i = 0 <;> by_cases c2 : V 10 i = t <;> simp [c1, c2]
def px_due (V σ : (Nat → Int → Int)) (t : Int) (n : Nat) : Int := px_sum (fun i => if σ 3 i = 0 ∧ V 10 i = t then V 8 (V 11 i) else 0) n
theorem px_due_b {V σ : (Nat → Int → Int)} {t : Int} {n : Nat} (hV : WV V) (hn : (n : Int) ≤ V 0 2) : 0 ≤ px_due V σ t n ∧ px_due V σ t n ≤ n * 99 := by
  induction n with
  | zero => simp [px_due, px_sum]
  | succ n ih =>
    have a := ih (by omega)
    have wi := (hV.2.2.2.1 n (by omega) (by omega)).2.1
    have wd := (hV.2.2.1 _ wi.1 wi.2).2.2.1
    have e : px_due V σ t (n + 1) = px_due V σ t n + (if σ 3 n = 0 ∧ V 10 n = t then V 8 (V 11 n) else 0) := rfl
    rw [e]; split <;> omega
theorem q_due {V σ : (Nat → Int → Int)} {lw : (Int → (Int → Int) → Int)} {t : Int} (hD : DN V σ) : P2 (GC V lw σ) 134 258 [vI t] := by
  by_cases c : t = 0 ∨ t = 1
  · refine ⟨vI (px_due V σ t (V 0 2).toNat), fun w I L G d Q q => ?_, fun w I L G d Q q => ?_⟩
    · have G0 := G
      obtain ⟨⟨hw, hR, hL, hV, hM, hN⟩, rS, mS, wS, ny, ct⟩ := id G
      have h12 := hV.1.2.2
      have h8 := hV.1.2.1
      obtain ⟨n, hn⟩ : ∃ n : Nat, V 0 2 = n := ⟨(V 0 2).toNat, by omega⟩
      have hn2 : (V 0 2).toNat = n := by omega
      rw [hn2] at q
      rw [S134]
      simp (disch := omega) only [s95, c, if_true, GA, GR, GRc, GO, GI, GL, GV, am_w_i, am_ga, am_it, am_if, true_and, and_true, or_true, true_or, ne_eq, not_false_eq_true, not_true_eq_false, false_imp_iff, true_imp_iff, Int.reduceEq, Int.reduceLT, Int.reduceLE, Int.reduceAdd, Int.reduceSub, Int.reduceMul, Int.reduceNeg]
      refine am_loop (α := Unit) n (fun i _ => am_WP (d + 20) 134 13 [some (vR (some 0)), some (vI t), some (vI (px_due V σ t i)), some (vI (i : Int))] [] (mkH w I L) Q) (fun i _ => True) ?_ ?_ 0 () (Nat.zero_le _) trivial
      · intro i _ hi _ ih
        have z := ih () trivial
        have e : px_due V σ t (i + 1) = px_due V σ t i + (if σ 3 i = 0 ∧ V 10 i = t then V 8 (V 11 i) else 0) := rfl
        have b := px_due_b (t := t) (σ := σ) (n := i) hV (by omega)
        have wi := (hV.2.2.2.1 i (by omega) (by omega)).2.1
        have wd := (hV.2.2.1 _ wi.1 wi.2).2.2.1
        rw [e] at z
        rw [B134_13]
        simp (disch := omega) only [KX, HW hw, hR.1.2.2, hn, s130 G0 (i := (i : Int)) (by omega) (by omega), B134_53, (hR.2.2.2.1 i (by omega) (by omega)).2.1, (hR.2.2.1 _ wi.1 wi.2).2.2.2.1, GA, GR, GRc, GO, GI, GL, GV, am_w_i, am_ga, am_it, am_if, true_and, and_true, or_true, true_or, ne_eq, not_false_eq_true, not_true_eq_false, false_imp_iff, true_imp_iff, Int.reduceEq, Int.reduceLT, Int.reduceLE, Int.reduceAdd, Int.reduceSub, Int.reduceMul, Int.reduceNeg]
        by_cases c1 : σ 3 i = 0 ∧ V 10 i = t
        · rw [if_pos c1] at z
          first | (simp (disch := omega) only [c1, GA, GR, GRc, GO, GI, GL, GV, am_w_i, am_ga, am_it, am_if, true_and, and_true, or_true, true_or, ne_eq, not_false_eq_true, not_true_eq_false, false_imp_iff, true_imp_iff, Int.reduceEq, Int.reduceLT, Int.reduceLE, Int.reduceAdd, Int.reduceSub, Int.reduceMul, Int.reduceNeg]; exact z) | simp (disch := omega) only [c1, z, GA, GR, GRc, GO, GI, GL, GV, am_w_i, am_ga, am_it, am_if, true_and, and_true, or_true, true_or, ne_eq, not_false_eq_true, not_true_eq_false, false_imp_iff, true_imp_iff, Int.reduceEq, Int.reduceLT, Int.reduceLE, Int.reduceAdd, Int.reduceSub, Int.reduceMul, Int.reduceNeg]
        · rw [if_neg c1, Int.add_zero] at z
          first | (simp (disch := omega) only [c1, GA, GR, GRc, GO, GI, GL, GV, am_w_i, am_ga, am_it, am_if, true_and, and_true, or_true, true_or, ne_eq, not_false_eq_true, not_true_eq_false, false_imp_iff, true_imp_iff, Int.reduceEq, Int.reduceLT, Int.reduceLE, Int.reduceAdd, Int.reduceSub, Int.reduceMul, Int.reduceNeg]; exact z) | simp (disch := omega) only [c1, z, GA, GR, GRc, GO, GI, GL, GV, am_w_i, am_ga, am_it, am_if, true_and, and_true, or_true, true_or, ne_eq, not_false_eq_true, not_true_eq_false, false_imp_iff, true_imp_iff, Int.reduceEq, Int.reduceLT, Int.reduceLE, Int.reduceAdd, Int.reduceSub, Int.reduceMul, Int.reduceNeg]
      · intro _ _
        rw [B134_13]
        simp (disch := omega) only [KX, HW hw, hR.1.2.2, hn, GA, GR, GRc, GO, GI, GL, GV, am_w_i, am_ga, am_it, am_if, true_and, and_true, or_true, true_or, ne_eq, not_false_eq_true, not_true_eq_false, false_imp_iff, true_imp_iff, Int.reduceEq, Int.reduceLT, Int.reduceLE, Int.reduceAdd, Int.reduceSub, Int.reduceMul, Int.reduceNeg]
        exact q _ _ _ QR.rf
    · obtain ⟨⟨hw, hR, hL, hV, hM, hN⟩, rS, mS, wS, ny, ct⟩ := id G
      have h12 := hV.1.2.2
      have h8 := hV.1.2.1
      have h131 : am_up I 99 2 0 131 0 = σ 0 3 := by rw [am_up_a _ _ _ _ (by decide)]; exact mS.2.2.2.1
      obtain ⟨n, hn⟩ : ∃ n : Nat, V 0 2 = n := ⟨(V 0 2).toNat, by omega⟩
      have hn2 : (V 0 2).toNat = n := by omega
      rw [hn2] at q
      rw [S258]
      simp (disch := omega) only [Kk, B258_5, s201, c, if_true, GA, GR, GRc, GO, GI, GL, GV, am_w_i, am_ga, am_it, am_if, true_and, and_true, or_true, true_or, ne_eq, not_false_eq_true, not_true_eq_false, false_imp_iff, true_imp_iff, Int.reduceEq, Int.reduceLT, Int.reduceLE, Int.reduceAdd, Int.reduceSub, Int.reduceMul, Int.reduceNeg]
      refine am_loop (α := Unit) n (fun i _ => am_WP (d + 20) 258 18 [some (vR (some 99)), some (vI t), some (vI (px_due V σ t i)), some (vI (i : Int))] [] (mkH w (am_up I 99 2 0) L) Q) (fun i _ => True) ?_ ?_ 0 () (Nat.zero_le _) trivial
      · intro i _ hi _ ih
        have z := ih () trivial
        have e : px_due V σ t (i + 1) = px_due V σ t i + (if σ 3 i = 0 ∧ V 10 i = t then V 8 (V 11 i) else 0) := rfl
        have b := px_due_b (t := t) (σ := σ) (n := i) hV (by omega)
        have wi := (hV.2.2.2.1 i (by omega) (by omega)).2.1
        have wd := (hV.2.2.1 _ wi.1 wi.2).2.2.1
        have dn := hD i (by omega) (by omega)
        have vi := hM.2.2.2.1 i (by omega) (by omega)
        rw [e] at z
        rw [B258_18]
        simp (disch := omega) only [Kk, am_up_n, hM.1.2.2, hn, Kw, Ks, h131, am_up_a, vi.1, mS.o0 (j := (i : Int)), vi.2.2, vi.2.1, (hM.2.2.1 _ wi.1 wi.2).2.2.2.1, B258_75, B258_76, GA, GR, GRc, GO, GI, GL, GV, am_w_i, am_ga, am_it, am_if, true_and, and_true, or_true, true_or, ne_eq, not_false_eq_true, not_true_eq_false, false_imp_iff, true_imp_iff, Int.reduceEq, Int.reduceLT, Int.reduceLE, Int.reduceAdd, Int.reduceSub, Int.reduceMul, Int.reduceNeg]
        by_cases c1 : σ 3 i = 0
        · have c3 : σ 0 3 ≤ V 12 i := by
            rcases Int.lt_or_le (V 12 i) (σ 0 3) with h | h
            · exact absurd c1 (dn h)
            · exact h
          by_cases c2 : V 10 i = t
          · rw [if_pos ⟨c1, c2⟩] at z
            first | (simp (disch := omega) only [c1, c2, GA, GR, GRc, GO, GI, GL, GV, am_w_i, am_ga, am_it, am_if, true_and, and_true, or_true, true_or, ne_eq, not_false_eq_true, not_true_eq_false, false_imp_iff, true_imp_iff, Int.reduceEq, Int.reduceLT, Int.reduceLE, Int.reduceAdd, Int.reduceSub, Int.reduceMul, Int.reduceNeg]; exact z) | simp (disch := omega) only [c1, c2, z, GA, GR, GRc, GO, GI, GL, GV, am_w_i, am_ga, am_it, am_if, true_and, and_true, or_true, true_or, ne_eq, not_false_eq_true, not_true_eq_false, false_imp_iff, true_imp_iff, Int.reduceEq, Int.reduceLT, Int.reduceLE, Int.reduceAdd, Int.reduceSub, Int.reduceMul, Int.reduceNeg]
          · rw [if_neg (fun y => c2 y.2)] at z
            first | (simp (disch := omega) only [c1, c2, GA, GR, GRc, GO, GI, GL, GV, am_w_i, am_ga, am_it, am_if, true_and, and_true, or_true, true_or, ne_eq, not_false_eq_true, not_true_eq_false, false_imp_iff, true_imp_iff, Int.reduceEq, Int.reduceLT, Int.reduceLE, Int.reduceAdd, Int.reduceSub, Int.reduceMul, Int.reduceNeg]; exact z) | simp (disch := omega) only [c1, c2, z, GA, GR, GRc, GO, GI, GL, GV, am_w_i, am_ga, am_it, am_if, true_and, and_true, or_true, true_or, ne_eq, not_false_eq_true, not_true_eq_false, false_imp_iff, true_imp_iff, Int.reduceEq, Int.reduceLT, Int.reduceLE, Int.reduceAdd, Int.reduceSub, Int.reduceMul, Int.reduceNeg]
        · rw [if_neg (fun y => c1 y.1)] at z
          by_cases c2 : V 10 i = t
          · first | (simp (disch := omega) only [c1, c2, GA, GR, GRc, GO, GI, GL, GV, am_w_i, am_ga, am_it, am_if, true_and, and_true, or_true, true_or, ne_eq, not_false_eq_true, not_true_eq_false, false_imp_iff, true_imp_iff, Int.reduceEq, Int.reduceLT, Int.reduceLE, Int.reduceAdd, Int.reduceSub, Int.reduceMul, Int.reduceNeg]; exact z) | simp (disch := omega) only [c1, c2, z, GA, GR, GRc, GO, GI, GL, GV, am_w_i, am_ga, am_it, am_if, true_and, and_true, or_true, true_or, ne_eq, not_false_eq_true, not_true_eq_false, false_imp_iff, true_imp_iff, Int.reduceEq, Int.reduceLT, Int.reduceLE, Int.reduceAdd, Int.reduceSub, Int.reduceMul, Int.reduceNeg]
          · first | (simp (disch := omega) only [c1, c2, GA, GR, GRc, GO, GI, GL, GV, am_w_i, am_ga, am_it, am_if, true_and, and_true, or_true, true_or, ne_eq, not_false_eq_true, not_true_eq_false, false_imp_iff, true_imp_iff, Int.reduceEq, Int.reduceLT, Int.reduceLE, Int.reduceAdd, Int.reduceSub, Int.reduceMul, Int.reduceNeg]; exact z) | simp (disch := omega) only [c1, c2, z, GA, GR, GRc, GO, GI, GL, GV, am_w_i, am_ga, am_it, am_if, true_and, and_true, or_true, true_or, ne_eq, not_false_eq_true, not_true_eq_false, false_imp_iff, true_imp_iff, Int.reduceEq, Int.reduceLT, Int.reduceLE, Int.reduceAdd, Int.reduceSub, Int.reduceMul, Int.reduceNeg]
      · intro _ _
        rw [B258_18]
        simp (disch := omega) only [Kk, am_up_n, hM.1.2.2, hn, GA, GR, GRc, GO, GI, GL, GV, am_w_i, am_ga, am_it, am_if, true_and, and_true, or_true, true_or, ne_eq, not_false_eq_true, not_true_eq_false, false_imp_iff, true_imp_iff, Int.reduceEq, Int.reduceLT, Int.reduceLE, Int.reduceAdd, Int.reduceSub, Int.reduceMul, Int.reduceNeg]
        exact q _ _ QR.t
  · refine ⟨vI (-1), fun w I L G d Q q => ?_, fun w I L G d Q q => ?_⟩
    · have z := q _ _ _ QR.rf
      rw [S134]
      simp (disch := omega) only [s95, c, if_false, z, GA, GR, GRc, GO, GI, GL, GV, am_w_i, am_ga, am_it, am_if, true_and, and_true, or_true, true_or, ne_eq, not_false_eq_true, not_true_eq_false, false_imp_iff, true_imp_iff, Int.reduceEq, Int.reduceLT, Int.reduceLE, Int.reduceAdd, Int.reduceSub, Int.reduceMul, Int.reduceNeg]
    · have z := q _ _ (QR.t (v := 0))
      rw [S258]
      simp (disch := omega) only [Kk, B258_5, s201, c, if_false, z, GA, GR, GRc, GO, GI, GL, GV, am_w_i, am_ga, am_it, am_if, true_and, and_true, or_true, true_or, ne_eq, not_false_eq_true, not_true_eq_false, false_imp_iff, true_imp_iff, Int.reduceEq, Int.reduceLT, Int.reduceLE, Int.reduceAdd, Int.reduceSub, Int.reduceMul, Int.reduceNeg]
