/-! 47: questions without days -/
theorem c_ge {a b : Int} : ¬ a ≤ b ↔ b < a := Int.not_le
theorem q_kind {V σ : (Nat → Int → Int)} {lw : (Int → (Int → Int) → Int)} {a b : Int} : P2 (GC V lw σ) 97 223 [vI a, vI b] := by
  by_cases c : 0 ≤ a ∧ a < V 0 0
  · rcases (show b = 0 ∨ b = 1 ∨ b = 2 ∨ (b ≠ 0 ∧ b ≠ 1 ∧ b ≠ 2) by omega) with z | z | z | z
    · refine ⟨vI (V 2 a), fun w I L G d Q q => ?_, fun w I L G d Q q => ?_⟩
      · obtain ⟨⟨hw, hR, hL, hV, hM, hN⟩, rS, mS, wS, ny, ct⟩ := id G
        have h6 := hV.1.1.2
        simp (disch := omega) only [S97, KX, s93 hw hR, c, z, HW hw, (hR.2.1 a c.1 c.2).2.1, if_true, GA, GR, GRc, GO, GI, GL, GV, am_w_i, am_ga, am_it, am_if, true_and, and_true, or_true, true_or, ne_eq, not_false_eq_true, not_true_eq_false, false_imp_iff, true_imp_iff, Int.reduceEq, Int.reduceLT, Int.reduceLE, Int.reduceAdd, Int.reduceSub, Int.reduceMul, Int.reduceNeg]
        exact q _ _ _ QR.rf
      · obtain ⟨⟨hw, hR, hL, hV, hM, hN⟩, rS, mS, wS, ny, ct⟩ := id G
        have h6 := hV.1.1.2
        simp (disch := omega) only [S223, B223_5, Kk, s199 hM.t, c, z, Kw, am_up_a, (hM.2.1 a c.1 c.2).2.1, B223_57, if_true, GA, GR, GRc, GO, GI, GL, GV, am_w_i, am_ga, am_it, am_if, true_and, and_true, or_true, true_or, ne_eq, not_false_eq_true, not_true_eq_false, false_imp_iff, true_imp_iff, Int.reduceEq, Int.reduceLT, Int.reduceLE, Int.reduceAdd, Int.reduceSub, Int.reduceMul, Int.reduceNeg]
        exact q _ _ QR.t
    · refine ⟨vI (V 3 a), fun w I L G d Q q => ?_, fun w I L G d Q q => ?_⟩
      · obtain ⟨⟨hw, hR, hL, hV, hM, hN⟩, rS, mS, wS, ny, ct⟩ := id G
        have h6 := hV.1.1.2
        simp (disch := omega) only [S97, KX, s93 hw hR, c, z, HW hw, (hR.2.1 a c.1 c.2).2.2, if_true, GA, GR, GRc, GO, GI, GL, GV, am_w_i, am_ga, am_it, am_if, true_and, and_true, or_true, true_or, ne_eq, not_false_eq_true, not_true_eq_false, false_imp_iff, true_imp_iff, Int.reduceEq, Int.reduceLT, Int.reduceLE, Int.reduceAdd, Int.reduceSub, Int.reduceMul, Int.reduceNeg]
        exact q _ _ _ QR.rf
      · obtain ⟨⟨hw, hR, hL, hV, hM, hN⟩, rS, mS, wS, ny, ct⟩ := id G
        have h6 := hV.1.1.2
        simp (disch := omega) only [S223, B223_5, Kk, s199 hM.t, c, z, Kw, am_up_a, (hM.2.1 a c.1 c.2).2.2, B223_57, if_true, GA, GR, GRc, GO, GI, GL, GV, am_w_i, am_ga, am_it, am_if, true_and, and_true, or_true, true_or, ne_eq, not_false_eq_true, not_true_eq_false, false_imp_iff, true_imp_iff, Int.reduceEq, Int.reduceLT, Int.reduceLE, Int.reduceAdd, Int.reduceSub, Int.reduceMul, Int.reduceNeg]
        exact q _ _ QR.t
    · refine ⟨vI (px_gap σ a), fun w I L G d Q q => ?_, fun w I L G d Q q => ?_⟩
      · obtain ⟨⟨hw, hR, hL, hV, hM, hN⟩, rS, mS, wS, ny, ct⟩ := id G
        have h6 := hV.1.1.2
        have hs : isS 51 := Or.inl rfl
        simp (disch := omega) only [S97, KX, s93 hw hR, c, z, HS hs, s62 hs (k := a) ⟨c.1, by omega⟩ (rS.bA wS.1), rS.gap c.1, if_true, GA, GR, GRc, GO, GI, GL, GV, am_w_i, am_ga, am_it, am_if, true_and, and_true, or_true, true_or, ne_eq, not_false_eq_true, not_true_eq_false, false_imp_iff, true_imp_iff, Int.reduceEq, Int.reduceLT, Int.reduceLE, Int.reduceAdd, Int.reduceSub, Int.reduceMul, Int.reduceNeg]
        exact q _ _ _ QR.rf
      · obtain ⟨⟨hw, hR, hL, hV, hM, hN⟩, rS, mS, wS, ny, ct⟩ := id G
        have h6 := hV.1.1.2
        simp (disch := omega) only [S223, B223_5, Kk, s199 hM.t, c, z, s205 (b := 0) (Or.inl rfl) (k := a) ⟨c.1, by omega⟩ mS.t wS, B223_57, if_true, GA, GR, GRc, GO, GI, GL, GV, am_w_i, am_ga, am_it, am_if, true_and, and_true, or_true, true_or, ne_eq, not_false_eq_true, not_true_eq_false, false_imp_iff, true_imp_iff, Int.reduceEq, Int.reduceLT, Int.reduceLE, Int.reduceAdd, Int.reduceSub, Int.reduceMul, Int.reduceNeg]
        exact q _ _ QR.t
    · refine ⟨vI (-1), fun w I L G d Q q => ?_, fun w I L G d Q q => ?_⟩
      · obtain ⟨⟨hw, hR, hL, hV, hM, hN⟩, rS, mS, wS, ny, ct⟩ := id G
        simp (disch := omega) only [S97, KX, s93 hw hR, c, z, if_true, GA, GR, GRc, GO, GI, GL, GV, am_w_i, am_ga, am_it, am_if, true_and, and_true, or_true, true_or, ne_eq, not_false_eq_true, not_true_eq_false, false_imp_iff, true_imp_iff, Int.reduceEq, Int.reduceLT, Int.reduceLE, Int.reduceAdd, Int.reduceSub, Int.reduceMul, Int.reduceNeg]
        exact q _ _ _ QR.rf
      · obtain ⟨⟨hw, hR, hL, hV, hM, hN⟩, rS, mS, wS, ny, ct⟩ := id G
        simp (disch := omega) only [S223, B223_5, Kk, s199 hM.t, c, z, B223_57, if_true, GA, GR, GRc, GO, GI, GL, GV, am_w_i, am_ga, am_it, am_if, true_and, and_true, or_true, true_or, ne_eq, not_false_eq_true, not_true_eq_false, false_imp_iff, true_imp_iff, Int.reduceEq, Int.reduceLT, Int.reduceLE, Int.reduceAdd, Int.reduceSub, Int.reduceMul, Int.reduceNeg]
        exact q _ _ QR.t
  · refine ⟨vI (-1), fun w I L G d Q q => ?_, fun w I L G d Q q => ?_⟩
    · obtain ⟨⟨hw, hR, hL, hV, hM, hN⟩, rS, mS, wS, ny, ct⟩ := id G
      simp (disch := omega) only [S97, KX, s93 hw hR, c, if_false, GA, GR, GRc, GO, GI, GL, GV, am_w_i, am_ga, am_it, am_if, true_and, and_true, or_true, true_or, ne_eq, not_false_eq_true, not_true_eq_false, false_imp_iff, true_imp_iff, Int.reduceEq, Int.reduceLT, Int.reduceLE, Int.reduceAdd, Int.reduceSub, Int.reduceMul, Int.reduceNeg]
      exact q _ _ _ QR.rf
    · obtain ⟨⟨hw, hR, hL, hV, hM, hN⟩, rS, mS, wS, ny, ct⟩ := id G
      simp (disch := omega) only [S223, B223_5, Kk, s199 hM.t, c, if_false, GA, GR, GRc, GO, GI, GL, GV, am_w_i, am_ga, am_it, am_if, true_and, and_true, or_true, true_or, ne_eq, not_false_eq_true, not_true_eq_false, false_imp_iff, true_imp_iff, Int.reduceEq, Int.reduceLT, Int.reduceLE, Int.reduceAdd, Int.reduceSub, Int.reduceMul, Int.reduceNeg]
      exact q _ _ QR.t
theorem q_deed {V σ : (Nat → Int → Int)} {lw : (Int → (Int → Int) → Int)} {a b : Int} : P2 (GC V lw σ) 98 224 [vI a, vI b] := by
  by_cases c : 0 ≤ a ∧ a < V 0 1
  · rcases (show b = 0 ∨ b = 1 ∨ b = 2 ∨ b = 3 ∨ (b ≠ 0 ∧ b ≠ 1 ∧ b ≠ 2 ∧ b ≠ 3) by omega) with z | z | z | z | z
    · refine ⟨vI (V 6 a), fun w I L G d Q q => ?_, fun w I L G d Q q => ?_⟩
      · obtain ⟨⟨hw, hR, hL, hV, hM, hN⟩, rS, mS, wS, ny, ct⟩ := id G
        have h1 := hV.1.1; have h2 := hV.1.2.1; have h3 := hV.1.2.2
        simp (disch := omega) only [S98, KX, s94 hw hR, c, z, HW hw, (hR.2.2.1 a c.1 c.2).2.1, if_true, GA, GR, GRc, GO, GI, GL, GV, am_w_i, am_ga, am_it, am_if, true_and, and_true, or_true, true_or, ne_eq, not_false_eq_true, not_true_eq_false, false_imp_iff, true_imp_iff, Int.reduceEq, Int.reduceLT, Int.reduceLE, Int.reduceAdd, Int.reduceSub, Int.reduceMul, Int.reduceNeg]
        exact q _ _ _ QR.rf
      · obtain ⟨⟨hw, hR, hL, hV, hM, hN⟩, rS, mS, wS, ny, ct⟩ := id G
        have h1 := hV.1.1; have h2 := hV.1.2.1; have h3 := hV.1.2.2
        simp (disch := omega) only [S224, B224_5, Kk, s200 hM.t, c, z, Kw, am_up_a, (hM.2.2.1 a c.1 c.2).2.1, if_true, GA, GR, GRc, GO, GI, GL, GV, am_w_i, am_ga, am_it, am_if, true_and, and_true, or_true, true_or, ne_eq, not_false_eq_true, not_true_eq_false, false_imp_iff, true_imp_iff, Int.reduceEq, Int.reduceLT, Int.reduceLE, Int.reduceAdd, Int.reduceSub, Int.reduceMul, Int.reduceNeg]
        exact q _ _ QR.t
    · refine ⟨vI (V 7 a), fun w I L G d Q q => ?_, fun w I L G d Q q => ?_⟩
      · obtain ⟨⟨hw, hR, hL, hV, hM, hN⟩, rS, mS, wS, ny, ct⟩ := id G
        have h1 := hV.1.1; have h2 := hV.1.2.1; have h3 := hV.1.2.2
        simp (disch := omega) only [S98, KX, s94 hw hR, c, z, HW hw, (hR.2.2.1 a c.1 c.2).2.2.1, if_true, GA, GR, GRc, GO, GI, GL, GV, am_w_i, am_ga, am_it, am_if, true_and, and_true, or_true, true_or, ne_eq, not_false_eq_true, not_true_eq_false, false_imp_iff, true_imp_iff, Int.reduceEq, Int.reduceLT, Int.reduceLE, Int.reduceAdd, Int.reduceSub, Int.reduceMul, Int.reduceNeg]
        exact q _ _ _ QR.rf
      · obtain ⟨⟨hw, hR, hL, hV, hM, hN⟩, rS, mS, wS, ny, ct⟩ := id G
        have h1 := hV.1.1; have h2 := hV.1.2.1; have h3 := hV.1.2.2
        simp (disch := omega) only [S224, B224_5, Kk, s200 hM.t, c, z, Kw, am_up_a, (hM.2.2.1 a c.1 c.2).2.2.1, if_true, GA, GR, GRc, GO, GI, GL, GV, am_w_i, am_ga, am_it, am_if, true_and, and_true, or_true, true_or, ne_eq, not_false_eq_true, not_true_eq_false, false_imp_iff, true_imp_iff, Int.reduceEq, Int.reduceLT, Int.reduceLE, Int.reduceAdd, Int.reduceSub, Int.reduceMul, Int.reduceNeg]
        exact q _ _ QR.t
    · refine ⟨vI (V 8 a), fun w I L G d Q q => ?_, fun w I L G d Q q => ?_⟩
      · obtain ⟨⟨hw, hR, hL, hV, hM, hN⟩, rS, mS, wS, ny, ct⟩ := id G
        have h1 := hV.1.1; have h2 := hV.1.2.1; have h3 := hV.1.2.2
        simp (disch := omega) only [S98, KX, s94 hw hR, c, z, HW hw, (hR.2.2.1 a c.1 c.2).2.2.2.1, if_true, GA, GR, GRc, GO, GI, GL, GV, am_w_i, am_ga, am_it, am_if, true_and, and_true, or_true, true_or, ne_eq, not_false_eq_true, not_true_eq_false, false_imp_iff, true_imp_iff, Int.reduceEq, Int.reduceLT, Int.reduceLE, Int.reduceAdd, Int.reduceSub, Int.reduceMul, Int.reduceNeg]
        exact q _ _ _ QR.rf
      · obtain ⟨⟨hw, hR, hL, hV, hM, hN⟩, rS, mS, wS, ny, ct⟩ := id G
        have h1 := hV.1.1; have h2 := hV.1.2.1; have h3 := hV.1.2.2
        simp (disch := omega) only [S224, B224_5, Kk, s200 hM.t, c, z, Kw, am_up_a, (hM.2.2.1 a c.1 c.2).2.2.2.1, if_true, GA, GR, GRc, GO, GI, GL, GV, am_w_i, am_ga, am_it, am_if, true_and, and_true, or_true, true_or, ne_eq, not_false_eq_true, not_true_eq_false, false_imp_iff, true_imp_iff, Int.reduceEq, Int.reduceLT, Int.reduceLE, Int.reduceAdd, Int.reduceSub, Int.reduceMul, Int.reduceNeg]
        exact q _ _ QR.t
    · refine ⟨vI (V 9 a), fun w I L G d Q q => ?_, fun w I L G d Q q => ?_⟩
      · obtain ⟨⟨hw, hR, hL, hV, hM, hN⟩, rS, mS, wS, ny, ct⟩ := id G
        have h1 := hV.1.1; have h2 := hV.1.2.1; have h3 := hV.1.2.2
        simp (disch := omega) only [S98, KX, s94 hw hR, c, z, HW hw, (hR.2.2.1 a c.1 c.2).2.2.2.2, if_true, GA, GR, GRc, GO, GI, GL, GV, am_w_i, am_ga, am_it, am_if, true_and, and_true, or_true, true_or, ne_eq, not_false_eq_true, not_true_eq_false, false_imp_iff, true_imp_iff, Int.reduceEq, Int.reduceLT, Int.reduceLE, Int.reduceAdd, Int.reduceSub, Int.reduceMul, Int.reduceNeg]
        exact q _ _ _ QR.rf
      · obtain ⟨⟨hw, hR, hL, hV, hM, hN⟩, rS, mS, wS, ny, ct⟩ := id G
        have h1 := hV.1.1; have h2 := hV.1.2.1; have h3 := hV.1.2.2
        simp (disch := omega) only [S224, B224_5, Kk, s200 hM.t, c, z, Kw, am_up_a, (hM.2.2.1 a c.1 c.2).2.2.2.2, if_true, GA, GR, GRc, GO, GI, GL, GV, am_w_i, am_ga, am_it, am_if, true_and, and_true, or_true, true_or, ne_eq, not_false_eq_true, not_true_eq_false, false_imp_iff, true_imp_iff, Int.reduceEq, Int.reduceLT, Int.reduceLE, Int.reduceAdd, Int.reduceSub, Int.reduceMul, Int.reduceNeg]
        exact q _ _ QR.t
    · refine ⟨vI (-2147483648), fun w I L G d Q q => ?_, fun w I L G d Q q => ?_⟩
      · obtain ⟨⟨hw, hR, hL, hV, hM, hN⟩, rS, mS, wS, ny, ct⟩ := id G
        have h1 := hV.1.1; have h2 := hV.1.2.1; have h3 := hV.1.2.2
        simp (disch := omega) only [S98, KX, s94 hw hR, c, z, if_true, GA, GR, GRc, GO, GI, GL, GV, am_w_i, am_ga, am_it, am_if, true_and, and_true, or_true, true_or, ne_eq, not_false_eq_true, not_true_eq_false, false_imp_iff, true_imp_iff, Int.reduceEq, Int.reduceLT, Int.reduceLE, Int.reduceAdd, Int.reduceSub, Int.reduceMul, Int.reduceNeg]
        exact q _ _ _ QR.rf
      · obtain ⟨⟨hw, hR, hL, hV, hM, hN⟩, rS, mS, wS, ny, ct⟩ := id G
        have h1 := hV.1.1; have h2 := hV.1.2.1; have h3 := hV.1.2.2
        simp (disch := omega) only [S224, B224_5, Kk, s200 hM.t, c, z, if_true, GA, GR, GRc, GO, GI, GL, GV, am_w_i, am_ga, am_it, am_if, true_and, and_true, or_true, true_or, ne_eq, not_false_eq_true, not_true_eq_false, false_imp_iff, true_imp_iff, Int.reduceEq, Int.reduceLT, Int.reduceLE, Int.reduceAdd, Int.reduceSub, Int.reduceMul, Int.reduceNeg]
        exact q _ _ QR.t
  · refine ⟨vI (-2147483648), fun w I L G d Q q => ?_, fun w I L G d Q q => ?_⟩
    · obtain ⟨⟨hw, hR, hL, hV, hM, hN⟩, rS, mS, wS, ny, ct⟩ := id G
      have h1 := hV.1.1; have h2 := hV.1.2.1; have h3 := hV.1.2.2
      simp (disch := omega) only [S98, KX, s94 hw hR, c, if_false, GA, GR, GRc, GO, GI, GL, GV, am_w_i, am_ga, am_it, am_if, true_and, and_true, or_true, true_or, ne_eq, not_false_eq_true, not_true_eq_false, false_imp_iff, true_imp_iff, Int.reduceEq, Int.reduceLT, Int.reduceLE, Int.reduceAdd, Int.reduceSub, Int.reduceMul, Int.reduceNeg]
      exact q _ _ _ QR.rf
    · obtain ⟨⟨hw, hR, hL, hV, hM, hN⟩, rS, mS, wS, ny, ct⟩ := id G
      have h1 := hV.1.1; have h2 := hV.1.2.1; have h3 := hV.1.2.2
      simp (disch := omega) only [S224, B224_5, Kk, s200 hM.t, c, if_false, GA, GR, GRc, GO, GI, GL, GV, am_w_i, am_ga, am_it, am_if, true_and, and_true, or_true, true_or, ne_eq, not_false_eq_true, not_true_eq_false, false_imp_iff, true_imp_iff, Int.reduceEq, Int.reduceLT, Int.reduceLE, Int.reduceAdd, Int.reduceSub, Int.reduceMul, Int.reduceNeg]
      exact q _ _ QR.t
theorem q_done {V σ : (Nat → Int → Int)} {lw : (Int → (Int → Int) → Int)} {a b : Int} : P2 (GC V lw σ) 99 225 [vI a, vI b] := by
  by_cases c : 0 ≤ a ∧ a < V 0 2
  · have c0 := c.1
    rcases (show b = 0 ∨ b = 1 ∨ b = 2 ∨ b = 3 ∨ (b ≠ 0 ∧ b ≠ 1 ∧ b ≠ 2 ∧ b ≠ 3) by omega) with z | z | z | z | z
    · refine ⟨vI (V 10 a), fun w I L G d Q q => ?_, fun w I L G d Q q => ?_⟩
      · obtain ⟨⟨hw, hR, hL, hV, hM, hN⟩, rS, mS, wS, ny, ct⟩ := id G
        have h1 := hV.1.1; have h2 := hV.1.2.1; have h3 := hV.1.2.2
        simp (disch := omega) only [S99, KX, c, z, HW hw, hR.1.2.2, (hR.2.2.2.1 a c.1 c.2).1, GA, GR, GRc, GO, GI, GL, GV, am_w_i, am_ga, am_it, am_if, true_and, and_true, or_true, true_or, ne_eq, not_false_eq_true, not_true_eq_false, false_imp_iff, true_imp_iff, Int.reduceEq, Int.reduceLT, Int.reduceLE, Int.reduceAdd, Int.reduceSub, Int.reduceMul, Int.reduceNeg]
        exact q _ _ _ QR.rf
      · obtain ⟨⟨hw, hR, hL, hV, hM, hN⟩, rS, mS, wS, ny, ct⟩ := id G
        have h1 := hV.1.1; have h2 := hV.1.2.1; have h3 := hV.1.2.2
        simp (disch := omega) only [S225, B225_5, Kk, am_up_n, hM.1.2.2, c, z, Kw, am_up_a, (hM.2.2.2.1 a c.1 c.2).1, GA, GR, GRc, GO, GI, GL, GV, am_w_i, am_ga, am_it, am_if, true_and, and_true, or_true, true_or, ne_eq, not_false_eq_true, not_true_eq_false, false_imp_iff, true_imp_iff, Int.reduceEq, Int.reduceLT, Int.reduceLE, Int.reduceAdd, Int.reduceSub, Int.reduceMul, Int.reduceNeg]
        exact q _ _ QR.t
    · refine ⟨vI (V 11 a), fun w I L G d Q q => ?_, fun w I L G d Q q => ?_⟩
      · obtain ⟨⟨hw, hR, hL, hV, hM, hN⟩, rS, mS, wS, ny, ct⟩ := id G
        have h1 := hV.1.1; have h2 := hV.1.2.1; have h3 := hV.1.2.2
        simp (disch := omega) only [S99, KX, c, z, HW hw, hR.1.2.2, (hR.2.2.2.1 a c.1 c.2).2.1, GA, GR, GRc, GO, GI, GL, GV, am_w_i, am_ga, am_it, am_if, true_and, and_true, or_true, true_or, ne_eq, not_false_eq_true, not_true_eq_false, false_imp_iff, true_imp_iff, Int.reduceEq, Int.reduceLT, Int.reduceLE, Int.reduceAdd, Int.reduceSub, Int.reduceMul, Int.reduceNeg]
        exact q _ _ _ QR.rf
      · obtain ⟨⟨hw, hR, hL, hV, hM, hN⟩, rS, mS, wS, ny, ct⟩ := id G
        have h1 := hV.1.1; have h2 := hV.1.2.1; have h3 := hV.1.2.2
        simp (disch := omega) only [S225, B225_5, Kk, am_up_n, hM.1.2.2, c, z, Kw, am_up_a, (hM.2.2.2.1 a c.1 c.2).2.1, GA, GR, GRc, GO, GI, GL, GV, am_w_i, am_ga, am_it, am_if, true_and, and_true, or_true, true_or, ne_eq, not_false_eq_true, not_true_eq_false, false_imp_iff, true_imp_iff, Int.reduceEq, Int.reduceLT, Int.reduceLE, Int.reduceAdd, Int.reduceSub, Int.reduceMul, Int.reduceNeg]
        exact q _ _ QR.t
    · refine ⟨vI (V 12 a), fun w I L G d Q q => ?_, fun w I L G d Q q => ?_⟩
      · obtain ⟨⟨hw, hR, hL, hV, hM, hN⟩, rS, mS, wS, ny, ct⟩ := id G
        have h1 := hV.1.1; have h2 := hV.1.2.1; have h3 := hV.1.2.2
        simp (disch := omega) only [S99, KX, c, z, HW hw, hR.1.2.2, (hR.2.2.2.1 a c.1 c.2).2.2, GA, GR, GRc, GO, GI, GL, GV, am_w_i, am_ga, am_it, am_if, true_and, and_true, or_true, true_or, ne_eq, not_false_eq_true, not_true_eq_false, false_imp_iff, true_imp_iff, Int.reduceEq, Int.reduceLT, Int.reduceLE, Int.reduceAdd, Int.reduceSub, Int.reduceMul, Int.reduceNeg]
        exact q _ _ _ QR.rf
      · obtain ⟨⟨hw, hR, hL, hV, hM, hN⟩, rS, mS, wS, ny, ct⟩ := id G
        have h1 := hV.1.1; have h2 := hV.1.2.1; have h3 := hV.1.2.2
        simp (disch := omega) only [S225, B225_5, Kk, am_up_n, hM.1.2.2, c, z, Kw, am_up_a, (hM.2.2.2.1 a c.1 c.2).2.2, GA, GR, GRc, GO, GI, GL, GV, am_w_i, am_ga, am_it, am_if, true_and, and_true, or_true, true_or, ne_eq, not_false_eq_true, not_true_eq_false, false_imp_iff, true_imp_iff, Int.reduceEq, Int.reduceLT, Int.reduceLE, Int.reduceAdd, Int.reduceSub, Int.reduceMul, Int.reduceNeg]
        exact q _ _ QR.t
    · refine ⟨vI (σ 3 a), fun w I L G d Q q => ?_, fun w I L G d Q q => ?_⟩
      · obtain ⟨⟨hw, hR, hL, hV, hM, hN⟩, rS, mS, wS, ny, ct⟩ := id G
        have h1 := hV.1.1; have h2 := hV.1.2.1; have h3 := hV.1.2.2
        simp (disch := omega) only [S99, KX, c, z, HW hw, hR.1.2.2, HS (show isS 51 from Or.inl rfl), rS.2.2.1 a c.1 (by omega), GA, GR, GRc, GO, GI, GL, GV, am_w_i, am_ga, am_it, am_if, true_and, and_true, or_true, true_or, ne_eq, not_false_eq_true, not_true_eq_false, false_imp_iff, true_imp_iff, Int.reduceEq, Int.reduceLT, Int.reduceLE, Int.reduceAdd, Int.reduceSub, Int.reduceMul, Int.reduceNeg]
        exact q _ _ _ QR.rf
      · obtain ⟨⟨hw, hR, hL, hV, hM, hN⟩, rS, mS, wS, ny, ct⟩ := id G
        have h1 := hV.1.1; have h2 := hV.1.2.1; have h3 := hV.1.2.2
        simp (disch := omega) only [S225, B225_5, Kk, am_up_n, hM.1.2.2, c, z, Ks, am_up_a, mS.o0 (j := a), GA, GR, GRc, GO, GI, GL, GV, am_w_i, am_ga, am_it, am_if, true_and, and_true, or_true, true_or, ne_eq, not_false_eq_true, not_true_eq_false, false_imp_iff, true_imp_iff, Int.reduceEq, Int.reduceLT, Int.reduceLE, Int.reduceAdd, Int.reduceSub, Int.reduceMul, Int.reduceNeg]
        exact q _ _ QR.t
    · refine ⟨vI (-1), fun w I L G d Q q => ?_, fun w I L G d Q q => ?_⟩
      · obtain ⟨⟨hw, hR, hL, hV, hM, hN⟩, rS, mS, wS, ny, ct⟩ := id G
        have h1 := hV.1.1; have h2 := hV.1.2.1; have h3 := hV.1.2.2
        simp (disch := omega) only [S99, KX, c, z, HW hw, hR.1.2.2, GA, GR, GRc, GO, GI, GL, GV, am_w_i, am_ga, am_it, am_if, true_and, and_true, or_true, true_or, ne_eq, not_false_eq_true, not_true_eq_false, false_imp_iff, true_imp_iff, Int.reduceEq, Int.reduceLT, Int.reduceLE, Int.reduceAdd, Int.reduceSub, Int.reduceMul, Int.reduceNeg]
        exact q _ _ _ QR.rf
      · obtain ⟨⟨hw, hR, hL, hV, hM, hN⟩, rS, mS, wS, ny, ct⟩ := id G
        have h1 := hV.1.1; have h2 := hV.1.2.1; have h3 := hV.1.2.2
        simp (disch := omega) only [S225, B225_5, Kk, am_up_n, hM.1.2.2, c, z, GA, GR, GRc, GO, GI, GL, GV, am_w_i, am_ga, am_it, am_if, true_and, and_true, or_true, true_or, ne_eq, not_false_eq_true, not_true_eq_false, false_imp_iff, true_imp_iff, Int.reduceEq, Int.reduceLT, Int.reduceLE, Int.reduceAdd, Int.reduceSub, Int.reduceMul, Int.reduceNeg]
        exact q _ _ QR.t
  · refine ⟨vI (-1), fun w I L G d Q q => ?_, fun w I L G d Q q => ?_⟩
    · obtain ⟨⟨hw, hR, hL, hV, hM, hN⟩, rS, mS, wS, ny, ct⟩ := id G
      have z := q _ _ _ QR.rf
      by_cases c0 : a < 0
      · simp (disch := omega) only [S99, B99_15, z, GA, GR, GRc, GO, GI, GL, GV, am_w_i, am_ga, am_it, am_if, true_and, and_true, or_true, true_or, ne_eq, not_false_eq_true, not_true_eq_false, false_imp_iff, true_imp_iff, Int.reduceEq, Int.reduceLT, Int.reduceLE, Int.reduceAdd, Int.reduceSub, Int.reduceMul, Int.reduceNeg]
      · simp (disch := omega) only [S99, B99_15, KX, HW hw, hR.1.2.2, z, GA, GR, GRc, GO, GI, GL, GV, am_w_i, am_ga, am_it, am_if, true_and, and_true, or_true, true_or, ne_eq, not_false_eq_true, not_true_eq_false, false_imp_iff, true_imp_iff, Int.reduceEq, Int.reduceLT, Int.reduceLE, Int.reduceAdd, Int.reduceSub, Int.reduceMul, Int.reduceNeg]
    · obtain ⟨⟨hw, hR, hL, hV, hM, hN⟩, rS, mS, wS, ny, ct⟩ := id G
      have z := q _ _ (QR.t (v := 0))
      by_cases c0 : a < 0
      · simp (disch := omega) only [S225, B225_5, Kk, B225_17, z, GA, GR, GRc, GO, GI, GL, GV, am_w_i, am_ga, am_it, am_if, true_and, and_true, or_true, true_or, ne_eq, not_false_eq_true, not_true_eq_false, false_imp_iff, true_imp_iff, Int.reduceEq, Int.reduceLT, Int.reduceLE, Int.reduceAdd, Int.reduceSub, Int.reduceMul, Int.reduceNeg]
      · simp (disch := omega) only [S225, B225_5, Kk, B225_17, am_up_n, hM.1.2.2, z, GA, GR, GRc, GO, GI, GL, GV, am_w_i, am_ga, am_it, am_if, true_and, and_true, or_true, true_or, ne_eq, not_false_eq_true, not_true_eq_false, false_imp_iff, true_imp_iff, Int.reduceEq, Int.reduceLT, Int.reduceLE, Int.reduceAdd, Int.reduceSub, Int.reduceMul, Int.reduceNeg]
theorem px_sum_c {f g : Nat → Int} : ∀ {n : Nat}, (∀ k : Nat, k < n → f k = g k) → px_sum f n = px_sum g n
  | 0, _ => rfl
  | n + 1, h => by rw [px_sum, px_sum, px_sum_c (fun k hk => h k (Nat.lt_succ_of_lt hk)), h n (Nat.lt_succ_self n)]
def px_hap (σ : (Nat → Int → Int)) (t : Int) (n : Nat) : Int := px_sum (fun k => σ 1 (2 * (k : Int) + t)) n
theorem RS.hap {I : (Nat → Int → Int)} {s n : Nat} {σ : (Nat → Int → Int)} {t : Int} (h : RS I s σ) (hn : n ≤ 6) (ht : 0 ≤ t ∧ t < 2) : px_sum (fun k => I (s + 1) (2 * (k : Int) + t)) n = px_hap σ t n := px_sum_c (fun k hk => h.1 _ (by omega) (by omega))
theorem px_hap_b {D : Int} {σ : (Nat → Int → Int)} {t : Int} {n : Nat} (h : WS D σ) (hn : n ≤ 6) (ht : 0 ≤ t ∧ t < 2) : -(n * 999) ≤ px_hap σ t n ∧ px_hap σ t n ≤ n * 999 := px_sum_b (by omega) n (fun k hk => h.1 _ (by omega) (by omega))
theorem s220 {d : Nat} {w : Nat × Nat × Nat × Nat} {I L : Nat → Int → Int} {V σ : (Nat → Int → Int)} {b t D : Int} {n : Nat} (hM : MW I V) (hV : WV V) (hn : V 0 0 = n) (hb : b = 0 ∨ b = 1) (mS : MS I L b σ) (wS : WS D σ) (ht : 0 ≤ t ∧ t < 2) (Q : Option am_V → am_H → Prop) : am_Sp (d + 1) 220 [vR (some 99), vI b, vI t] (mkH w I L) Q ↔ Q (some (vI (px_hap σ t n))) (mkH w I L) := by
  have h6 := hV.1.1.2
  refine am_det ?_ Q
  rw [S220]
  refine am_loop (α := Unit) n (fun i _ => am_WP (d + 1) 220 5 [some (vR (some 99)), some (vI b), some (vI t), some (vI (px_hap σ t i)), some (vI (i : Int))] [] (mkH w I L) _) (fun i _ => True) ?_ ?_ 0 () (Nat.zero_le _) trivial
  · intro i _ hi _ ih
    have a := px_hap_b (n := i) wS (by omega) ht
    have b2 := wS.1 (2 * (i : Int) + t) (by omega) (by omega)
    have e := mS.1 (2 * (i : Int) + t) (by omega) (by omega)
    rw [B220_5]
    simp (disch := omega) only [Kk, hM.1.1, hn, s204 (k := (i : Int)) hb ⟨by omega, by omega⟩ ht, e, GA, GR, GRc, GO, GI, GL, GV, am_w_i, am_ga, am_it, am_if, true_and, and_true, or_true, true_or, ne_eq, not_false_eq_true, not_true_eq_false, false_imp_iff, true_imp_iff, Int.reduceEq, Int.reduceLT, Int.reduceLE, Int.reduceAdd, Int.reduceSub, Int.reduceMul, Int.reduceNeg]
    exact ih () trivial
  · intro _ _
    rw [B220_5]
    simp (disch := omega) only [Kk, hM.1.1, hn, GA, GR, GRc, GO, GI, GL, GV, am_w_i, am_ga, am_it, am_if, true_and, and_true, or_true, true_or, ne_eq, not_false_eq_true, not_true_eq_false, false_imp_iff, true_imp_iff, Int.reduceEq, Int.reduceLT, Int.reduceLE, Int.reduceAdd, Int.reduceSub, Int.reduceMul, Int.reduceNeg]
theorem q_twin {V σ : (Nat → Int → Int)} {lw : (Int → (Int → Int) → Int)} {a b : Int} : P2 (GC V lw σ) 100 226 [vI a, vI b] := by
  by_cases c : a = 0 ∨ a = 1
  · have c1 : 0 ≤ a ∧ a < 2 := by omega
    rcases (show b = 0 ∨ b = 1 ∨ b = 2 ∨ (b ≠ 0 ∧ b ≠ 1 ∧ b ≠ 2) by omega) with z | z | z | z
    · refine ⟨vI (σ 2 a), fun w I L G d Q q => ?_, fun w I L G d Q q => ?_⟩
      · obtain ⟨⟨hw, hR, hL, hV, hM, hN⟩, rS, mS, wS, ny, ct⟩ := id G
        have h1 := hV.1.1; have h2 := hV.1.2.1; have h3 := hV.1.2.2
        simp (disch := omega) only [S100, KX, s95, c, z, HS (show isS 51 from Or.inl rfl), rS.2.1 a c1.1 c1.2, if_true, GA, GR, GRc, GO, GI, GL, GV, am_w_i, am_ga, am_it, am_if, true_and, and_true, or_true, true_or, ne_eq, not_false_eq_true, not_true_eq_false, false_imp_iff, true_imp_iff, Int.reduceEq, Int.reduceLT, Int.reduceLE, Int.reduceAdd, Int.reduceSub, Int.reduceMul, Int.reduceNeg]
        exact q _ _ _ QR.rf
      · obtain ⟨⟨hw, hR, hL, hV, hM, hN⟩, rS, mS, wS, ny, ct⟩ := id G
        have h1 := hV.1.1; have h2 := hV.1.2.1; have h3 := hV.1.2.2
        simp (disch := omega) only [S226, B226_5, Kk, s201, c, z, Ks, am_up_a, mS.p0 (j := a), B226_62, if_true, GA, GR, GRc, GO, GI, GL, GV, am_w_i, am_ga, am_it, am_if, true_and, and_true, or_true, true_or, ne_eq, not_false_eq_true, not_true_eq_false, false_imp_iff, true_imp_iff, Int.reduceEq, Int.reduceLT, Int.reduceLE, Int.reduceAdd, Int.reduceSub, Int.reduceMul, Int.reduceNeg]
        exact q _ _ QR.t
    · refine ⟨vI (V 14 a), fun w I L G d Q q => ?_, fun w I L G d Q q => ?_⟩
      · obtain ⟨⟨hw, hR, hL, hV, hM, hN⟩, rS, mS, wS, ny, ct⟩ := id G
        have h1 := hV.1.1; have h2 := hV.1.2.1; have h3 := hV.1.2.2
        simp (disch := omega) only [S100, KX, s95, c, z, HW hw, (hR.2.2.2.2.1 a c1.1 c1.2).1, if_true, GA, GR, GRc, GO, GI, GL, GV, am_w_i, am_ga, am_it, am_if, true_and, and_true, or_true, true_or, ne_eq, not_false_eq_true, not_true_eq_false, false_imp_iff, true_imp_iff, Int.reduceEq, Int.reduceLT, Int.reduceLE, Int.reduceAdd, Int.reduceSub, Int.reduceMul, Int.reduceNeg]
        exact q _ _ _ QR.rf
      · obtain ⟨⟨hw, hR, hL, hV, hM, hN⟩, rS, mS, wS, ny, ct⟩ := id G
        have h1 := hV.1.1; have h2 := hV.1.2.1; have h3 := hV.1.2.2
        simp (disch := omega) only [S226, B226_5, Kk, s201, c, z, Kw, am_up_a, (hM.2.2.2.2.1 a c1.1 c1.2).1, B226_62, if_true, GA, GR, GRc, GO, GI, GL, GV, am_w_i, am_ga, am_it, am_if, true_and, and_true, or_true, true_or, ne_eq, not_false_eq_true, not_true_eq_false, false_imp_iff, true_imp_iff, Int.reduceEq, Int.reduceLT, Int.reduceLE, Int.reduceAdd, Int.reduceSub, Int.reduceMul, Int.reduceNeg]
        exact q _ _ QR.t
    · refine ⟨vI (px_hap σ a (V 0 0).toNat), fun w I L G d Q q => ?_, fun w I L G d Q q => ?_⟩
      · obtain ⟨⟨hw, hR, hL, hV, hM, hN⟩, rS, mS, wS, ny, ct⟩ := id G
        obtain ⟨n, hn⟩ : ∃ n : Nat, V 0 0 = n := ⟨(V 0 0).toNat, by have := hV.1.1; omega⟩
        have h6 := hV.1.1.2
        have e2 : (V 0 0).toNat = n := by omega
        rw [e2] at q
        simp (disch := omega) only [S100, KX, s95, c, z, HW hw, HS (show isS 51 from Or.inl rfl), hR.1.1, hn, s64 (s := 51) (Or.inl rfl) (n := n) (by omega) c1 (rS.bA wS.1), rS.hap (n := n) (by omega) c1, if_true, GA, GR, GRc, GO, GI, GL, GV, am_w_i, am_ga, am_it, am_if, true_and, and_true, or_true, true_or, ne_eq, not_false_eq_true, not_true_eq_false, false_imp_iff, true_imp_iff, Int.reduceEq, Int.reduceLT, Int.reduceLE, Int.reduceAdd, Int.reduceSub, Int.reduceMul, Int.reduceNeg]
        exact q _ _ _ QR.rf
      · obtain ⟨⟨hw, hR, hL, hV, hM, hN⟩, rS, mS, wS, ny, ct⟩ := id G
        obtain ⟨n, hn⟩ : ∃ n : Nat, V 0 0 = n := ⟨(V 0 0).toNat, by have := hV.1.1; omega⟩
        have h6 := hV.1.1.2
        have e2 : (V 0 0).toNat = n := by omega
        rw [e2] at q
        simp (disch := omega) only [S226, B226_5, Kk, s201, c, z, s220 hM.t hV hn (b := 0) (Or.inl rfl) mS.t wS c1, B226_62, if_true, GA, GR, GRc, GO, GI, GL, GV, am_w_i, am_ga, am_it, am_if, true_and, and_true, or_true, true_or, ne_eq, not_false_eq_true, not_true_eq_false, false_imp_iff, true_imp_iff, Int.reduceEq, Int.reduceLT, Int.reduceLE, Int.reduceAdd, Int.reduceSub, Int.reduceMul, Int.reduceNeg]
        exact q _ _ QR.t
    · refine ⟨vI (-2147483648), fun w I L G d Q q => ?_, fun w I L G d Q q => ?_⟩
      · obtain ⟨⟨hw, hR, hL, hV, hM, hN⟩, rS, mS, wS, ny, ct⟩ := id G
        have h1 := hV.1.1; have h2 := hV.1.2.1; have h3 := hV.1.2.2
        simp (disch := omega) only [S100, KX, s95, c, z, if_true, GA, GR, GRc, GO, GI, GL, GV, am_w_i, am_ga, am_it, am_if, true_and, and_true, or_true, true_or, ne_eq, not_false_eq_true, not_true_eq_false, false_imp_iff, true_imp_iff, Int.reduceEq, Int.reduceLT, Int.reduceLE, Int.reduceAdd, Int.reduceSub, Int.reduceMul, Int.reduceNeg]
        exact q _ _ _ QR.rf
      · obtain ⟨⟨hw, hR, hL, hV, hM, hN⟩, rS, mS, wS, ny, ct⟩ := id G
        have h1 := hV.1.1; have h2 := hV.1.2.1; have h3 := hV.1.2.2
        simp (disch := omega) only [S226, B226_5, Kk, s201, c, z, B226_62, if_true, GA, GR, GRc, GO, GI, GL, GV, am_w_i, am_ga, am_it, am_if, true_and, and_true, or_true, true_or, ne_eq, not_false_eq_true, not_true_eq_false, false_imp_iff, true_imp_iff, Int.reduceEq, Int.reduceLT, Int.reduceLE, Int.reduceAdd, Int.reduceSub, Int.reduceMul, Int.reduceNeg]
        exact q _ _ QR.t
  · refine ⟨vI (-2147483648), fun w I L G d Q q => ?_, fun w I L G d Q q => ?_⟩
    · obtain ⟨⟨hw, hR, hL, hV, hM, hN⟩, rS, mS, wS, ny, ct⟩ := id G
      have h1 := hV.1.1; have h2 := hV.1.2.1; have h3 := hV.1.2.2
      simp (disch := omega) only [S100, KX, s95, c, if_false, GA, GR, GRc, GO, GI, GL, GV, am_w_i, am_ga, am_it, am_if, true_and, and_true, or_true, true_or, ne_eq, not_false_eq_true, not_true_eq_false, false_imp_iff, true_imp_iff, Int.reduceEq, Int.reduceLT, Int.reduceLE, Int.reduceAdd, Int.reduceSub, Int.reduceMul, Int.reduceNeg]
      exact q _ _ _ QR.rf
    · obtain ⟨⟨hw, hR, hL, hV, hM, hN⟩, rS, mS, wS, ny, ct⟩ := id G
      have h1 := hV.1.1; have h2 := hV.1.2.1; have h3 := hV.1.2.2
      simp (disch := omega) only [S226, B226_5, Kk, s201, c, if_false, GA, GR, GRc, GO, GI, GL, GV, am_w_i, am_ga, am_it, am_if, true_and, and_true, or_true, true_or, ne_eq, not_false_eq_true, not_true_eq_false, false_imp_iff, true_imp_iff, Int.reduceEq, Int.reduceLT, Int.reduceLE, Int.reduceAdd, Int.reduceSub, Int.reduceMul, Int.reduceNeg]
      exact q _ _ QR.t
