/-! 59: mean -/
def px_mc (V σ : (Nat → Int → Int)) (k t x : Int) (i : Nat) : Prop := (σ 3 i = 0 ∧ V 10 i = t) ∧ V 6 (V 11 i) = k ∧ V 12 i < σ 0 3 + x
def px_mt (V σ : (Nat → Int → Int)) (k t x : Int) (i : Nat) : Int := if (σ 3 i = 0 ∧ V 10 i = t) ∧ V 6 (V 11 i) = k ∧ V 12 i < σ 0 3 + x then V 7 (V 11 i) * V 9 (V 11 i) else 0
theorem px_mt_b {V σ : (Nat → Int → Int)} {k t x : Int} {i : Nat} (hV : WV V) (hi : (i : Int) < V 0 2) : -900 ≤ V 7 (V 11 i) * V 9 (V 11 i) ∧ V 7 (V 11 i) * V 9 (V 11 i) ≤ 900 := by
  have wi := (hV.2.2.2.1 i (by omega) hi).2.1
  have wd := hV.2.2.1 _ wi.1 wi.2
  have a := wd.2.1
  have b := wd.2.2.2
  generalize V 7 (V 11 i) = p at a
  generalize V 9 (V 11 i) = o at b
  rcases Int.le_total 0 p with h | h
  · have h1 : 0 ≤ p * o := Int.mul_nonneg h b.1
    have h2 : p * o ≤ 9 * 100 := Int.mul_le_mul a.2 b.2 b.1 (by omega)
    omega
  · have h1 : 0 ≤ (-p) * o := Int.mul_nonneg (by omega) b.1
    have h2 : (-p) * o ≤ 9 * 100 := Int.mul_le_mul (by omega) b.2 b.1 (by omega)
    rw [Int.neg_mul] at h1 h2
    omega
theorem px_ms_b {V σ : (Nat → Int → Int)} {k t x : Int} {n : Nat} (hV : WV V) (hn : (n : Int) ≤ V 0 2) : -(n * 900) ≤ px_sum (px_mt V σ k t x) n ∧ px_sum (px_mt V σ k t x) n ≤ n * 900 := by
  refine px_sum_b (by omega) n (fun i hi => ?_)
  have := px_mt_b (V := V) (σ := σ) (k := k) (t := t) (x := x) (i := i) hV (by omega)
  unfold px_mt; split <;> omega
theorem q_mean {V σ : (Nat → Int → Int)} {lw : (Int → (Int → Int) → Int)} {k t x b : Int} (hD : DN V σ) : P2 (GC V lw σ) 129 255 [vI k, vI t, vI x, vI b] := by
  by_cases c : (0 ≤ k ∧ k < V 0 0) ∧ (t = 0 ∨ t = 1) ∧ (0 ≤ x ∧ x ≤ 99) ∧ (0 ≤ b ∧ b ≤ 1)
  · obtain ⟨c1, c2, c3, c4⟩ := c
    refine ⟨vI (px_lt (px_sum (px_mt V σ k t x) (V 0 2).toNat) 100 b), fun w I L G d Q q => ?_, fun w I L G d Q q => ?_⟩
    · have G0 := G
      obtain ⟨⟨hw, hR, hL, hV, hM, hN⟩, rS, mS, wS, ny, ct⟩ := id G
      have h12 := hV.1.2.2
      have h8 := hV.1.2.1
      have dy := wS.2.2.1
      obtain ⟨n, hn⟩ : ∃ n : Nat, V 0 2 = n := ⟨(V 0 2).toNat, by omega⟩
      have hn2 : (V 0 2).toNat = n := by omega
      rw [hn2] at q
      rw [S129]
      simp (disch := omega) only [KX, s93 hw hR, s95, s96, c1, c2, c3, c4, if_true, GA, GR, GRc, GO, GI, GL, GV, am_w_i, am_ga, am_it, am_if, true_and, and_true, or_true, true_or, ne_eq, not_false_eq_true, not_true_eq_false, false_imp_iff, true_imp_iff, Int.reduceEq, Int.reduceLT, Int.reduceLE, Int.reduceAdd, Int.reduceSub, Int.reduceMul, Int.reduceNeg]
      refine am_loop (α := Option am_V) n (fun i l7 => am_WP (d + 20) 129 44 [some (vR (some 0)), some (vI k), some (vI t), some (vI x), some (vI b), some (vI (px_sum (px_mt V σ k t x) i)), some (vI (i : Int)), l7] [] (mkH w I L) Q) (fun i _ => True) ?_ ?_ 0 none (Nat.zero_le _) trivial
      · intro i l7 hi _ ih
        have z := ih (some (vI (V 11 i))) trivial
        have sb := px_ms_b (V := V) (σ := σ) (k := k) (t := t) (x := x) (n := i) hV (by omega)
        have tb := px_mt_b (V := V) (σ := σ) (k := k) (t := t) (x := x) (i := i) hV (by omega)
        have e : px_sum (px_mt V σ k t x) (i + 1) = px_sum (px_mt V σ k t x) i + px_mt V σ k t x i := rfl
        have wi := (hV.2.2.2.1 i (by omega) (by omega))
        have vi := hR.2.2.2.1 i (by omega) (by omega)
        have vd := hR.2.2.1 _ wi.2.1.1 wi.2.1.2
        rw [e] at z
        rw [show px_mt V σ k t x i = (if (σ 3 i = 0 ∧ V 10 i = t) ∧ V 6 (V 11 i) = k ∧ V 12 i < σ 0 3 + x then V 7 (V 11 i) * V 9 (V 11 i) else 0) from rfl] at z
        rw [B129_44]
        simp (disch := omega) only [KX, HW hw, HS (show isS 51 from Or.inl rfl), hR.1.2.2, hn, vi.2.1, s130 G0 (i := (i : Int)) (by omega) (by omega), vd.2.1, vi.2.2, rS.2.2.2.1, vd.2.2.1, vd.2.2.2.2, B129_140, GA, GR, GRc, GO, GI, GL, GV, am_w_i, am_ga, am_it, am_if, true_and, and_true, or_true, true_or, ne_eq, not_false_eq_true, not_true_eq_false, false_imp_iff, true_imp_iff, Int.reduceEq, Int.reduceLT, Int.reduceLE, Int.reduceAdd, Int.reduceSub, Int.reduceMul, Int.reduceNeg]
        by_cases d1 : σ 3 i = 0 ∧ V 10 i = t
        · by_cases d2 : V 6 (V 11 i) = k
          · by_cases d3 : V 12 i < σ 0 3 + x
            · rw [if_pos ⟨d1, d2, d3⟩] at z
              first | (simp (disch := omega) only [d1, d2, GA, GR, GRc, GO, GI, GL, GV, am_w_i, am_ga, am_it, am_if, true_and, and_true, or_true, true_or, ne_eq, not_false_eq_true, not_true_eq_false, false_imp_iff, true_imp_iff, Int.reduceEq, Int.reduceLT, Int.reduceLE, Int.reduceAdd, Int.reduceSub, Int.reduceMul, Int.reduceNeg]; exact z) | simp (disch := omega) only [d1, d2, z, GA, GR, GRc, GO, GI, GL, GV, am_w_i, am_ga, am_it, am_if, true_and, and_true, or_true, true_or, ne_eq, not_false_eq_true, not_true_eq_false, false_imp_iff, true_imp_iff, Int.reduceEq, Int.reduceLT, Int.reduceLE, Int.reduceAdd, Int.reduceSub, Int.reduceMul, Int.reduceNeg]
            · rw [if_neg (fun y => d3 y.2.2), ] at z
              rw [show px_sum (px_mt V σ k t x) i + 0 = px_sum (px_mt V σ k t x) i by omega] at z
              first | (simp (disch := omega) only [d1, d2, GA, GR, GRc, GO, GI, GL, GV, am_w_i, am_ga, am_it, am_if, true_and, and_true, or_true, true_or, ne_eq, not_false_eq_true, not_true_eq_false, false_imp_iff, true_imp_iff, Int.reduceEq, Int.reduceLT, Int.reduceLE, Int.reduceAdd, Int.reduceSub, Int.reduceMul, Int.reduceNeg]; exact z) | simp (disch := omega) only [d1, d2, z, GA, GR, GRc, GO, GI, GL, GV, am_w_i, am_ga, am_it, am_if, true_and, and_true, or_true, true_or, ne_eq, not_false_eq_true, not_true_eq_false, false_imp_iff, true_imp_iff, Int.reduceEq, Int.reduceLT, Int.reduceLE, Int.reduceAdd, Int.reduceSub, Int.reduceMul, Int.reduceNeg]
          · rw [if_neg (fun y => d2 y.2.1)] at z
            rw [show px_sum (px_mt V σ k t x) i + 0 = px_sum (px_mt V σ k t x) i by omega] at z
            first | (simp (disch := omega) only [d1, d2, GA, GR, GRc, GO, GI, GL, GV, am_w_i, am_ga, am_it, am_if, true_and, and_true, or_true, true_or, ne_eq, not_false_eq_true, not_true_eq_false, false_imp_iff, true_imp_iff, Int.reduceEq, Int.reduceLT, Int.reduceLE, Int.reduceAdd, Int.reduceSub, Int.reduceMul, Int.reduceNeg]; exact z) | simp (disch := omega) only [d1, d2, z, GA, GR, GRc, GO, GI, GL, GV, am_w_i, am_ga, am_it, am_if, true_and, and_true, or_true, true_or, ne_eq, not_false_eq_true, not_true_eq_false, false_imp_iff, true_imp_iff, Int.reduceEq, Int.reduceLT, Int.reduceLE, Int.reduceAdd, Int.reduceSub, Int.reduceMul, Int.reduceNeg]
        · rw [if_neg (fun y => d1 y.1)] at z
          rw [show px_sum (px_mt V σ k t x) i + 0 = px_sum (px_mt V σ k t x) i by omega] at z
          first | (simp (disch := omega) only [d1, GA, GR, GRc, GO, GI, GL, GV, am_w_i, am_ga, am_it, am_if, true_and, and_true, or_true, true_or, ne_eq, not_false_eq_true, not_true_eq_false, false_imp_iff, true_imp_iff, Int.reduceEq, Int.reduceLT, Int.reduceLE, Int.reduceAdd, Int.reduceSub, Int.reduceMul, Int.reduceNeg]; exact z) | simp (disch := omega) only [d1, z, GA, GR, GRc, GO, GI, GL, GV, am_w_i, am_ga, am_it, am_if, true_and, and_true, or_true, true_or, ne_eq, not_false_eq_true, not_true_eq_false, false_imp_iff, true_imp_iff, Int.reduceEq, Int.reduceLT, Int.reduceLE, Int.reduceAdd, Int.reduceSub, Int.reduceMul, Int.reduceNeg]
      · intro l7 _
        have sb := px_ms_b (V := V) (σ := σ) (k := k) (t := t) (x := x) (n := n) hV (by omega)
        have hg : 0 < Nat.gcd 100 (px_sum (px_mt V σ k t x) n).natAbs := Nat.gcd_pos_of_pos_left _ (by omega)
        have tb : -100000 ≤ px_lt (px_sum (px_mt V σ k t x) n) 100 b ∧ px_lt (px_sum (px_mt V σ k t x) n) 100 b ≤ 100000 := by unfold px_lt; exact tdiv_b (by split <;> omega)
        have s := fun Q' => s127 (d := d + 19) (h := mkH w I L) (a := px_sum (px_mt V σ k t x) n) (t := b) (b := 100) ⟨by omega, by omega⟩ (by omega) Q'
        have e100 : ((100 : Nat) : Int) = 100 := rfl
        rw [e100] at s
        rw [B129_44]
        simp (disch := omega) only [KX, HW hw, hR.1.2.2, hn, s, GA, GR, GRc, GO, GI, GL, GV, am_w_i, am_ga, am_it, am_if, true_and, and_true, or_true, true_or, ne_eq, not_false_eq_true, not_true_eq_false, false_imp_iff, true_imp_iff, Int.reduceEq, Int.reduceLT, Int.reduceLE, Int.reduceAdd, Int.reduceSub, Int.reduceMul, Int.reduceNeg]
        exact q _ _ _ QR.rf
    · have G1 := G.t (v := 0)
      obtain ⟨⟨hw, hR, hL, hV, hM, hN⟩, rS, mS, wS, ny, ct⟩ := id G
      have h12 := hV.1.2.2
      have h8 := hV.1.2.1
      have dy := wS.2.2.1
      have h131 : am_up I 99 2 0 131 0 = σ 0 3 := by rw [am_up_a _ _ _ _ (by decide)]; exact mS.2.2.2.1
      obtain ⟨n, hn⟩ : ∃ n : Nat, V 0 2 = n := ⟨(V 0 2).toNat, by omega⟩
      have hn2 : (V 0 2).toNat = n := by omega
      rw [hn2] at q
      rw [S255]
      simp (disch := omega) only [Kk, B255_5, s199 hM.t, s201, s153, c1, c2, c3, c4, if_true, GA, GR, GRc, GO, GI, GL, GV, am_w_i, am_ga, am_it, am_if, true_and, and_true, or_true, true_or, ne_eq, not_false_eq_true, not_true_eq_false, false_imp_iff, true_imp_iff, Int.reduceEq, Int.reduceLT, Int.reduceLE, Int.reduceAdd, Int.reduceSub, Int.reduceMul, Int.reduceNeg]
      refine am_loop (α := Option am_V) n (fun i l7 => am_WP (d + 20) 255 50 [some (vR (some 99)), some (vI k), some (vI t), some (vI x), some (vI b), some (vI (px_sum (px_mt V σ k t x) i)), some (vI (i : Int)), l7] [] (mkH w (am_up I 99 2 0) L) Q) (fun i _ => True) ?_ ?_ 0 none (Nat.zero_le _) trivial
      · intro i l7 hi _ ih
        have z := ih (some (vI (V 11 i))) trivial
        have sb := px_ms_b (V := V) (σ := σ) (k := k) (t := t) (x := x) (n := i) hV (by omega)
        have tb := px_mt_b (V := V) (σ := σ) (k := k) (t := t) (x := x) (i := i) hV (by omega)
        have e : px_sum (px_mt V σ k t x) (i + 1) = px_sum (px_mt V σ k t x) i + px_mt V σ k t x i := rfl
        have wi := (hV.2.2.2.1 i (by omega) (by omega))
        have vi := hM.2.2.2.1 i (by omega) (by omega)
        have vd := hM.2.2.1 _ wi.2.1.1 wi.2.1.2
        have dn := hD i (by omega) (by omega)
        rw [e] at z
        rw [show px_mt V σ k t x i = (if (σ 3 i = 0 ∧ V 10 i = t) ∧ V 6 (V 11 i) = k ∧ V 12 i < σ 0 3 + x then V 7 (V 11 i) * V 9 (V 11 i) else 0) from rfl] at z
        rw [B255_50]
        simp (disch := omega) only [Kk, am_up_n, hM.1.2.2, hn, Kw, Ks, h131, am_up_a, vi.1, vi.2.1, vi.2.2, mS.o0 (j := (i : Int)), vd.2.1, vd.2.2.1, vd.2.2.2.2, B255_154, GA, GR, GRc, GO, GI, GL, GV, am_w_i, am_ga, am_it, am_if, true_and, and_true, or_true, true_or, ne_eq, not_false_eq_true, not_true_eq_false, false_imp_iff, true_imp_iff, Int.reduceEq, Int.reduceLT, Int.reduceLE, Int.reduceAdd, Int.reduceSub, Int.reduceMul, Int.reduceNeg]
        by_cases d1 : σ 3 i = 0
        · have d5 : σ 0 3 ≤ V 12 i := by
            rcases Int.lt_or_le (V 12 i) (σ 0 3) with h | h
            · exact absurd d1 (dn h)
            · exact h
          by_cases d4 : V 10 i = t
          · by_cases d2 : V 6 (V 11 i) = k
            · by_cases d3 : V 12 i < σ 0 3 + x
              · rw [if_pos ⟨⟨d1, d4⟩, d2, d3⟩] at z
                first | (simp (disch := omega) only [d1, d2, d4, GA, GR, GRc, GO, GI, GL, GV, am_w_i, am_ga, am_it, am_if, true_and, and_true, or_true, true_or, ne_eq, not_false_eq_true, not_true_eq_false, false_imp_iff, true_imp_iff, Int.reduceEq, Int.reduceLT, Int.reduceLE, Int.reduceAdd, Int.reduceSub, Int.reduceMul, Int.reduceNeg]; exact z) | simp (disch := omega) only [d1, d2, d4, z, GA, GR, GRc, GO, GI, GL, GV, am_w_i, am_ga, am_it, am_if, true_and, and_true, or_true, true_or, ne_eq, not_false_eq_true, not_true_eq_false, false_imp_iff, true_imp_iff, Int.reduceEq, Int.reduceLT, Int.reduceLE, Int.reduceAdd, Int.reduceSub, Int.reduceMul, Int.reduceNeg]
              · rw [if_neg (fun y => d3 y.2.2)] at z
                rw [show px_sum (px_mt V σ k t x) i + 0 = px_sum (px_mt V σ k t x) i by omega] at z
                first | (simp (disch := omega) only [d1, d2, d4, GA, GR, GRc, GO, GI, GL, GV, am_w_i, am_ga, am_it, am_if, true_and, and_true, or_true, true_or, ne_eq, not_false_eq_true, not_true_eq_false, false_imp_iff, true_imp_iff, Int.reduceEq, Int.reduceLT, Int.reduceLE, Int.reduceAdd, Int.reduceSub, Int.reduceMul, Int.reduceNeg]; exact z) | simp (disch := omega) only [d1, d2, d4, z, GA, GR, GRc, GO, GI, GL, GV, am_w_i, am_ga, am_it, am_if, true_and, and_true, or_true, true_or, ne_eq, not_false_eq_true, not_true_eq_false, false_imp_iff, true_imp_iff, Int.reduceEq, Int.reduceLT, Int.reduceLE, Int.reduceAdd, Int.reduceSub, Int.reduceMul, Int.reduceNeg]
            · rw [if_neg (fun y => d2 y.2.1)] at z
              rw [show px_sum (px_mt V σ k t x) i + 0 = px_sum (px_mt V σ k t x) i by omega] at z
              first | (simp (disch := omega) only [d1, d2, d4, GA, GR, GRc, GO, GI, GL, GV, am_w_i, am_ga, am_it, am_if, true_and, and_true, or_true, true_or, ne_eq, not_false_eq_true, not_true_eq_false, false_imp_iff, true_imp_iff, Int.reduceEq, Int.reduceLT, Int.reduceLE, Int.reduceAdd, Int.reduceSub, Int.reduceMul, Int.reduceNeg]; exact z) | simp (disch := omega) only [d1, d2, d4, z, GA, GR, GRc, GO, GI, GL, GV, am_w_i, am_ga, am_it, am_if, true_and, and_true, or_true, true_or, ne_eq, not_false_eq_true, not_true_eq_false, false_imp_iff, true_imp_iff, Int.reduceEq, Int.reduceLT, Int.reduceLE, Int.reduceAdd, Int.reduceSub, Int.reduceMul, Int.reduceNeg]
          · rw [if_neg (fun y => d4 y.1.2)] at z
            rw [show px_sum (px_mt V σ k t x) i + 0 = px_sum (px_mt V σ k t x) i by omega] at z
            first | (simp (disch := omega) only [d1, d4, GA, GR, GRc, GO, GI, GL, GV, am_w_i, am_ga, am_it, am_if, true_and, and_true, or_true, true_or, ne_eq, not_false_eq_true, not_true_eq_false, false_imp_iff, true_imp_iff, Int.reduceEq, Int.reduceLT, Int.reduceLE, Int.reduceAdd, Int.reduceSub, Int.reduceMul, Int.reduceNeg]; exact z) | simp (disch := omega) only [d1, d4, z, GA, GR, GRc, GO, GI, GL, GV, am_w_i, am_ga, am_it, am_if, true_and, and_true, or_true, true_or, ne_eq, not_false_eq_true, not_true_eq_false, false_imp_iff, true_imp_iff, Int.reduceEq, Int.reduceLT, Int.reduceLE, Int.reduceAdd, Int.reduceSub, Int.reduceMul, Int.reduceNeg]
        · rw [if_neg (fun y => d1 y.1.1)] at z
          rw [show px_sum (px_mt V σ k t x) i + 0 = px_sum (px_mt V σ k t x) i by omega] at z
          by_cases d4 : V 10 i = t
          · by_cases d2 : V 6 (V 11 i) = k
            · first | (simp (disch := omega) only [d1, d2, d4, GA, GR, GRc, GO, GI, GL, GV, am_w_i, am_ga, am_it, am_if, true_and, and_true, or_true, true_or, ne_eq, not_false_eq_true, not_true_eq_false, false_imp_iff, true_imp_iff, Int.reduceEq, Int.reduceLT, Int.reduceLE, Int.reduceAdd, Int.reduceSub, Int.reduceMul, Int.reduceNeg]; exact z) | simp (disch := omega) only [d1, d2, d4, z, GA, GR, GRc, GO, GI, GL, GV, am_w_i, am_ga, am_it, am_if, true_and, and_true, or_true, true_or, ne_eq, not_false_eq_true, not_true_eq_false, false_imp_iff, true_imp_iff, Int.reduceEq, Int.reduceLT, Int.reduceLE, Int.reduceAdd, Int.reduceSub, Int.reduceMul, Int.reduceNeg]
            · first | (simp (disch := omega) only [d1, d2, d4, GA, GR, GRc, GO, GI, GL, GV, am_w_i, am_ga, am_it, am_if, true_and, and_true, or_true, true_or, ne_eq, not_false_eq_true, not_true_eq_false, false_imp_iff, true_imp_iff, Int.reduceEq, Int.reduceLT, Int.reduceLE, Int.reduceAdd, Int.reduceSub, Int.reduceMul, Int.reduceNeg]; exact z) | simp (disch := omega) only [d1, d2, d4, z, GA, GR, GRc, GO, GI, GL, GV, am_w_i, am_ga, am_it, am_if, true_and, and_true, or_true, true_or, ne_eq, not_false_eq_true, not_true_eq_false, false_imp_iff, true_imp_iff, Int.reduceEq, Int.reduceLT, Int.reduceLE, Int.reduceAdd, Int.reduceSub, Int.reduceMul, Int.reduceNeg]
          · first | (simp (disch := omega) only [d1, d4, GA, GR, GRc, GO, GI, GL, GV, am_w_i, am_ga, am_it, am_if, true_and, and_true, or_true, true_or, ne_eq, not_false_eq_true, not_true_eq_false, false_imp_iff, true_imp_iff, Int.reduceEq, Int.reduceLT, Int.reduceLE, Int.reduceAdd, Int.reduceSub, Int.reduceMul, Int.reduceNeg]; exact z) | simp (disch := omega) only [d1, d4, z, GA, GR, GRc, GO, GI, GL, GV, am_w_i, am_ga, am_it, am_if, true_and, and_true, or_true, true_or, ne_eq, not_false_eq_true, not_true_eq_false, false_imp_iff, true_imp_iff, Int.reduceEq, Int.reduceLT, Int.reduceLE, Int.reduceAdd, Int.reduceSub, Int.reduceMul, Int.reduceNeg]
      · intro l7 _
        have sb := px_ms_b (V := V) (σ := σ) (k := k) (t := t) (x := x) (n := n) hV (by omega)
        have hg : 0 < Nat.gcd 100 (px_sum (px_mt V σ k t x) n).natAbs := Nat.gcd_pos_of_pos_left _ (by omega)
        have hg2 : Nat.gcd 100 (px_sum (px_mt V σ k t x) n).natAbs ≤ 100 := Nat.gcd_le_left _ (by omega)
        have z := q _ _ (QR.t (v := 0))
        have s := fun Q' => s252 (d := d + 19) (h := mkH w (am_up I 99 2 0) L) (x := 100) (y := (px_sum (px_mt V σ k t x) n).natAbs) Q'
        have e100 : ((100 : Nat) : Int) = 100 := rfl
        rw [e100, ← iabs_n] at s
        have t1 := tdiv_b (a := px_sum (px_mt V σ k t x) n) (b := (Nat.gcd 100 (px_sum (px_mt V σ k t x) n).natAbs : Int)) (c := 100000) (by omega)
        have t2 := tdiv_b (a := 100) (b := (Nat.gcd 100 (px_sum (px_mt V σ k t x) n).natAbs : Int)) (c := 100000) (by omega)
        unfold px_lt at z
        rw [B255_50]
        simp (disch := omega) only [Kk, am_up_n, hM.1.2.2, hn, s202, s, B255_193, GA, GR, GRc, GO, GI, GL, GV, am_w_i, am_ga, am_it, am_if, true_and, and_true, or_true, true_or, ne_eq, not_false_eq_true, not_true_eq_false, false_imp_iff, true_imp_iff, Int.reduceEq, Int.reduceLT, Int.reduceLE, Int.reduceAdd, Int.reduceSub, Int.reduceMul, Int.reduceNeg]
        by_cases c5 : b = 0
        · rw [if_pos c5] at z; first | (simp (disch := omega) only [c5, GA, GR, GRc, GO, GI, GL, GV, am_w_i, am_ga, am_it, am_if, true_and, and_true, or_true, true_or, ne_eq, not_false_eq_true, not_true_eq_false, false_imp_iff, true_imp_iff, Int.reduceEq, Int.reduceLT, Int.reduceLE, Int.reduceAdd, Int.reduceSub, Int.reduceMul, Int.reduceNeg]; exact z) | simp (disch := omega) only [c5, z, GA, GR, GRc, GO, GI, GL, GV, am_w_i, am_ga, am_it, am_if, true_and, and_true, or_true, true_or, ne_eq, not_false_eq_true, not_true_eq_false, false_imp_iff, true_imp_iff, Int.reduceEq, Int.reduceLT, Int.reduceLE, Int.reduceAdd, Int.reduceSub, Int.reduceMul, Int.reduceNeg]
        · rw [if_neg c5] at z; first | (simp (disch := omega) only [c5, GA, GR, GRc, GO, GI, GL, GV, am_w_i, am_ga, am_it, am_if, true_and, and_true, or_true, true_or, ne_eq, not_false_eq_true, not_true_eq_false, false_imp_iff, true_imp_iff, Int.reduceEq, Int.reduceLT, Int.reduceLE, Int.reduceAdd, Int.reduceSub, Int.reduceMul, Int.reduceNeg]; exact z) | simp (disch := omega) only [c5, z, GA, GR, GRc, GO, GI, GL, GV, am_w_i, am_ga, am_it, am_if, true_and, and_true, or_true, true_or, ne_eq, not_false_eq_true, not_true_eq_false, false_imp_iff, true_imp_iff, Int.reduceEq, Int.reduceLT, Int.reduceLE, Int.reduceAdd, Int.reduceSub, Int.reduceMul, Int.reduceNeg]
  · refine ⟨vI (-2147483648), fun w I L G d Q q => ?_, fun w I L G d Q q => ?_⟩
    · obtain ⟨⟨hw, hR, hL, hV, hM, hN⟩, rS, mS, wS, ny, ct⟩ := id G
      have z := q _ _ _ QR.rf
      rw [S129]
      by_cases c1 : 0 ≤ k ∧ k < V 0 0
      · by_cases c2 : t = 0 ∨ t = 1
        · by_cases c3 : 0 ≤ x ∧ x ≤ 99
          · have c4 : ¬ (0 ≤ b ∧ b ≤ 1) := fun h => c ⟨c1, c2, c3, h⟩
            simp (disch := omega) only [KX, s93 hw hR, s95, s96, c1, c2, c3, c4, if_true, if_false, B129_35, z, GA, GR, GRc, GO, GI, GL, GV, am_w_i, am_ga, am_it, am_if, true_and, and_true, or_true, true_or, ne_eq, not_false_eq_true, not_true_eq_false, false_imp_iff, true_imp_iff, Int.reduceEq, Int.reduceLT, Int.reduceLE, Int.reduceAdd, Int.reduceSub, Int.reduceMul, Int.reduceNeg]
          · simp (disch := omega) only [KX, s93 hw hR, s95, s96, c1, c2, c3, if_true, if_false, B129_35, z, GA, GR, GRc, GO, GI, GL, GV, am_w_i, am_ga, am_it, am_if, true_and, and_true, or_true, true_or, ne_eq, not_false_eq_true, not_true_eq_false, false_imp_iff, true_imp_iff, Int.reduceEq, Int.reduceLT, Int.reduceLE, Int.reduceAdd, Int.reduceSub, Int.reduceMul, Int.reduceNeg]
        · simp (disch := omega) only [KX, s93 hw hR, s95, c1, c2, if_true, if_false, B129_35, z, GA, GR, GRc, GO, GI, GL, GV, am_w_i, am_ga, am_it, am_if, true_and, and_true, or_true, true_or, ne_eq, not_false_eq_true, not_true_eq_false, false_imp_iff, true_imp_iff, Int.reduceEq, Int.reduceLT, Int.reduceLE, Int.reduceAdd, Int.reduceSub, Int.reduceMul, Int.reduceNeg]
      · simp (disch := omega) only [KX, s93 hw hR, c1, if_false, B129_35, z, GA, GR, GRc, GO, GI, GL, GV, am_w_i, am_ga, am_it, am_if, true_and, and_true, or_true, true_or, ne_eq, not_false_eq_true, not_true_eq_false, false_imp_iff, true_imp_iff, Int.reduceEq, Int.reduceLT, Int.reduceLE, Int.reduceAdd, Int.reduceSub, Int.reduceMul, Int.reduceNeg]
    · obtain ⟨⟨hw, hR, hL, hV, hM, hN⟩, rS, mS, wS, ny, ct⟩ := id G
      have z := q _ _ (QR.t (v := 0))
      rw [S255]
      by_cases c1 : 0 ≤ k ∧ k < V 0 0
      · by_cases c2 : t = 0 ∨ t = 1
        · by_cases c3 : 0 ≤ x ∧ x ≤ 99
          · have c4 : ¬ (0 ≤ b ∧ b ≤ 1) := fun h => c ⟨c1, c2, c3, h⟩
            simp (disch := omega) only [Kk, B255_5, s199 hM.t, s201, s153, c1, c2, c3, c4, if_true, if_false, B255_40, z, GA, GR, GRc, GO, GI, GL, GV, am_w_i, am_ga, am_it, am_if, true_and, and_true, or_true, true_or, ne_eq, not_false_eq_true, not_true_eq_false, false_imp_iff, true_imp_iff, Int.reduceEq, Int.reduceLT, Int.reduceLE, Int.reduceAdd, Int.reduceSub, Int.reduceMul, Int.reduceNeg]
          · simp (disch := omega) only [Kk, B255_5, s199 hM.t, s201, s153, c1, c2, c3, if_true, if_false, B255_40, z, GA, GR, GRc, GO, GI, GL, GV, am_w_i, am_ga, am_it, am_if, true_and, and_true, or_true, true_or, ne_eq, not_false_eq_true, not_true_eq_false, false_imp_iff, true_imp_iff, Int.reduceEq, Int.reduceLT, Int.reduceLE, Int.reduceAdd, Int.reduceSub, Int.reduceMul, Int.reduceNeg]
        · simp (disch := omega) only [Kk, B255_5, s199 hM.t, s201, c1, c2, if_true, if_false, B255_40, z, GA, GR, GRc, GO, GI, GL, GV, am_w_i, am_ga, am_it, am_if, true_and, and_true, or_true, true_or, ne_eq, not_false_eq_true, not_true_eq_false, false_imp_iff, true_imp_iff, Int.reduceEq, Int.reduceLT, Int.reduceLE, Int.reduceAdd, Int.reduceSub, Int.reduceMul, Int.reduceNeg]
      · simp (disch := omega) only [Kk, B255_5, s199 hM.t, c1, if_false, B255_40, z, GA, GR, GRc, GO, GI, GL, GV, am_w_i, am_ga, am_it, am_if, true_and, and_true, or_true, true_or, ne_eq, not_false_eq_true, not_true_eq_false, false_imp_iff, true_imp_iff, Int.reduceEq, Int.reduceLT, Int.reduceLE, Int.reduceAdd, Int.reduceSub, Int.reduceMul, Int.reduceNeg]
