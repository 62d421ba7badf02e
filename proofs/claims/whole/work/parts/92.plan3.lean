/-! 92: plans, the pair -/
set_option maxHeartbeats 2000000 in
theorem p_plan {t nn x : Int} : PM 116 243 [vI t, vI nn, vI x] := by
  intro d w I L hG
  have no := fun r => PM.no (d := d) (j1 := 116) (j2 := 243) (as := [vI t, vI nn, vI x]) r hG
  obtain ⟨V, lw, σ, tn, f, g, G⟩ := hG
  obtain ⟨⟨hw, hR, hL, hV, hM, hN⟩, rS, mS, wS, ny, ct⟩ := G.1
  by_cases c1 : t = 0 ∨ t = 1
  · by_cases c2 : 1 ≤ nn ∧ nn ≤ 4
    · by_cases c3 : 0 ≤ x ∧ x ≤ 4
      · obtain ⟨n, rfl⟩ : ∃ n : Nat, nn = n := ⟨nn.toNat, by omega⟩
        have hn : 1 ≤ n ∧ n ≤ 4 := by omega
        have ht2 : 0 ≤ t ∧ t < 2 := by omega
        have hP := px_B_w V n
        have k12 := hV.1.2.2
        obtain ⟨bcl, hbcl⟩ : ∃ b, b = px_pm (px_pd V lw t n σ) (px_B V ^ n - 1) := ⟨_, rfl⟩
        have fin : ∀ w' I' L', GR0 V lw σ tn f g w' I' L' → I' 64 1 = bcl.2 → (∀ j : Nat, j < n → I' 65 j = px_dg V n bcl.1 j) → am_WP (d + 20) 116 68 [some (vR (some 0)), some (vI t), some (vI (n : Int)), some (vI x)] [] (mkH w' I' L') (fun r h1 => am_Sp (d + 20) 243 (vR (some 99) :: [vI t, vI (n : Int), vI x]) h1 (fun r' h2 => r' = r ∧ r ≠ none ∧ ∃ w2 I2 L2, h2 = mkH w2 I2 L2 ∧ GG w2 I2 L2)) := by
          intro w' I' L' G' e1 e2
          have ref := fun v hv => s243 (d := d) (w := w') (I := I') (L := L') (t := t) (x := x) (n := n) G'.1 c1 hn c3 (v := v) hv (Q := fun r' h2 => r' = some (vI v) ∧ some (vI v) ≠ none ∧ ∃ w2 I2 L2, h2 = mkH w2 I2 L2 ∧ GG w2 I2 L2) (fun I2 L2 r => ⟨rfl, by simp, w', I2, L2, rfl, V, lw, σ, tn, f, g, G'.q r⟩)
          rw [← hbcl] at ref
          rw [B116_68]
          by_cases c4 : x = 4
          · have z := ref bcl.2 (by rw [if_pos c4])
            simp (disch := omega) only [KX, KN, c4, e1, GA, GR, GRc, GO, GI, GL, GV, am_w_i, am_ga, am_it, am_if, true_and, and_true, or_true, true_or, ne_eq, not_false_eq_true, not_true_eq_false, false_imp_iff, true_imp_iff, Int.reduceEq, Int.reduceLT, Int.reduceLE, Int.reduceAdd, Int.reduceSub, Int.reduceMul, Int.reduceNeg]
            rw [c4] at z
            exact z
          · by_cases c5 : x < n
            · obtain ⟨xn, rfl⟩ : ∃ xn : Nat, x = xn := ⟨x.toNat, by omega⟩
              have e3 := e2 xn (by omega)
              rw [Int.toNat_natCast] at ref
              by_cases c6 : 0 ≤ px_dg V n bcl.1 xn
              · have z := ref (px_dg V n bcl.1 xn) (by rw [if_neg c4, if_pos ⟨c5, c6⟩])
                first | (simp (disch := omega) only [KX, KN, c4, c5, e3, c6, B116_112, GA, GR, GRc, GO, GI, GL, GV, am_w_i, am_ga, am_it, am_if, true_and, and_true, or_true, true_or, ne_eq, not_false_eq_true, not_true_eq_false, false_imp_iff, true_imp_iff, Int.reduceEq, Int.reduceLT, Int.reduceLE, Int.reduceAdd, Int.reduceSub, Int.reduceMul, Int.reduceNeg]; exact z) | simp (disch := omega) only [KX, KN, c4, c5, e3, c6, B116_112, z, GA, GR, GRc, GO, GI, GL, GV, am_w_i, am_ga, am_it, am_if, true_and, and_true, or_true, true_or, ne_eq, not_false_eq_true, not_true_eq_false, false_imp_iff, true_imp_iff, Int.reduceEq, Int.reduceLT, Int.reduceLE, Int.reduceAdd, Int.reduceSub, Int.reduceMul, Int.reduceNeg]
              · have z := ref (-2) (by rw [if_neg c4, if_neg (fun y => c6 y.2)])
                first | (simp (disch := omega) only [KX, KN, c4, c5, e3, c6, B116_110, B116_112, GA, GR, GRc, GO, GI, GL, GV, am_w_i, am_ga, am_it, am_if, true_and, and_true, or_true, true_or, ne_eq, not_false_eq_true, not_true_eq_false, false_imp_iff, true_imp_iff, Int.reduceEq, Int.reduceLT, Int.reduceLE, Int.reduceAdd, Int.reduceSub, Int.reduceMul, Int.reduceNeg]; exact z) | simp (disch := omega) only [KX, KN, c4, c5, e3, c6, B116_110, B116_112, z, GA, GR, GRc, GO, GI, GL, GV, am_w_i, am_ga, am_it, am_if, true_and, and_true, or_true, true_or, ne_eq, not_false_eq_true, not_true_eq_false, false_imp_iff, true_imp_iff, Int.reduceEq, Int.reduceLT, Int.reduceLE, Int.reduceAdd, Int.reduceSub, Int.reduceMul, Int.reduceNeg]
            · have z := ref (-2) (by rw [if_neg c4, if_neg (fun y => c5 y.1)])
              first | (simp (disch := omega) only [KX, KN, c4, c5, B116_110, B116_112, GA, GR, GRc, GO, GI, GL, GV, am_w_i, am_ga, am_it, am_if, true_and, and_true, or_true, true_or, ne_eq, not_false_eq_true, not_true_eq_false, false_imp_iff, true_imp_iff, Int.reduceEq, Int.reduceLT, Int.reduceLE, Int.reduceAdd, Int.reduceSub, Int.reduceMul, Int.reduceNeg]; exact z) | simp (disch := omega) only [KX, KN, c4, c5, B116_110, B116_112, z, GA, GR, GRc, GO, GI, GL, GV, am_w_i, am_ga, am_it, am_if, true_and, and_true, or_true, true_or, ne_eq, not_false_eq_true, not_true_eq_false, false_imp_iff, true_imp_iff, Int.reduceEq, Int.reduceLT, Int.reduceLE, Int.reduceAdd, Int.reduceSub, Int.reduceMul, Int.reduceNeg]
        have gp := G.2.2.2.2.2.2.2.2.1
        rw [S116]
        simp (disch := omega) only [s95, s96, c1, c2, c3, if_true, KX, KN, GA, GR, GRc, GO, GI, GL, GV, am_w_i, am_ga, am_it, am_if, true_and, and_true, or_true, true_or, ne_eq, not_false_eq_true, not_true_eq_false, false_imp_iff, true_imp_iff, Int.reduceEq, Int.reduceLT, Int.reduceLE, Int.reduceAdd, Int.reduceSub, Int.reduceMul, Int.reduceNeg]
        by_cases cf : I 64 0 = 1 ∧ I 64 5 = t ∧ I 64 6 = n
        · have z := fin w I L G
          obtain ⟨-, m, -, m6, m1, m2⟩ := gp.2 cf.1
          obtain rfl : m = n := by omega
          rw [cf.2.1, ← hbcl] at m1 m2
          have z := z m1 m2
          rw [S52]
          first | (simp (disch := omega) only [KN, cf.1, cf.2.1, cf.2.2, B52_28, GA, GR, GRc, GO, GI, GL, GV, am_w_i, am_ga, am_it, am_if, true_and, and_true, or_true, true_or, ne_eq, not_false_eq_true, not_true_eq_false, false_imp_iff, true_imp_iff, Int.reduceEq, Int.reduceLT, Int.reduceLE, Int.reduceAdd, Int.reduceSub, Int.reduceMul, Int.reduceNeg]; exact z) | simp (disch := omega) only [KN, cf.1, cf.2.1, cf.2.2, B52_28, z, GA, GR, GRc, GO, GI, GL, GV, am_w_i, am_ga, am_it, am_if, true_and, and_true, or_true, true_or, ne_eq, not_false_eq_true, not_true_eq_false, false_imp_iff, true_imp_iff, Int.reduceEq, Int.reduceLT, Int.reduceLE, Int.reduceAdd, Int.reduceSub, Int.reduceMul, Int.reduceNeg]
        · have nof : ∀ (Q : Option am_V → am_H → Prop), Q (some (vI 0)) (mkH w I L) → am_Sp (d + 19) 52 [vR (some 64), vI t, vI (n : Int)] (mkH w I L) Q := by
            intro Q z
            rw [S52]
            rcases gp.1 with f0 | f0
            · first | (simp (disch := omega) only [KN, f0, B52_27, B52_28, GA, GR, GRc, GO, GI, GL, GV, am_w_i, am_ga, am_it, am_if, true_and, and_true, or_true, true_or, ne_eq, not_false_eq_true, not_true_eq_false, false_imp_iff, true_imp_iff, Int.reduceEq, Int.reduceLT, Int.reduceLE, Int.reduceAdd, Int.reduceSub, Int.reduceMul, Int.reduceNeg]; exact z) | simp (disch := omega) only [KN, f0, B52_27, B52_28, z, GA, GR, GRc, GO, GI, GL, GV, am_w_i, am_ga, am_it, am_if, true_and, and_true, or_true, true_or, ne_eq, not_false_eq_true, not_true_eq_false, false_imp_iff, true_imp_iff, Int.reduceEq, Int.reduceLT, Int.reduceLE, Int.reduceAdd, Int.reduceSub, Int.reduceMul, Int.reduceNeg]
            · by_cases f5 : I 64 5 = t
              · have f6 : ¬ I 64 6 = n := fun y => cf ⟨f0, f5, y⟩
                first | (simp (disch := omega) only [KN, f0, f5, f6, B52_27, B52_28, GA, GR, GRc, GO, GI, GL, GV, am_w_i, am_ga, am_it, am_if, true_and, and_true, or_true, true_or, ne_eq, not_false_eq_true, not_true_eq_false, false_imp_iff, true_imp_iff, Int.reduceEq, Int.reduceLT, Int.reduceLE, Int.reduceAdd, Int.reduceSub, Int.reduceMul, Int.reduceNeg]; exact z) | simp (disch := omega) only [KN, f0, f5, f6, B52_27, B52_28, z, GA, GR, GRc, GO, GI, GL, GV, am_w_i, am_ga, am_it, am_if, true_and, and_true, or_true, true_or, ne_eq, not_false_eq_true, not_true_eq_false, false_imp_iff, true_imp_iff, Int.reduceEq, Int.reduceLT, Int.reduceLE, Int.reduceAdd, Int.reduceSub, Int.reduceMul, Int.reduceNeg]
              · first | (simp (disch := omega) only [KN, f0, f5, B52_27, B52_28, GA, GR, GRc, GO, GI, GL, GV, am_w_i, am_ga, am_it, am_if, true_and, and_true, or_true, true_or, ne_eq, not_false_eq_true, not_true_eq_false, false_imp_iff, true_imp_iff, Int.reduceEq, Int.reduceLT, Int.reduceLE, Int.reduceAdd, Int.reduceSub, Int.reduceMul, Int.reduceNeg]; exact z) | simp (disch := omega) only [KN, f0, f5, B52_27, B52_28, z, GA, GR, GRc, GO, GI, GL, GV, am_w_i, am_ga, am_it, am_if, true_and, and_true, or_true, true_or, ne_eq, not_false_eq_true, not_true_eq_false, false_imp_iff, true_imp_iff, Int.reduceEq, Int.reduceLT, Int.reduceLE, Int.reduceAdd, Int.reduceSub, Int.reduceMul, Int.reduceNeg]
          refine nof _ ?_
          obtain ⟨C, R, T⟩ := G.1.tk 1
          simp (disch := omega) only [KX, KC, KN, s1, GA, GR, GRc, GO, GI, GL, GV, am_w_i, am_ga, am_it, am_if, true_and, and_true, or_true, true_or, ne_eq, not_false_eq_true, not_true_eq_false, false_imp_iff, true_imp_iff, Int.reduceEq, Int.reduceLT, Int.reduceLE, Int.reduceAdd, Int.reduceSub, Int.reduceMul, Int.reduceNeg]
          rw [S53]
          simp (disch := omega) only [KN, B53_5, B53_11, GA, GR, GRc, GO, GI, GL, GV, am_w_i, am_ga, am_it, am_if, true_and, and_true, or_true, true_or, ne_eq, not_false_eq_true, not_true_eq_false, false_imp_iff, true_imp_iff, Int.reduceEq, Int.reduceLT, Int.reduceLE, Int.reduceAdd, Int.reduceSub, Int.reduceMul, Int.reduceNeg]
          rw [B53_17]
          have i68 : isS 68 := isS_j (j := 0) (by omega)
          simp (disch := omega) only [KN, HS i68, s58 i68 (show isS 51 from Or.inl rfl) (by decide), GA, GR, GRc, GO, GI, GL, GV, am_w_i, am_ga, am_it, am_if, true_and, and_true, or_true, true_or, ne_eq, not_false_eq_true, not_true_eq_false, false_imp_iff, true_imp_iff, Int.reduceEq, Int.reduceLT, Int.reduceLE, Int.reduceAdd, Int.reduceSub, Int.reduceMul, Int.reduceNeg]
          generalize hI1 : am_up (am_up (am_up (cz_tk I 1) 64 5 t) 64 6 (n : Int)) 64 1 2147483647 = I1
          have f1 : ∀ a, a ≠ 64 → I1 a = cz_tk I 1 a := fun a ha => by rw [← hI1, am_up_a _ _ _ _ ha, am_up_a _ _ _ _ ha, am_up_a _ _ _ _ ha]
          have g1 : I1 64 1 = 2147483647 := by rw [← hI1, am_up_s]
          have g5 : I1 64 5 = t := by rw [← hI1, am_up_n _ _ _ _ (by decide), am_up_n _ _ _ _ (by decide), am_up_s]
          have g6 : I1 64 6 = n := by rw [← hI1, am_up_n _ _ _ _ (by decide), am_up_s]
          have cfr := (cz_copy_at (I := I1) (s := 68) (t := 51) (by omega)).2.2.2.2
          have R1 : RS I1 51 σ := R.fr (fun a _ _ => f1 a (by omega))
          have T1 : CT I1 51 (V 0 2).toNat := T.fr (f1 54 (by decide)) (by rw [f1 51 (by decide)]; exact ⟨rfl, rfl, rfl⟩)
          refine s54 (w := (w.1, w.2.1, w.2.2.1, w.1)) (V := V) (lw := lw) (t := t) (f := px_pd V lw t n σ) hV ht2 hn.2 n 0 68 (d + 12 - n) (d + 18) (cz_copy I1 68 51) L σ 0 9000 _ (by omega) rfl (by omega) (C.fr (fun a ha => by rw [cfr a (by omega), f1 a (by omega)])) (R1.copy (by omega)) (T1.copy (by omega) (by omega)) ny wS (by omega) (by rw [cfr 64 (by decide)]; exact g5) (by rw [cfr 64 (by decide)]; exact g6) (fun y hy => by rw [Nat.zero_mul, Nat.zero_add]) (fun i hi => by omega) (Or.inl ⟨by rw [Nat.zero_mul], by rw [cfr 64 (by decide)]; exact g1⟩) (fun I2 L2 u1 u2 u3 u4 u5 => ?_)
          simp (disch := omega) only [KN, GA, GR, GRc, GO, GI, GL, GV, am_w_i, am_ga, am_it, am_if, true_and, and_true, or_true, true_or, ne_eq, not_false_eq_true, not_true_eq_false, false_imp_iff, true_imp_iff, Int.reduceEq, Int.reduceLT, Int.reduceLE, Int.reduceAdd, Int.reduceSub, Int.reduceMul, Int.reduceNeg]
          rw [Nat.zero_add, Nat.one_mul] at u1
          have fa : ∀ a, a ≠ 63 → ¬ (64 ≤ a ∧ a ≤ 87) → am_up I2 64 0 1 a = I a := fun a h1 h2 => by
            rw [am_up_a _ _ _ _ (by omega), u2 a (by omega) (by omega) (by omega) (by omega), cfr a (by omega), f1 a (by omega), cz_tk_a h1]
          rcases u1 with ⟨u1, -⟩ | ⟨-, u1, u6⟩
          · omega
          rw [← hbcl] at u1 u6
          have k1 : am_up I2 64 0 1 64 1 = bcl.2 := by rw [am_up_n _ _ _ _ (by decide)]; exact u1
          have k2 : ∀ j : Nat, j < n → am_up I2 64 0 1 65 j = px_dg V n bcl.1 j := fun j hj => by rw [am_up_a _ _ _ _ (by decide)]; exact u6 j hj
          have k5 : am_up I2 64 0 1 64 5 = t := by rw [am_up_n _ _ _ _ (by decide), u3 5 (by decide), cfr 64 (by decide)]; exact g5
          have k6 : am_up I2 64 0 1 64 6 = n := by rw [am_up_n _ _ _ _ (by decide), u3 6 (by decide), cfr 64 (by decide)]; exact g6
          refine fin _ _ _ ?_ k1 k2
          refine G.nw (G.2.2.2.2.2.2.1.fr (by rw [fa 90 (by decide) (by decide)]) (by rw [fa 99 (by decide) (by decide)]) (fa 91 (by decide) (by decide)) (fa 136 (by decide) (by decide))) (rS.fr (fun a _ _ => fa a (by omega) (by omega))) ?_ wS ny G.2.1 ?_ ?_ ⟨fun a ha => fa a (by omega) (by omega), fun j _ => by rw [fa 99 (by decide) (by decide)]⟩ ?_ ⟨rfl, rfl⟩
          · refine mS.fb ⟨fun _ _ _ => by rw [fa 127 (by decide) (by decide)], fun _ _ _ => by rw [fa 128 (by decide) (by decide)], fun _ _ _ => by rw [fa 129 (by decide) (by decide)], by rw [fa 130 (by decide) (by decide)], by rw [fa 131 (by decide) (by decide)]⟩ ?_
            rw [u5 99 (by decide)]
          · exact ct.fr (fa 54 (by decide) (by decide)) (by rw [fa 51 (by decide) (by decide)]; exact ⟨rfl, rfl, rfl⟩)
          · refine ⟨Or.inr (am_up_s _ _ _ _), fun _ => ⟨by rw [k5]; exact c1, n, hn, k6, ?_, ?_⟩⟩
            · rw [k5, ← hbcl]; exact k1
            · rw [k5, ← hbcl]; exact k2
          · rw [u5 99 (by decide)]
      · refine no (-1) ?_ ?_
        · rw [S116]
          simp (disch := omega) only [s95, s96, c1, c2, c3, if_true, if_false, B116_25, GA, GR, GRc, GO, GI, GL, GV, am_w_i, am_ga, am_it, am_if, true_and, and_true, or_true, true_or, ne_eq, not_false_eq_true, not_true_eq_false, false_imp_iff, true_imp_iff, Int.reduceEq, Int.reduceLT, Int.reduceLE, Int.reduceAdd, Int.reduceSub, Int.reduceMul, Int.reduceNeg]
        · rw [S243]
          simp (disch := omega) only [Kk, GA, GR, GRc, GO, GI, GL, GV, am_w_i, am_ga, am_it, am_if, true_and, and_true, or_true, true_or, ne_eq, not_false_eq_true, not_true_eq_false, false_imp_iff, true_imp_iff, Int.reduceEq, Int.reduceLT, Int.reduceLE, Int.reduceAdd, Int.reduceSub, Int.reduceMul, Int.reduceNeg]
          rw [B243_5]
          simp (disch := omega) only [s201, s153, c1, c2, c3, if_true, if_false, B243_30, GA, GR, GRc, GO, GI, GL, GV, am_w_i, am_ga, am_it, am_if, true_and, and_true, or_true, true_or, ne_eq, not_false_eq_true, not_true_eq_false, false_imp_iff, true_imp_iff, Int.reduceEq, Int.reduceLT, Int.reduceLE, Int.reduceAdd, Int.reduceSub, Int.reduceMul, Int.reduceNeg]
    · refine no (-1) ?_ ?_
      · rw [S116]
        simp (disch := omega) only [s95, s96, c1, c2, if_true, if_false, B116_25, GA, GR, GRc, GO, GI, GL, GV, am_w_i, am_ga, am_it, am_if, true_and, and_true, or_true, true_or, ne_eq, not_false_eq_true, not_true_eq_false, false_imp_iff, true_imp_iff, Int.reduceEq, Int.reduceLT, Int.reduceLE, Int.reduceAdd, Int.reduceSub, Int.reduceMul, Int.reduceNeg]
      · rw [S243]
        simp (disch := omega) only [Kk, GA, GR, GRc, GO, GI, GL, GV, am_w_i, am_ga, am_it, am_if, true_and, and_true, or_true, true_or, ne_eq, not_false_eq_true, not_true_eq_false, false_imp_iff, true_imp_iff, Int.reduceEq, Int.reduceLT, Int.reduceLE, Int.reduceAdd, Int.reduceSub, Int.reduceMul, Int.reduceNeg]
        rw [B243_5]
        simp (disch := omega) only [s201, s153, c1, c2, if_true, if_false, B243_30, GA, GR, GRc, GO, GI, GL, GV, am_w_i, am_ga, am_it, am_if, true_and, and_true, or_true, true_or, ne_eq, not_false_eq_true, not_true_eq_false, false_imp_iff, true_imp_iff, Int.reduceEq, Int.reduceLT, Int.reduceLE, Int.reduceAdd, Int.reduceSub, Int.reduceMul, Int.reduceNeg]
  · refine no (-1) ?_ ?_
    · rw [S116]
      simp (disch := omega) only [s95, c1, if_false, B116_25, GA, GR, GRc, GO, GI, GL, GV, am_w_i, am_ga, am_it, am_if, true_and, and_true, or_true, true_or, ne_eq, not_false_eq_true, not_true_eq_false, false_imp_iff, true_imp_iff, Int.reduceEq, Int.reduceLT, Int.reduceLE, Int.reduceAdd, Int.reduceSub, Int.reduceMul, Int.reduceNeg]
    · rw [S243]
      simp (disch := omega) only [Kk, GA, GR, GRc, GO, GI, GL, GV, am_w_i, am_ga, am_it, am_if, true_and, and_true, or_true, true_or, ne_eq, not_false_eq_true, not_true_eq_false, false_imp_iff, true_imp_iff, Int.reduceEq, Int.reduceLT, Int.reduceLE, Int.reduceAdd, Int.reduceSub, Int.reduceMul, Int.reduceNeg]
      rw [B243_5]
      simp (disch := omega) only [s201, c1, if_false, B243_30, GA, GR, GRc, GO, GI, GL, GV, am_w_i, am_ga, am_it, am_if, true_and, and_true, or_true, true_or, ne_eq, not_false_eq_true, not_true_eq_false, false_imp_iff, true_imp_iff, Int.reduceEq, Int.reduceLT, Int.reduceLE, Int.reduceAdd, Int.reduceSub, Int.reduceMul, Int.reduceNeg]
