/-! 9y: a line: the reference -/
theorem c_fin {d : Nat} {w : Nat × Nat × Nat × Nat} {I L : Nat → Int → Int} {s u pl P : Nat → Int} {K : Nat} {T : Int → Int} {n : Int} {g : Int × Nat × (Nat → Int → Int)} {l2 : Option am_V} (hC : TC s u pl P K T n) (hu : TU s u K) (hg : g.1 = 0 → g.2.1 ≤ K) {Q : Option am_V → am_H → Prop} (q : MCo w I s u pl P T n L (finF s g) Q) : MCo w I s u pl P T n L g (fun r h => am_gI False r (fun x => am_WP (d + 3) 177 228 [some (vR (some 99)), some (vI x), l2] [] h Q)) := by
  refine ⟨fun I1 f1 g0 n1 m1 => ?_, fun I1 f1 g0 e4 e5 => ?_⟩
  · have gk := hg g0
    have at10 := m1.2.2.2.2.1
    have sg := m1.2.2.2.2.2.sg (c := 59) (by omega)
    unfold finF at q
    rw [if_pos g0] at q
    simp only [GI]
    rw [B177_228]
    unfold endF at q
    by_cases c : s g.2.1 = 59
    · rw [if_pos c] at q
      have i59 : (if I1 99 8 = 4 ∧ I1 99 9 = 59 then (1 : Int) else 0) = 1 := if_pos (sg.2 c)
      have kK := rd_k hu.1 gk (show s g.2.1 ≠ 0 by omega)
      clear sg
      simp (disch := omega) only [Kk, s162, i59, GA, GR, GRc, GO, GI, GL, GV, am_w_i, am_ga, am_it, am_if, true_and, and_true, or_true, true_or, ne_eq, not_false_eq_true, not_true_eq_false, false_imp_iff, true_imp_iff, Int.reduceEq, Int.reduceLT, Int.reduceLE, Int.reduceAdd, Int.reduceSub, Int.reduceMul, Int.reduceNeg]
      refine t158 (k := g.2.1) hC m1 kK (fun I2 t2 m2 => ?_)
      have z := q.1 I2 (f1.tr (PF.rd (RF.tf t2))) rfl (n1.rf (RG.tf t2)) m2
      clear q
      first | (simp (disch := omega) only [GA, GR, GRc, GO, GI, GL, GV, am_w_i, am_ga, am_it, am_if, true_and, and_true, or_true, true_or, ne_eq, not_false_eq_true, not_true_eq_false, false_imp_iff, true_imp_iff, Int.reduceEq, Int.reduceLT, Int.reduceLE, Int.reduceAdd, Int.reduceSub, Int.reduceMul, Int.reduceNeg]; exact z) | simp (disch := omega) only [z, GA, GR, GRc, GO, GI, GL, GV, am_w_i, am_ga, am_it, am_if, true_and, and_true, or_true, true_or, ne_eq, not_false_eq_true, not_true_eq_false, false_imp_iff, true_imp_iff, Int.reduceEq, Int.reduceLT, Int.reduceLE, Int.reduceAdd, Int.reduceSub, Int.reduceMul, Int.reduceNeg]
    · rw [if_neg c] at q
      have i59 : (if I1 99 8 = 4 ∧ I1 99 9 = 59 then (1 : Int) else 0) = 0 := if_neg (fun t => c (sg.1 t))
      have z := q.2 (am_up (am_up I1 99 4 1) 99 5 (pl g.2.1)) ((f1.f (by decide)).f (by decide)) (by simp) (by rw [am_up_n _ _ _ _ (by decide), am_up_s]) (am_up_s _ _ _ _)
      clear q sg
      first | (simp (disch := omega) only [Kk, s162, i59, s154 at10, GA, GR, GRc, GO, GI, GL, GV, am_w_i, am_ga, am_it, am_if, true_and, and_true, or_true, true_or, ne_eq, not_false_eq_true, not_true_eq_false, false_imp_iff, true_imp_iff, Int.reduceEq, Int.reduceLT, Int.reduceLE, Int.reduceAdd, Int.reduceSub, Int.reduceMul, Int.reduceNeg]; exact z) | simp (disch := omega) only [Kk, s162, i59, s154 at10, z, GA, GR, GRc, GO, GI, GL, GV, am_w_i, am_ga, am_it, am_if, true_and, and_true, or_true, true_or, ne_eq, not_false_eq_true, not_true_eq_false, false_imp_iff, true_imp_iff, Int.reduceEq, Int.reduceLT, Int.reduceLE, Int.reduceAdd, Int.reduceSub, Int.reduceMul, Int.reduceNeg]
  · unfold finF at q
    rw [if_neg g0] at q
    have z := q.2 I1 f1 g0 e4 e5
    clear q
    simp only [GI]
    rw [B177_228]
    first | (simp (disch := omega) only [GA, GR, GRc, GO, GI, GL, GV, am_w_i, am_ga, am_it, am_if, true_and, and_true, or_true, true_or, ne_eq, not_false_eq_true, not_true_eq_false, false_imp_iff, true_imp_iff, Int.reduceEq, Int.reduceLT, Int.reduceLE, Int.reduceAdd, Int.reduceSub, Int.reduceMul, Int.reduceNeg]; exact z) | simp (disch := omega) only [z, GA, GR, GRc, GO, GI, GL, GV, am_w_i, am_ga, am_it, am_if, true_and, and_true, or_true, true_or, ne_eq, not_false_eq_true, not_true_eq_false, false_imp_iff, true_imp_iff, Int.reduceEq, Int.reduceLT, Int.reduceLE, Int.reduceAdd, Int.reduceSub, Int.reduceMul, Int.reduceNeg]
set_option maxHeartbeats 4000000 in
theorem c_lw {d : Nat} {w : Nat × Nat × Nat × Nat} {I L : Nat → Int → Int} {s u pl P : Nat → Int} {K k : Nat} {T : Int → Int} {n : Int} {X : (Nat → Int → Int)} (hC : TC s u pl P K T n) (hu : TU s u K) (hm : mT s u pl P T n k I) (hX : NX I X) (hb : BX X) (hk : k < K) (c7 : s k = 107) {Q : Option am_V → am_H → Prop} (q : MCo w I s u pl P T n L (lwF s u K X k) Q) : am_Sp (d + 7) 177 [vR (some 99)] (mkH w I L) Q := by
  obtain ⟨b1, ⟨b4, b6⟩, b7⟩ := hb
  have tl := hm.2.2.2.2.2.ln
  have kd := (tl.1.2 (by omega)).1
  have wh := (tl.2.1 kd (by have := (tl.1.2 (by omega)).2; omega)).1
  have wh7 : I 99 9 = 7 := by omega
  have h0 := hu.1
  clear tl
  rw [S177]
  simp (disch := omega) only [Kk, kd, wh7, GA, GR, GRc, GO, GI, GL, GV, am_w_i, am_ga, am_it, am_if, true_and, and_true, or_true, true_or, ne_eq, not_false_eq_true, not_true_eq_false, false_imp_iff, true_imp_iff, Int.reduceEq, Int.reduceLT, Int.reduceLE, Int.reduceAdd, Int.reduceSub, Int.reduceMul, Int.reduceNeg]
  refine t158 hC hm hk (fun I1 t1 m1 => ?_)
  have R1 := RG.tf t1
  have N1 := hX.rf R1
  have at1 := m1.2.2.2.2.1
  have tl := m1.2.2.2.2.2.ln
  have bad1 : ∀ f : Int, f ≠ 0 → lwF s u K X k = (f, k + 1, X) → Q (some (vI 0)) (mkH w (am_up (am_up I1 99 4 f) 99 5 (pl (k + 1))) L) := fun f hf e => by
    rw [e] at q
    exact q.2 _ (((PF.rd R1.w).f (by decide)).f (by decide)) hf (by rw [am_up_n _ _ _ _ (by decide), am_up_s]) (am_up_s _ _ _ _)
  by_cases c1 : 108 ≤ s (k + 1) ∧ s (k + 1) ≤ 110
  · have t3 := tl.2.2.2 c1
    have kd1 := t3.1
    have w1 := (tl.2.1 kd1 t3.2.2).1
    obtain ⟨l, hl2⟩ : ∃ l : Int, s (k + 1) - 108 = l := ⟨_, rfl⟩
    have w9 : I1 99 9 = 8 + l := by omega
    have l0 : 0 ≤ l ∧ l < 3 := by omega
    have ix : 3 + (8 + l) - 8 = 3 + l := by omega
    have rl := N1.2.2.2.2.2.2.2.1 l l0.1 l0.2
    clear tl t3
    by_cases c2 : X 17 l < 0
    · have t0 : I1 117 (3 + l) = 0 := by
        rcases rl with z | z
        · exact z.1
        · omega
      have e : lwG s u K X k = lwH s X l (vlF s u (K - (k + 1)) (lw0 X l) 1 (k + 2)) := by unfold lwG; rw [if_pos c1, hl2, if_pos c2]
      have kK := rd_k h0 hk (show s (k + 1) ≠ 0 by omega)
      have q := c_fin (d := d + 4) (l2 := some (vI (3 + l))) hC hu (fun z => by
        have := lnG_k (u := u) (X := X) hu hk
        unfold lnG at this
        rw [if_neg (by omega), if_neg (by omega), if_neg (by omega), if_neg (by omega), if_neg (by omega), if_neg (by omega), if_neg (by omega), if_pos c7] at this
        exact this z) (show MCo w I s u pl P T n L (finF s (lwG s u K X k)) Q by rw [← lwF_g]; exact q)
      rw [e] at q
      clear bad1 rl e
      have m1' := m1.ar (a := 117) (i := 3 + l) (v := 1) (by decide)
      simp (disch := omega) only [Kk, Kl, kd1, w9, ix, t0, GA, GR, GRc, GO, GI, GL, GV, am_w_i, am_ga, am_it, am_if, true_and, and_true, or_true, true_or, ne_eq, not_false_eq_true, not_true_eq_false, false_imp_iff, true_imp_iff, Int.reduceEq, Int.reduceLT, Int.reduceLE, Int.reduceAdd, Int.reduceSub, Int.reduceMul, Int.reduceNeg]
      rw [B177_199]
      simp (disch := omega) only [Kk, GA, GR, GRc, GO, GI, GL, GV, am_w_i, am_ga, am_it, am_if, true_and, and_true, or_true, true_or, ne_eq, not_false_eq_true, not_true_eq_false, false_imp_iff, true_imp_iff, Int.reduceEq, Int.reduceLT, Int.reduceLE, Int.reduceAdd, Int.reduceSub, Int.reduceMul, Int.reduceNeg]
      refine t158 hC m1' kK (fun I2 t2 m2 => ?_)
      have R2 := RG.tf t2
      have e2 : ∀ a, a ≠ 99 → I2 a = am_up I 117 (3 + l) 1 a := fun a ha => by
        rw [R2.1 a ha]
        by_cases c : a = 117
        · subst c; rw [am_up_px, am_up_px, R1.1 117 (by decide)]
        · rw [am_up_a _ _ _ _ c, am_up_a _ _ _ _ c, R1.1 a ha]
      have g2 : ∀ x, (16 ≤ x ∧ x ≤ 21) ∨ x = 48 ∨ x = 4 ∨ x = 5 → I2 99 x = I 99 x := fun x hx => by
        rw [R2.2 x (by omega) (by omega) (by omega) (by omega) (by omega), am_up_a _ _ _ _ (by decide), R1.2 x (by omega) (by omega) (by omega) (by omega) (by omega)]
      have P2 : PF I I2 := (((PF.rd R1.w).up (a := 117) (i := 3 + l) (v := 1) (by decide) (show hfN 117 ≤ 3 + l by unfold hfN; simp; omega))).tr (PF.rd R2.w)
      have i20 : I2 99 20 = X 0 6 := (g2 20 (by omega)).trans hX.1.2.2.1
      have z6 : lw0 X l 0 6 = X 0 6 := by unfold lw0; simp (disch := decide) only [am_up_a, am_up_n]
      have z4 : lw0 X l 0 4 = X 0 4 := by unfold lw0; simp (disch := decide) only [am_up_a, am_up_n]
      have za : ∀ a, 19 ≤ a → a ≤ 21 → lw0 X l a = X a := fun a x y => by
        unfold lw0; rw [am_up_a _ _ _ _ (by omega), am_up_a _ _ _ _ (by omega), am_up_a _ _ _ _ (by omega), am_up_a _ _ _ _ (by omega)]
      have z8 : lw0 X l 0 8 = 0 := by unfold lw0; simp (disch := decide) only [am_up_a, am_up_n, am_up_s]
      have z9 : lw0 X l 0 9 = 0 := by unfold lw0; simp (disch := decide) only [am_up_a, am_up_n, am_up_s]
      have z10 : lw0 X l 0 10 = 0 := by unfold lw0; simp (disch := decide) only [am_up_a, am_up_n, am_up_s]
      have I0 : EI (X 0 6) 1 (lw0 X l) := EI.st b6.1 z6 z8 z9 z10 (by omega) (by omega)
      have P3 : PF I (am_up I2 118 (3 + l) (X 0 6)) := P2.up (by decide) (show hfN 118 ≤ 3 + l by unfold hfN; simp; omega)
      have m3 := m2.ar (a := 118) (i := 3 + l) (v := X 0 6) (by decide)
      have f3 : ∀ a, a ≠ 99 → a ≠ 118 → am_up I2 118 (3 + l) (X 0 6) a = am_up I 117 (3 + l) 1 a := fun a ha hb => by rw [am_up_a _ _ _ _ hb]; exact e2 a ha
      have f118 : ∀ j, am_up I2 118 (3 + l) (X 0 6) 118 j = if j = 3 + l then X 0 6 else I 118 j := fun j => by
        by_cases c : j = 3 + l
        · rw [c, am_up_s, if_pos rfl]
        · rw [am_up_n _ _ _ _ c, if_neg c, e2 118 (by decide), am_up_a _ _ _ _ (by decide)]
      have g3 : ∀ x, (16 ≤ x ∧ x ≤ 21) ∨ x = 48 ∨ x = 4 ∨ x = 5 → am_up I2 118 (3 + l) (X 0 6) 99 x = I 99 x := fun x hx => by rw [am_up_a _ _ _ _ (by decide)]; exact g2 x hx
      simp (disch := omega) only [Kk, Kl, i20, GA, GR, GRc, GO, GI, GL, GV, am_w_i, am_ga, am_it, am_if, true_and, and_true, or_true, true_or, ne_eq, not_false_eq_true, not_true_eq_false, false_imp_iff, true_imp_iff, Int.reduceEq, Int.reduceLT, Int.reduceLE, Int.reduceAdd, Int.reduceSub, Int.reduceMul, Int.reduceNeg]
      rw [B177_213]
      generalize am_up I2 118 (3 + l) (X 0 6) = J at P3 m3 f3 f118 g3 ⊢
      have kn : ∀ j, 0 ≤ j → j < lw0 X l 0 6 → J 120 (64 + j) = lw0 X l 19 j ∧ J 121 (64 + j) = lw0 X l 20 j ∧ J 122 (64 + j) = lw0 X l 21 j := fun j j0 j1 => by
        rw [za 19 (by decide) (by decide), za 20 (by decide) (by decide), za 21 (by decide) (by decide), f3 120 (by decide) (by decide), f3 121 (by decide) (by decide), f3 122 (by decide) (by decide), am_up_a _ _ _ _ (by decide), am_up_a _ _ _ _ (by decide), am_up_a _ _ _ _ (by decide)]
        exact hX.2.2.2.2.2.2.2.2.1 j j0 (by omega)
      have ek : K + 1 - (k + 2) = K - (k + 1) := by omega
      refine ⟨rfl, s190 (d := d + 2) (k := k + 2) (X := lw0 X l) hC hu m3 ((g3 20 (by omega)).trans (hX.1.2.2.1.trans z6.symm)) ((g3 48 (by omega)).trans (hX.1.2.2.2.trans z4.symm)) kn z8 z9 z10 (by omega) (by omega) (by omega) kK ⟨fun I4 f4 r0 n4 m4 => ?_, fun I4 f4 r1 e4 e5 => ?_⟩⟩
      · rw [ek] at r0 n4 m4
        have x0 : (vlF s u (K - (k + 1)) (lw0 X l) 1 (k + 2)).1 = 0 := by
          unfold vlG at r0
          by_cases c : (vlF s u (K - (k + 1)) (lw0 X l) 1 (k + 2)).1 = 0
          · exact c
          · rw [if_neg c] at r0; exact absurd r0 c
        have ve := vlF_e hu kK I0 (Or.inr rfl) x0
        generalize vlF s u (K - (k + 1)) (lw0 X l) 1 (k + 2) = r at r0 n4 m4 x0 ve q
        have s59 : s r.2.1 = 59 := by
          unfold vlG at r0
          rw [if_pos x0] at r0
          by_cases c : s r.2.1 = 59
          · exact c
          · rw [if_neg c] at r0; simp at r0
        have ev : vlG s r = r := by unfold vlG; rw [if_pos x0, if_pos s59]
        rw [ev] at n4 m4
        unfold lwH at q
        rw [if_pos x0, if_pos s59] at q
        have i4 : I4 99 20 = r.2.2 0 6 := n4.1.1
        have P5 : PF I (am_up I4 119 (3 + l) (r.2.2 0 6)) := (P3.tr f4.w.pf).up (by decide) (show hfN 119 ≤ 3 + l by unfold hfN; simp; omega)
        have NL := hX.lw (I' := am_up I4 119 (3 + l) (r.2.2 0 6)) (Y := r.2.2) (l := l) l0 b6.1 (fun a x y => by
            rw [am_up_a _ _ _ _ (by omega), f4.1 a (by omega) (by omega), f3 a (by omega) (by omega), am_up_a _ _ _ _ (by omega)]) (fun j hj => by
            rw [am_up_a _ _ _ _ (by decide), am_up_a _ _ _ _ (by decide), am_up_n _ _ _ _ hj, f4.1 117 (by decide) (by decide), f4.1 118 (by decide) (by decide), f4.1 119 (by decide) (by decide), f3 117 (by decide) (by decide), f118, if_neg hj, f3 119 (by decide) (by decide), am_up_n _ _ _ _ hj, am_up_a _ _ _ _ (by decide)]
            exact ⟨rfl, rfl, rfl⟩) (by rw [am_up_a _ _ _ _ (by decide), f4.1 117 (by decide) (by decide), f3 117 (by decide) (by decide), am_up_s]) (by rw [am_up_a _ _ _ _ (by decide), f4.1 118 (by decide) (by decide), f118, if_pos rfl]) (am_up_s _ _ _ _) (fun x hx => by
            rw [am_up_a _ _ _ _ (by decide), f4.2.2 x (by omega) (by omega) (by omega), g3 x (by omega)]) ⟨by rw [am_up_a _ _ _ _ (by decide)]; exact i4, by rw [am_up_a _ _ _ _ (by decide)]; exact n4.1.2⟩ (fun j j0 j1 => by
            rw [am_up_a _ _ _ _ (by decide), am_up_a _ _ _ _ (by decide), am_up_a _ _ _ _ (by decide)]; exact n4.2.2.1 j j0 j1) ve.2.2.2
        have z := q.1 _ P5 rfl NL (m4.ar (by decide))
        simp only [GI] at z
        clear q NL hX N1 hm m1 m2 m3 m4 n4 ve
        first | (simp (disch := omega) only [Kk, Kl, i4, GA, GR, GRc, GO, GI, GL, GV, am_w_i, am_ga, am_it, am_if, true_and, and_true, or_true, true_or, ne_eq, not_false_eq_true, not_true_eq_false, false_imp_iff, true_imp_iff, Int.reduceEq, Int.reduceLT, Int.reduceLE, Int.reduceAdd, Int.reduceSub, Int.reduceMul, Int.reduceNeg]; exact z) | simp (disch := omega) only [Kk, Kl, i4, z, GA, GR, GRc, GO, GI, GL, GV, am_w_i, am_ga, am_it, am_if, true_and, and_true, or_true, true_or, ne_eq, not_false_eq_true, not_true_eq_false, false_imp_iff, true_imp_iff, Int.reduceEq, Int.reduceLT, Int.reduceLE, Int.reduceAdd, Int.reduceSub, Int.reduceMul, Int.reduceNeg]
      · rw [ek] at r1 e4 e5
        generalize vlF s u (K - (k + 1)) (lw0 X l) 1 (k + 2) = r at r1 e4 e5 q
        have P5 : PF I (am_up I4 119 (3 + l) (I4 99 20)) := (P3.tr f4.pf).up (by decide) (show hfN 119 ≤ 3 + l by unfold hfN; simp; omega)
        have z : am_gI False (some (vI 0)) (fun x => am_WP (d + 4 + 3) 177 228 [some (vR (some 99)), some (vI x), some (vI (3 + l))] [] (mkH w (am_up I4 119 (3 + l) (I4 99 20)) L) Q) := by
          unfold vlG at r1 e4 e5
          unfold lwH at q
          by_cases c : r.1 = 0
          · rw [if_pos c] at r1 e4 e5 q
            by_cases c5 : s r.2.1 = 59
            · rw [if_pos c5] at r1; exact absurd c r1
            · rw [if_neg c5] at e4 e5 q
              exact q.2 _ P5 (by simp) (by rw [am_up_a _ _ _ _ (by decide)]; exact e4) (by rw [am_up_a _ _ _ _ (by decide)]; exact e5)
          · rw [if_neg c] at e4 e5 q
            exact q.2 _ P5 c (by rw [am_up_a _ _ _ _ (by decide)]; exact e4) (by rw [am_up_a _ _ _ _ (by decide)]; exact e5)
        simp only [GI] at z
        clear q hX N1 hm m1 m2 m3
        first | (simp (disch := omega) only [Kk, Kl, GA, GR, GRc, GO, GI, GL, GV, am_w_i, am_ga, am_it, am_if, true_and, and_true, or_true, true_or, ne_eq, not_false_eq_true, not_true_eq_false, false_imp_iff, true_imp_iff, Int.reduceEq, Int.reduceLT, Int.reduceLE, Int.reduceAdd, Int.reduceSub, Int.reduceMul, Int.reduceNeg]; exact z) | simp (disch := omega) only [Kk, Kl, z, GA, GR, GRc, GO, GI, GL, GV, am_w_i, am_ga, am_it, am_if, true_and, and_true, or_true, true_or, ne_eq, not_false_eq_true, not_true_eq_false, false_imp_iff, true_imp_iff, Int.reduceEq, Int.reduceLT, Int.reduceLE, Int.reduceAdd, Int.reduceSub, Int.reduceMul, Int.reduceNeg]
    · have t0 : I1 117 (3 + l) = 1 := by
        rcases rl with z | z
        · omega
        · exact z.1
      have z := bad1 3 (by decide) (by unfold lwF; rw [if_pos c1, hl2, if_neg c2])
      clear bad1 rl q hX N1
      first | (simp (disch := omega) only [Kk, Kl, kd1, w9, ix, t0, s154 at1, GA, GR, GRc, GO, GI, GL, GV, am_w_i, am_ga, am_it, am_if, true_and, and_true, or_true, true_or, ne_eq, not_false_eq_true, not_true_eq_false, false_imp_iff, true_imp_iff, Int.reduceEq, Int.reduceLT, Int.reduceLE, Int.reduceAdd, Int.reduceSub, Int.reduceMul, Int.reduceNeg]; exact z) | simp (disch := omega) only [Kk, Kl, kd1, w9, ix, t0, s154 at1, z, GA, GR, GRc, GO, GI, GL, GV, am_w_i, am_ga, am_it, am_if, true_and, and_true, or_true, true_or, ne_eq, not_false_eq_true, not_true_eq_false, false_imp_iff, true_imp_iff, Int.reduceEq, Int.reduceLT, Int.reduceLE, Int.reduceAdd, Int.reduceSub, Int.reduceMul, Int.reduceNeg]
  · have z := bad1 1 (by decide) (by unfold lwF; rw [if_neg c1])
    have tn : ¬ (I1 99 8 = 1 ∧ 8 ≤ I1 99 9 ∧ I1 99 9 ≤ 10) := fun y => c1 (tl.2.2.1 y)
    clear bad1 q hX N1 tl
    by_cases k1 : I1 99 8 = 1
    · by_cases k2 : I1 99 9 < 8
      · first | (simp (disch := omega) only [Kk, k1, k2, B177_161, s154 at1, GA, GR, GRc, GO, GI, GL, GV, am_w_i, am_ga, am_it, am_if, true_and, and_true, or_true, true_or, ne_eq, not_false_eq_true, not_true_eq_false, false_imp_iff, true_imp_iff, Int.reduceEq, Int.reduceLT, Int.reduceLE, Int.reduceAdd, Int.reduceSub, Int.reduceMul, Int.reduceNeg]; exact z) | simp (disch := omega) only [Kk, k1, k2, B177_161, s154 at1, z, GA, GR, GRc, GO, GI, GL, GV, am_w_i, am_ga, am_it, am_if, true_and, and_true, or_true, true_or, ne_eq, not_false_eq_true, not_true_eq_false, false_imp_iff, true_imp_iff, Int.reduceEq, Int.reduceLT, Int.reduceLE, Int.reduceAdd, Int.reduceSub, Int.reduceMul, Int.reduceNeg]
      · have k3 : ¬ I1 99 9 ≤ 10 := by omega
        first | (simp (disch := omega) only [Kk, k1, k2, k3, B177_161, s154 at1, GA, GR, GRc, GO, GI, GL, GV, am_w_i, am_ga, am_it, am_if, true_and, and_true, or_true, true_or, ne_eq, not_false_eq_true, not_true_eq_false, false_imp_iff, true_imp_iff, Int.reduceEq, Int.reduceLT, Int.reduceLE, Int.reduceAdd, Int.reduceSub, Int.reduceMul, Int.reduceNeg]; exact z) | simp (disch := omega) only [Kk, k1, k2, k3, B177_161, s154 at1, z, GA, GR, GRc, GO, GI, GL, GV, am_w_i, am_ga, am_it, am_if, true_and, and_true, or_true, true_or, ne_eq, not_false_eq_true, not_true_eq_false, false_imp_iff, true_imp_iff, Int.reduceEq, Int.reduceLT, Int.reduceLE, Int.reduceAdd, Int.reduceSub, Int.reduceMul, Int.reduceNeg]
    · first | (simp (disch := omega) only [Kk, k1, B177_161, s154 at1, GA, GR, GRc, GO, GI, GL, GV, am_w_i, am_ga, am_it, am_if, true_and, and_true, or_true, true_or, ne_eq, not_false_eq_true, not_true_eq_false, false_imp_iff, true_imp_iff, Int.reduceEq, Int.reduceLT, Int.reduceLE, Int.reduceAdd, Int.reduceSub, Int.reduceMul, Int.reduceNeg]; exact z) | simp (disch := omega) only [Kk, k1, B177_161, s154 at1, z, GA, GR, GRc, GO, GI, GL, GV, am_w_i, am_ga, am_it, am_if, true_and, and_true, or_true, true_or, ne_eq, not_false_eq_true, not_true_eq_false, false_imp_iff, true_imp_iff, Int.reduceEq, Int.reduceLT, Int.reduceLE, Int.reduceAdd, Int.reduceSub, Int.reduceMul, Int.reduceNeg]
set_option maxHeartbeats 2000000 in
theorem s177 {d : Nat} {w : Nat × Nat × Nat × Nat} {I L : Nat → Int → Int} {s u pl P : Nat → Int} {K k : Nat} {T : Int → Int} {n : Int} {X : (Nat → Int → Int)} (hC : TC s u pl P K T n) (hu : TU s u K) (hm : mT s u pl P T n k I) (hX : NX I X) (hb : BX X) (hk : k < K) {Q : Option am_V → am_H → Prop} (q : MCo w I s u pl P T n L (lnF s u K X k) Q) : am_Sp (d + 7) 177 [vR (some 99)] (mkH w I L) Q := by
  have b := hb
  obtain ⟨b1, ⟨b4, b6⟩, b7⟩ := hb
  have tl := hm.2.2.2.2.2.ln
  have at10 := hm.2.2.2.2.1
  by_cases c8 : 100 ≤ s k ∧ s k ≤ 107
  · have kd := (tl.1.2 c8).1
    have wh := (tl.2.1 kd (by have := (tl.1.2 c8).2; omega)).1
    by_cases c7 : s k = 107
    · unfold lnF at q
      rw [if_neg (by omega), if_neg (by omega), if_neg (by omega), if_neg (by omega), if_neg (by omega), if_neg (by omega), if_neg (by omega), if_pos c7] at q
      exact c_lw hC hu hm hX b hk c7 q
    · rw [lnF_g] at q
      have q := c_fin (d := d + 4) (l2 := none) hC hu (lnG_k hu hk) q
      unfold lnG at q
      clear tl
      rw [S177]
      by_cases c0 : s k = 100
      · rw [if_pos c0] at q
        have w9 : I 99 9 = 0 := by omega
        simp (disch := omega) only [Kk, kd, w9, GA, GR, GRc, GO, GI, GL, GV, am_w_i, am_ga, am_it, am_if, true_and, and_true, or_true, true_or, ne_eq, not_false_eq_true, not_true_eq_false, false_imp_iff, true_imp_iff, Int.reduceEq, Int.reduceLT, Int.reduceLE, Int.reduceAdd, Int.reduceSub, Int.reduceMul, Int.reduceNeg]
        exact s171 (d := d + 1) hC hu hm hX b1.1 hk q
      · rw [if_neg c0] at q
        by_cases c1 : s k = 101
        · rw [if_pos c1] at q
          have w9 : I 99 9 = 1 := by omega
          simp (disch := omega) only [Kk, kd, w9, GA, GR, GRc, GO, GI, GL, GV, am_w_i, am_ga, am_it, am_if, true_and, and_true, or_true, true_or, ne_eq, not_false_eq_true, not_true_eq_false, false_imp_iff, true_imp_iff, Int.reduceEq, Int.reduceLT, Int.reduceLE, Int.reduceAdd, Int.reduceSub, Int.reduceMul, Int.reduceNeg]
          exact s172 hC hu hm hX b1.1 b1.2.2.2 hk q
        · rw [if_neg c1] at q
          by_cases c2 : s k = 102
          · rw [if_pos c2] at q
            have w9 : I 99 9 = 2 := by omega
            simp (disch := omega) only [Kk, kd, w9, GA, GR, GRc, GO, GI, GL, GV, am_w_i, am_ga, am_it, am_if, true_and, and_true, or_true, true_or, ne_eq, not_false_eq_true, not_true_eq_false, false_imp_iff, true_imp_iff, Int.reduceEq, Int.reduceLT, Int.reduceLE, Int.reduceAdd, Int.reduceSub, Int.reduceMul, Int.reduceNeg]
            exact s173 hC hu hm hX b1.1 b1.2.1 hk q
          · rw [if_neg c2] at q
            by_cases c3 : s k = 103
            · rw [if_pos c3] at q
              have w9 : I 99 9 = 3 := by omega
              simp (disch := omega) only [Kk, kd, w9, GA, GR, GRc, GO, GI, GL, GV, am_w_i, am_ga, am_it, am_if, true_and, and_true, or_true, true_or, ne_eq, not_false_eq_true, not_true_eq_false, false_imp_iff, true_imp_iff, Int.reduceEq, Int.reduceLT, Int.reduceLE, Int.reduceAdd, Int.reduceSub, Int.reduceMul, Int.reduceNeg]
              exact s174 (d := d + 1) hC hu hm hX b1.2.1 b1.2.2.1 hk q
            · rw [if_neg c3] at q
              by_cases c4 : s k = 104
              · rw [if_pos c4] at q
                have w9 : I 99 9 = 4 := by omega
                simp (disch := omega) only [Kk, kd, w9, GA, GR, GRc, GO, GI, GL, GV, am_w_i, am_ga, am_it, am_if, true_and, and_true, or_true, true_or, ne_eq, not_false_eq_true, not_true_eq_false, false_imp_iff, true_imp_iff, Int.reduceEq, Int.reduceLT, Int.reduceLE, Int.reduceAdd, Int.reduceSub, Int.reduceMul, Int.reduceNeg]
                exact s175 (d := d + 1) hC hu hm hX b7 (Or.inl ⟨rfl, rfl⟩) (by decide) hk q
              · rw [if_neg c4] at q
                by_cases c5 : s k = 105
                · rw [if_pos c5] at q
                  have w9 : I 99 9 = 5 := by omega
                  simp (disch := omega) only [Kk, kd, w9, GA, GR, GRc, GO, GI, GL, GV, am_w_i, am_ga, am_it, am_if, true_and, and_true, or_true, true_or, ne_eq, not_false_eq_true, not_true_eq_false, false_imp_iff, true_imp_iff, Int.reduceEq, Int.reduceLT, Int.reduceLE, Int.reduceAdd, Int.reduceSub, Int.reduceMul, Int.reduceNeg]
                  exact s175 (d := d + 1) hC hu hm hX b7 (Or.inr ⟨rfl, rfl⟩) (by decide) hk q
                · rw [if_neg c5] at q
                  have c6 : s k = 106 := by omega
                  rw [if_pos c6] at q
                  have w9 : I 99 9 = 6 := by omega
                  simp (disch := omega) only [Kk, kd, w9, GA, GR, GRc, GO, GI, GL, GV, am_w_i, am_ga, am_it, am_if, true_and, and_true, or_true, true_or, ne_eq, not_false_eq_true, not_true_eq_false, false_imp_iff, true_imp_iff, Int.reduceEq, Int.reduceLT, Int.reduceLE, Int.reduceAdd, Int.reduceSub, Int.reduceMul, Int.reduceNeg]
                  exact s176 (d := d + 1) hC hu hm hX b7 hk q
  · unfold lnF at q
    rw [if_neg (by omega), if_neg (by omega), if_neg (by omega), if_neg (by omega), if_neg (by omega), if_neg (by omega), if_neg (by omega), if_neg (by omega)] at q
    have z := q.2 (am_up (am_up I 99 4 1) 99 5 (pl k)) ((PF.rf.f (by decide)).f (by decide)) (by simp) (by rw [am_up_n _ _ _ _ (by decide), am_up_s]) (am_up_s _ _ _ _)
    have tn : ¬ (I 99 8 = 1 ∧ I 99 9 ≤ 7) := fun y => c8 (tl.1.1 y)
    clear q tl hX
    rw [S177]
    by_cases k1 : I 99 8 = 1
    · have k2 : ¬ I 99 9 ≤ 7 := fun y => tn ⟨k1, y⟩
      clear tn
      first | (simp (disch := omega) only [Kk, k1, k2, B177_17, s154 at10, GA, GR, GRc, GO, GI, GL, GV, am_w_i, am_ga, am_it, am_if, true_and, and_true, or_true, true_or, ne_eq, not_false_eq_true, not_true_eq_false, false_imp_iff, true_imp_iff, Int.reduceEq, Int.reduceLT, Int.reduceLE, Int.reduceAdd, Int.reduceSub, Int.reduceMul, Int.reduceNeg]; exact z) | simp (disch := omega) only [Kk, k1, k2, B177_17, s154 at10, z, GA, GR, GRc, GO, GI, GL, GV, am_w_i, am_ga, am_it, am_if, true_and, and_true, or_true, true_or, ne_eq, not_false_eq_true, not_true_eq_false, false_imp_iff, true_imp_iff, Int.reduceEq, Int.reduceLT, Int.reduceLE, Int.reduceAdd, Int.reduceSub, Int.reduceMul, Int.reduceNeg]
    · clear tn
      first | (simp (disch := omega) only [Kk, k1, B177_17, s154 at10, GA, GR, GRc, GO, GI, GL, GV, am_w_i, am_ga, am_it, am_if, true_and, and_true, or_true, true_or, ne_eq, not_false_eq_true, not_true_eq_false, false_imp_iff, true_imp_iff, Int.reduceEq, Int.reduceLT, Int.reduceLE, Int.reduceAdd, Int.reduceSub, Int.reduceMul, Int.reduceNeg]; exact z) | simp (disch := omega) only [Kk, k1, B177_17, s154 at10, z, GA, GR, GRc, GO, GI, GL, GV, am_w_i, am_ga, am_it, am_if, true_and, and_true, or_true, true_or, ne_eq, not_false_eq_true, not_true_eq_false, false_imp_iff, true_imp_iff, Int.reduceEq, Int.reduceLT, Int.reduceLE, Int.reduceAdd, Int.reduceSub, Int.reduceMul, Int.reduceNeg]
