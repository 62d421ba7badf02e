/-! 9h: the line kind, run (reference) -/
theorem RG.g {I I' : (Nat → Int → Int)} (f : RG I I') : I' 99 16 = I 99 16 ∧ I' 99 17 = I 99 17 ∧ I' 99 18 = I 99 18 ∧ I' 99 19 = I 99 19 ∧ I' 99 20 = I 99 20 ∧ I' 99 21 = I 99 21 ∧ I' 99 48 = I 99 48 := ⟨f.2 16 (by decide) (by decide) (by decide) (by decide) (by decide), f.2 17 (by decide) (by decide) (by decide) (by decide) (by decide), f.2 18 (by decide) (by decide) (by decide) (by decide) (by decide), f.2 19 (by decide) (by decide) (by decide) (by decide) (by decide), f.2 20 (by decide) (by decide) (by decide) (by decide) (by decide), f.2 21 (by decide) (by decide) (by decide) (by decide) (by decide), f.2 48 (by decide) (by decide) (by decide) (by decide) (by decide)⟩
theorem mT.ar {s u pl P : Nat → Int} {T : Int → Int} {n : Int} {k a : Nat} {I : (Nat → Int → Int)} {i v : Int} (h : mT s u pl P T n k I) (ha : 102 ≤ a) : mT s u pl P T n k (am_up I a i v) := h.fr (am_up_a _ _ _ _ (by omega)) (am_up_a _ _ _ _ (by omega)) (am_up_a _ _ _ _ (by omega)) (am_up_a _ _ _ _ (by omega))
set_option maxHeartbeats 1000000 in
theorem s171 {d : Nat} {w : Nat × Nat × Nat × Nat} {I L : Nat → Int → Int} {s u pl P : Nat → Int} {K k : Nat} {T : Int → Int} {n : Int} {X : (Nat → Int → Int)} (hC : TC s u pl P K T n) (hu : TU s u K) (hm : mT s u pl P T n k I) (hX : NX I X) (hb : 0 ≤ X 0 0 ∧ X 0 0 ≤ 6) (hk : k < K) {Q : Option am_V → am_H → Prop} (q : MCo w I s u pl P T n L (kdG s u X k) Q) : am_Sp (d + 5) 171 [vR (some 99)] (mkH w I L) Q := by
  obtain ⟨c, hc⟩ : ∃ c : Nat, X 0 0 = c := ⟨(X 0 0).toNat, by omega⟩
  have e16 : I 99 16 = (c : Int) := hX.1.1.1.trans hc
  have at10 := hm.2.2.2.2.1
  unfold kdG at q
  simp only [hc, Int.toNat_natCast] at q
  rw [S171]
  by_cases y : (c : Int) < 6
  · rw [if_pos y] at q
    have c6 : ¬ (c : Int) = 6 := by omega
    simp (disch := omega) only [Kk, e16, c6, GA, GR, GRc, GO, GI, GL, GV, am_w_i, am_ga, am_it, am_if, true_and, and_true, or_true, true_or, ne_eq, not_false_eq_true, not_true_eq_false, false_imp_iff, true_imp_iff, Int.reduceEq, Int.reduceLT, Int.reduceLE, Int.reduceAdd, Int.reduceSub, Int.reduceMul, Int.reduceNeg]
    refine t158 hC hm hk (fun I0 t0 m0 => ?_)
    have R0 := RG.tf t0
    have N0 := hX.rf R0
    have a0 : I0 99 16 = (c : Int) := R0.g.1.trans e16
    have nc : nnF s u (fun j => I0 103 (6 + j)) c (k + 1) = nnF s u (X 1) c (k + 1) := nnF_c (fun j hj => (N0.2.2.1 j (by omega) (by omega)).1)
    simp (disch := omega) only [Kk, Kw, a0, GA, GR, GRc, GO, GI, GL, GV, am_w_i, am_ga, am_it, am_if, true_and, and_true, or_true, true_or, ne_eq, not_false_eq_true, not_true_eq_false, false_imp_iff, true_imp_iff, Int.reduceEq, Int.reduceLT, Int.reduceLE, Int.reduceAdd, Int.reduceSub, Int.reduceMul, Int.reduceNeg]
    refine s169 (a := 103) (b0 := 6) (c := c) (k := k + 1) (ln := 12) hC m0 hk (by decide) (fun _ => rfl) (fun _ => rfl) (by omega) (by omega) (by omega) (fun I1 f1 x1 m1 => ?_) (fun I1 f1 x1 y1 z1 => ?_)
    · rw [nc] at x1 m1
      have v1 := nnF_v hu hk x1
      have b1 : (nnF s u (X 1) c (k + 1)).2.2 = u (k + 1) := by rw [(nnF_b x1).2]
      have q := q.ok x1
      rw [b1] at q
      generalize nnF s u (X 1) c (k + 1) = r1 at x1 m1 v1 q
      have a1 : I1 99 16 = (c : Int) := by rw [f1.g.1, am_up_a _ _ _ _ (by decide)]; exact a0
      have P1 : PF I I1 := ((PF.rd R0.w).up (by decide) (show hfN 103 ≤ 6 + (c : Int) by unfold hfN; simp; omega)).tr (PF.rd f1.w)
      simp (disch := omega) only [Kk, GA, GR, GRc, GO, GI, GL, GV, am_w_i, am_ga, am_it, am_if, true_and, and_true, or_true, true_or, ne_eq, not_false_eq_true, not_true_eq_false, false_imp_iff, true_imp_iff, Int.reduceEq, Int.reduceLT, Int.reduceLE, Int.reduceAdd, Int.reduceSub, Int.reduceMul, Int.reduceNeg]
      refine s163 (k := r1.2.1) hC m1 v1.2 (by omega) ⟨fun I2 f2 x2 m2 g2 => ?_, fun I2 f2 x2 y2 z2 => ?_⟩
      · have v2 := nmF_v hu v1.2 x2
        have q := q.ok x2
        generalize nmF s u r1.2.1 9 = r2 at x2 m2 g2 v2 q
        have a2 : I2 99 16 = (c : Int) := f2.g.1.trans a1
        have P2 : PF I (am_up I2 104 (6 + c) r2.2.2) := (P1.tr (PF.rd f2.w)).up (by decide) (show hfN 104 ≤ 6 + (c : Int) by unfold hfN; simp; omega)
        simp (disch := omega) only [Kk, Kw, a2, g2, GA, GR, GRc, GO, GI, GL, GV, am_w_i, am_ga, am_it, am_if, true_and, and_true, or_true, true_or, ne_eq, not_false_eq_true, not_true_eq_false, false_imp_iff, true_imp_iff, Int.reduceEq, Int.reduceLT, Int.reduceLE, Int.reduceAdd, Int.reduceSub, Int.reduceMul, Int.reduceNeg]
        rw [B171_66]
        simp (disch := omega) only [Kk, GA, GR, GRc, GO, GI, GL, GV, am_w_i, am_ga, am_it, am_if, true_and, and_true, or_true, true_or, ne_eq, not_false_eq_true, not_true_eq_false, false_imp_iff, true_imp_iff, Int.reduceEq, Int.reduceLT, Int.reduceLE, Int.reduceAdd, Int.reduceSub, Int.reduceMul, Int.reduceNeg]
        refine s163 (k := r2.2.1) hC (m2.ar (by decide)) v2.2.2 (by omega) ⟨fun I3 f3 x3 m3 g3 => ?_, fun I3 f3 x3 y3 z3 => ?_⟩
        · have v3 := nmF_v hu v2.2.2 x3
          have q := q.ok x3
          generalize nmF s u r2.2.1 9 = r3 at x3 m3 g3 v3 q
          have a3 : I3 99 16 = (c : Int) := by rw [f3.g.1, am_up_a _ _ _ _ (by decide)]; exact a2
          have P3 : PF I (am_up (am_up I3 105 (6 + c) r3.2.2) 99 16 ((c : Int) + 1)) := ((P2.tr (PF.rd f3.w)).up (by decide) (show hfN 105 ≤ 6 + (c : Int) by unfold hfN; simp; omega)).f (by decide)
          have fr : ∀ a, 102 ≤ a → a ≤ 122 → I3 a = am_up (am_up I 103 (6 + c) (u (k + 1))) 104 (6 + c) r2.2.2 a := fun a h1 h2 => by
            rw [f3.1 a (by omega)]
            by_cases e4 : a = 104
            · subst e4; funext j; unfold am_up; rw [f2.1 104 (by decide), f1.1 104 (by decide), am_up_a _ _ _ _ (by decide), R0.1 104 (by decide)]; simp
            · rw [am_up_a _ _ _ _ e4, am_up_a _ _ _ _ e4, f2.1 a (by omega), f1.1 a (by omega)]
              by_cases e3 : a = 103
              · subst e3; funext j; unfold am_up; rw [R0.1 103 (by decide)]
              · rw [am_up_a _ _ _ _ e3, am_up_a _ _ _ _ e3, R0.1 a (by omega)]
          have NE := hX.kd (I' := am_up (am_up I3 105 (6 + c) r3.2.2) 99 16 ((c : Int) + 1)) (c := c) (a := u (k + 1)) (b := r2.2.2) (v := r3.2.2) hc (by rw [am_up_a _ _ _ _ (by decide), am_up_a _ _ _ _ (by decide), fr 103 (by omega) (by omega), am_up_a _ _ _ _ (by decide)]) (by rw [am_up_a _ _ _ _ (by decide), am_up_a _ _ _ _ (by decide), fr 104 (by omega) (by omega)]; funext j; unfold am_up; simp) (by rw [am_up_a _ _ _ _ (by decide)]; funext j; unfold am_up; rw [fr 105 (by omega) (by omega), am_up_a _ _ _ _ (by decide), am_up_a _ _ _ _ (by decide)]) (fun a h1 h2 h3 h4 h5 => by rw [am_up_a _ _ _ _ (by omega), am_up_a _ _ _ _ h5, fr a h1 h2, am_up_a _ _ _ _ h4, am_up_a _ _ _ _ h3]) (fun x hx => by
            rw [am_up_n _ _ _ _ (by omega), am_up_a _ _ _ _ (by decide), f3.2 x (by omega) (by omega) (by omega) (by omega) (by omega), am_up_a _ _ _ _ (by decide), f2.2 x (by omega) (by omega) (by omega) (by omega) (by omega), f1.2 x (by omega) (by omega) (by omega) (by omega) (by omega), am_up_a _ _ _ _ (by decide), R0.2 x (by omega) (by omega) (by omega) (by omega) (by omega)]) (am_up_s _ _ _ _)
          have z := q.1 _ P3 rfl NE ((m3.ar (by decide)).up (by decide))
          clear q
          first | (simp (disch := omega) only [Kk, Kw, a3, g3, B171_94, B171_104, am_up_a, GA, GR, GRc, GO, GI, GL, GV, am_w_i, am_ga, am_it, am_if, true_and, and_true, or_true, true_or, ne_eq, not_false_eq_true, not_true_eq_false, false_imp_iff, true_imp_iff, Int.reduceEq, Int.reduceLT, Int.reduceLE, Int.reduceAdd, Int.reduceSub, Int.reduceMul, Int.reduceNeg]; exact z) | simp (disch := omega) only [Kk, Kw, a3, g3, B171_94, B171_104, am_up_a, z, GA, GR, GRc, GO, GI, GL, GV, am_w_i, am_ga, am_it, am_if, true_and, and_true, or_true, true_or, ne_eq, not_false_eq_true, not_true_eq_false, false_imp_iff, true_imp_iff, Int.reduceEq, Int.reduceLT, Int.reduceLE, Int.reduceAdd, Int.reduceSub, Int.reduceMul, Int.reduceNeg]
        · have z := q.bad x3 (P2.tr (PF.rd f3)) y3 z3
          clear q
          first | (simp (disch := omega) only [GA, GR, GRc, GO, GI, GL, GV, am_w_i, am_ga, am_it, am_if, true_and, and_true, or_true, true_or, ne_eq, not_false_eq_true, not_true_eq_false, false_imp_iff, true_imp_iff, Int.reduceEq, Int.reduceLT, Int.reduceLE, Int.reduceAdd, Int.reduceSub, Int.reduceMul, Int.reduceNeg]; exact z) | simp (disch := omega) only [z, GA, GR, GRc, GO, GI, GL, GV, am_w_i, am_ga, am_it, am_if, true_and, and_true, or_true, true_or, ne_eq, not_false_eq_true, not_true_eq_false, false_imp_iff, true_imp_iff, Int.reduceEq, Int.reduceLT, Int.reduceLE, Int.reduceAdd, Int.reduceSub, Int.reduceMul, Int.reduceNeg]
      · have z := q.bad x2 (P1.tr (PF.rd f2)) y2 z2
        clear q
        first | (simp (disch := omega) only [GA, GR, GRc, GO, GI, GL, GV, am_w_i, am_ga, am_it, am_if, true_and, and_true, or_true, true_or, ne_eq, not_false_eq_true, not_true_eq_false, false_imp_iff, true_imp_iff, Int.reduceEq, Int.reduceLT, Int.reduceLE, Int.reduceAdd, Int.reduceSub, Int.reduceMul, Int.reduceNeg]; exact z) | simp (disch := omega) only [z, GA, GR, GRc, GO, GI, GL, GV, am_w_i, am_ga, am_it, am_if, true_and, and_true, or_true, true_or, ne_eq, not_false_eq_true, not_true_eq_false, false_imp_iff, true_imp_iff, Int.reduceEq, Int.reduceLT, Int.reduceLE, Int.reduceAdd, Int.reduceSub, Int.reduceMul, Int.reduceNeg]
    · rw [nc] at x1 y1 z1
      have z := q.bad x1 ((PF.rd R0.w).tr (PF.rd f1)) y1 z1
      clear q
      first | (simp (disch := omega) only [GA, GR, GRc, GO, GI, GL, GV, am_w_i, am_ga, am_it, am_if, true_and, and_true, or_true, true_or, ne_eq, not_false_eq_true, not_true_eq_false, false_imp_iff, true_imp_iff, Int.reduceEq, Int.reduceLT, Int.reduceLE, Int.reduceAdd, Int.reduceSub, Int.reduceMul, Int.reduceNeg]; exact z) | simp (disch := omega) only [z, GA, GR, GRc, GO, GI, GL, GV, am_w_i, am_ga, am_it, am_if, true_and, and_true, or_true, true_or, ne_eq, not_false_eq_true, not_true_eq_false, false_imp_iff, true_imp_iff, Int.reduceEq, Int.reduceLT, Int.reduceLE, Int.reduceAdd, Int.reduceSub, Int.reduceMul, Int.reduceNeg]
  · rw [if_neg y] at q
    have c6 : (c : Int) = 6 := by omega
    have z := q.2 (am_up (am_up I 99 4 2) 99 5 (pl k)) ((PF.rf.f (by decide)).f (by decide)) (by simp) (by rw [am_up_n _ _ _ _ (by decide), am_up_s]) (am_up_s _ _ _ _)
    clear q
    first | (simp (disch := omega) only [Kk, e16, c6, s154 at10, GA, GR, GRc, GO, GI, GL, GV, am_w_i, am_ga, am_it, am_if, true_and, and_true, or_true, true_or, ne_eq, not_false_eq_true, not_true_eq_false, false_imp_iff, true_imp_iff, Int.reduceEq, Int.reduceLT, Int.reduceLE, Int.reduceAdd, Int.reduceSub, Int.reduceMul, Int.reduceNeg]; exact z) | simp (disch := omega) only [Kk, e16, c6, s154 at10, z, GA, GR, GRc, GO, GI, GL, GV, am_w_i, am_ga, am_it, am_if, true_and, and_true, or_true, true_or, ne_eq, not_false_eq_true, not_true_eq_false, false_imp_iff, true_imp_iff, Int.reduceEq, Int.reduceLT, Int.reduceLE, Int.reduceAdd, Int.reduceSub, Int.reduceMul, Int.reduceNeg]
