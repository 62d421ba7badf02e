/-! 9i: the line has (reference) -/
def hsG (s u : Nat → Int) (X : (Nat → Int → Int)) (k : Nat) : Int × Nat × (Nat → Int → Int) := if X 0 5 < 12 then bnd (nmF s u (k + 1) 1) X (fun t k1 => bnd (onF s u (X 1) (X 0 0).toNat k1) X (fun e k2 => bnd (sgF s u k2 99) X (fun v k3 => (0, k3, am_up (am_up X 4 (2 * e + t) v) 0 5 (X 0 5 + 1))))) else (2, k, X)
theorem hsF_g {s u : Nat → Int} {X : (Nat → Int → Int)} {k : Nat} : hsF s u X k = finF s (hsG s u X k) := by
  unfold hsF hsG
  by_cases c : X 0 5 < 12
  · rw [if_pos c, if_pos c]
    exact bnd_f (fun a k1 => bnd_f (fun b k2 => bnd_f (fun e k3 => fin_0)))
  · rw [if_neg c, if_neg c]; rfl
theorem NX.hs {I I' X : (Nat → Int → Int)} {j0 v x : Int} (h : NX I X) (h1 : I' 106 = am_up I 106 (12 + j0) v 106) (f : ∀ q, 102 ≤ q → q ≤ 122 → q ≠ 106 → I' q = I q) (g : ∀ x, (16 ≤ x ∧ x ≤ 21) ∨ x = 48 ∨ x = 4 ∨ x = 5 → x ≠ 19 → I' 99 x = I 99 x) (g0 : I' 99 19 = x) : NX I' (am_up (am_up X 4 j0 v) 0 5 x) := by
  obtain ⟨⟨⟨p1, p2, p3⟩, p4, p5, p6⟩, ⟨q1, q2, q3⟩, r1, r2, r3, r4, r5, r6, r7⟩ := h
  unfold NX
  simp (disch := decide) only [am_up_a, am_up_n, am_up_s]
  rw [h1, g 4 (by omega) (by omega), g 5 (by omega) (by omega), g 16 (by omega) (by omega), g 17 (by omega) (by omega), g 18 (by omega) (by omega), g 20 (by omega) (by omega), g 21 (by omega) (by omega), g 48 (by omega) (by omega), f 102 (by omega) (by omega) (by omega), f 103 (by omega) (by omega) (by omega), f 104 (by omega) (by omega) (by omega), f 105 (by omega) (by omega) (by omega), f 107 (by omega) (by omega) (by omega), f 108 (by omega) (by omega) (by omega), f 109 (by omega) (by omega) (by omega), f 110 (by omega) (by omega) (by omega), f 111 (by omega) (by omega) (by omega), f 112 (by omega) (by omega) (by omega), f 113 (by omega) (by omega) (by omega), f 114 (by omega) (by omega) (by omega), f 115 (by omega) (by omega) (by omega), f 116 (by omega) (by omega) (by omega), f 117 (by omega) (by omega) (by omega), f 118 (by omega) (by omega) (by omega), f 119 (by omega) (by omega) (by omega), f 120 (by omega) (by omega) (by omega), f 121 (by omega) (by omega) (by omega), f 122 (by omega) (by omega) (by omega)]
  refine ⟨⟨⟨p1, p2, p3⟩, g0, p5, p6⟩, ⟨q1, q2, q3⟩, r1, fun j x0 x1 => ?_, r3, r4, r5, r6, r7⟩
  by_cases e : j = j0
  · subst e; rw [am_up_s, am_up_s]
  · rw [am_up_n I _ _ _ (by omega), am_up_n X _ _ _ e]; exact r2 j x0 x1
set_option maxHeartbeats 1000000 in
theorem s172 {d : Nat} {w : Nat × Nat × Nat × Nat} {I L : Nat → Int → Int} {s u pl P : Nat → Int} {K k : Nat} {T : Int → Int} {n : Int} {X : (Nat → Int → Int)} (hC : TC s u pl P K T n) (hu : TU s u K) (hm : mT s u pl P T n k I) (hX : NX I X) (hb : 0 ≤ X 0 0 ∧ X 0 0 ≤ 6) (hb5 : 0 ≤ X 0 5 ∧ X 0 5 ≤ 12) (hk : k < K) {Q : Option am_V → am_H → Prop} (q : MCo w I s u pl P T n L (hsG s u X k) Q) : am_Sp (d + 6) 172 [vR (some 99)] (mkH w I L) Q := by
  obtain ⟨c, hc⟩ : ∃ c : Nat, X 0 0 = c := ⟨(X 0 0).toNat, by omega⟩
  have e16 : I 99 16 = (c : Int) := hX.1.1.1.trans hc
  have e19 : I 99 19 = X 0 5 := hX.1.2.1
  have at10 := hm.2.2.2.2.1
  unfold hsG at q
  simp only [hc, Int.toNat_natCast] at q
  rw [S172]
  by_cases y : X 0 5 < 12
  · rw [if_pos y] at q
    have c6 : ¬ X 0 5 = 12 := by omega
    simp (disch := omega) only [Kk, e19, c6, GA, GR, GRc, GO, GI, GL, GV, am_w_i, am_ga, am_it, am_if, true_and, and_true, or_true, true_or, ne_eq, not_false_eq_true, not_true_eq_false, false_imp_iff, true_imp_iff, Int.reduceEq, Int.reduceLT, Int.reduceLE, Int.reduceAdd, Int.reduceSub, Int.reduceMul, Int.reduceNeg]
    refine t158 hC hm hk (fun I0 t0 m0 => ?_)
    have R0 := RG.tf t0
    simp (disch := omega) only [Kk, GA, GR, GRc, GO, GI, GL, GV, am_w_i, am_ga, am_it, am_if, true_and, and_true, or_true, true_or, ne_eq, not_false_eq_true, not_true_eq_false, false_imp_iff, true_imp_iff, Int.reduceEq, Int.reduceLT, Int.reduceLE, Int.reduceAdd, Int.reduceSub, Int.reduceMul, Int.reduceNeg]
    refine s163 (k := k + 1) hC m0 hk (by omega) ⟨fun I1 f1 x1 m1 g1 => ?_, fun I1 f1 x1 y1 z1 => ?_⟩
    · have v1 := nmF_v hu hk x1
      have q := q.ok x1
      generalize nmF s u (k + 1) 1 = r1 at x1 m1 g1 v1 q
      have R1 := R0.tr f1
      have N1 := hX.rf R1
      have a1 : I1 99 16 = (c : Int) := R1.g.1.trans e16
      have nc : onF s u (fun j => I1 103 (6 + j)) c r1.2.1 = onF s u (X 1) c r1.2.1 := onF_c (fun j hj => (N1.2.2.1 j (by omega) (by omega)).1)
      simp (disch := omega) only [Kk, Kw, a1, g1, GA, GR, GRc, GO, GI, GL, GV, am_w_i, am_ga, am_it, am_if, true_and, and_true, or_true, true_or, ne_eq, not_false_eq_true, not_true_eq_false, false_imp_iff, true_imp_iff, Int.reduceEq, Int.reduceLT, Int.reduceLE, Int.reduceAdd, Int.reduceSub, Int.reduceMul, Int.reduceNeg]
      refine s170 (a := 103) (b0 := 6) (c := c) (k := r1.2.1) (ln := 12) hC m1 v1.2.2 (fun _ => rfl) (fun _ => rfl) (by omega) (by omega) (by omega) ⟨fun I2 f2 x2 m2 g2 => ?_, fun I2 f2 x2 y2 z2 => ?_⟩
      · rw [nc] at x2 m2 g2
        have v2 := onF_v hu v1.2.2 x2
        have q := q.ok x2
        generalize onF s u (X 1) c r1.2.1 = r2 at x2 m2 g2 v2 q
        have R2 := R1.tr f2
        simp (disch := omega) only [Kk, g2, GA, GR, GRc, GO, GI, GL, GV, am_w_i, am_ga, am_it, am_if, true_and, and_true, or_true, true_or, ne_eq, not_false_eq_true, not_true_eq_false, false_imp_iff, true_imp_iff, Int.reduceEq, Int.reduceLT, Int.reduceLE, Int.reduceAdd, Int.reduceSub, Int.reduceMul, Int.reduceNeg]
        refine s164 (k := r2.2.1) hC m2 v2.2 (by omega) ⟨fun I3 f3 x3 m3 g3 => ?_, fun I3 f3 x3 y3 z3 => ?_⟩
        · have v3 := sgF_v hu v2.2 x3
          have q := q.ok x3
          generalize sgF s u r2.2.1 99 = r3 at x3 m3 g3 v3 q
          have R3 := R2.tr f3
          have a3 : I3 99 19 = X 0 5 := R3.g.2.2.2.1.trans e19
          have ix : 12 + 2 * r2.2.2 + r1.2.2 = 12 + (2 * r2.2.2 + r1.2.2) := by omega
          have P3 : PF I (am_up (am_up I3 106 (12 + (2 * r2.2.2 + r1.2.2)) r3.2.2) 99 19 (X 0 5 + 1)) := ((PF.rd R3.w).up (by decide) (show hfN 106 ≤ 12 + (2 * r2.2.2 + r1.2.2) by unfold hfN; simp; omega)).f (by decide)
          have NE := hX.hs (I' := am_up (am_up I3 106 (12 + (2 * r2.2.2 + r1.2.2)) r3.2.2) 99 19 (X 0 5 + 1)) (j0 := 2 * r2.2.2 + r1.2.2) (v := r3.2.2) (x := X 0 5 + 1) (by rw [am_up_a _ _ _ _ (by decide)]; funext j; unfold am_up; rw [R3.1 106 (by decide)]) (fun a h1 h2 h3 => by rw [am_up_a _ _ _ _ (by omega), am_up_a _ _ _ _ h3, R3.1 a (by omega)]) (fun x hx hx2 => by
            rw [am_up_n _ _ _ _ hx2, am_up_a _ _ _ _ (by decide), R3.2 x (by omega) (by omega) (by omega) (by omega) (by omega)]) (am_up_s _ _ _ _)
          have z := q.1 _ P3 rfl NE ((m3.ar (by decide)).up (by decide))
          clear q
          first | (simp (disch := omega) only [Kk, Kw, a3, g3, ix, B172_87, B172_97, am_up_a, GA, GR, GRc, GO, GI, GL, GV, am_w_i, am_ga, am_it, am_if, true_and, and_true, or_true, true_or, ne_eq, not_false_eq_true, not_true_eq_false, false_imp_iff, true_imp_iff, Int.reduceEq, Int.reduceLT, Int.reduceLE, Int.reduceAdd, Int.reduceSub, Int.reduceMul, Int.reduceNeg]; exact z) | simp (disch := omega) only [Kk, Kw, a3, g3, ix, B172_87, B172_97, am_up_a, z, GA, GR, GRc, GO, GI, GL, GV, am_w_i, am_ga, am_it, am_if, true_and, and_true, or_true, true_or, ne_eq, not_false_eq_true, not_true_eq_false, false_imp_iff, true_imp_iff, Int.reduceEq, Int.reduceLT, Int.reduceLE, Int.reduceAdd, Int.reduceSub, Int.reduceMul, Int.reduceNeg]
        · have z := q.bad x3 (PF.rd (R2.w.tr f3)) y3 z3
          clear q
          first | (simp (disch := omega) only [GA, GR, GRc, GO, GI, GL, GV, am_w_i, am_ga, am_it, am_if, true_and, and_true, or_true, true_or, ne_eq, not_false_eq_true, not_true_eq_false, false_imp_iff, true_imp_iff, Int.reduceEq, Int.reduceLT, Int.reduceLE, Int.reduceAdd, Int.reduceSub, Int.reduceMul, Int.reduceNeg]; exact z) | simp (disch := omega) only [z, GA, GR, GRc, GO, GI, GL, GV, am_w_i, am_ga, am_it, am_if, true_and, and_true, or_true, true_or, ne_eq, not_false_eq_true, not_true_eq_false, false_imp_iff, true_imp_iff, Int.reduceEq, Int.reduceLT, Int.reduceLE, Int.reduceAdd, Int.reduceSub, Int.reduceMul, Int.reduceNeg]
      · rw [nc] at x2 y2 z2
        have z := q.bad x2 (PF.rd (R1.w.tr f2)) y2 z2
        clear q
        first | (simp (disch := omega) only [GA, GR, GRc, GO, GI, GL, GV, am_w_i, am_ga, am_it, am_if, true_and, and_true, or_true, true_or, ne_eq, not_false_eq_true, not_true_eq_false, false_imp_iff, true_imp_iff, Int.reduceEq, Int.reduceLT, Int.reduceLE, Int.reduceAdd, Int.reduceSub, Int.reduceMul, Int.reduceNeg]; exact z) | simp (disch := omega) only [z, GA, GR, GRc, GO, GI, GL, GV, am_w_i, am_ga, am_it, am_if, true_and, and_true, or_true, true_or, ne_eq, not_false_eq_true, not_true_eq_false, false_imp_iff, true_imp_iff, Int.reduceEq, Int.reduceLT, Int.reduceLE, Int.reduceAdd, Int.reduceSub, Int.reduceMul, Int.reduceNeg]
    · have z := q.bad x1 (PF.rd (R0.w.tr f1)) y1 z1
      clear q
      first | (simp (disch := omega) only [GA, GR, GRc, GO, GI, GL, GV, am_w_i, am_ga, am_it, am_if, true_and, and_true, or_true, true_or, ne_eq, not_false_eq_true, not_true_eq_false, false_imp_iff, true_imp_iff, Int.reduceEq, Int.reduceLT, Int.reduceLE, Int.reduceAdd, Int.reduceSub, Int.reduceMul, Int.reduceNeg]; exact z) | simp (disch := omega) only [z, GA, GR, GRc, GO, GI, GL, GV, am_w_i, am_ga, am_it, am_if, true_and, and_true, or_true, true_or, ne_eq, not_false_eq_true, not_true_eq_false, false_imp_iff, true_imp_iff, Int.reduceEq, Int.reduceLT, Int.reduceLE, Int.reduceAdd, Int.reduceSub, Int.reduceMul, Int.reduceNeg]
  · rw [if_neg y] at q
    have c6 : X 0 5 = 12 := by omega
    have z := q.2 (am_up (am_up I 99 4 2) 99 5 (pl k)) ((PF.rf.f (by decide)).f (by decide)) (by simp) (by rw [am_up_n _ _ _ _ (by decide), am_up_s]) (am_up_s _ _ _ _)
    clear q
    first | (simp (disch := omega) only [Kk, e19, c6, s154 at10, GA, GR, GRc, GO, GI, GL, GV, am_w_i, am_ga, am_it, am_if, true_and, and_true, or_true, true_or, ne_eq, not_false_eq_true, not_true_eq_false, false_imp_iff, true_imp_iff, Int.reduceEq, Int.reduceLT, Int.reduceLE, Int.reduceAdd, Int.reduceSub, Int.reduceMul, Int.reduceNeg]; exact z) | simp (disch := omega) only [Kk, e19, c6, s154 at10, z, GA, GR, GRc, GO, GI, GL, GV, am_w_i, am_ga, am_it, am_if, true_and, and_true, or_true, true_or, ne_eq, not_false_eq_true, not_true_eq_false, false_imp_iff, true_imp_iff, Int.reduceEq, Int.reduceLT, Int.reduceLE, Int.reduceAdd, Int.reduceSub, Int.reduceMul, Int.reduceNeg]
