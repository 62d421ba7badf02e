/-! 9j: the line deed (reference) -/
/-- alike in what a text in the making is -/
def RE (I J : (Nat → Int → Int)) : Prop := (∀ a, 102 ≤ a → a ≤ 122 → I a = J a) ∧ ∀ x, (16 ≤ x ∧ x ≤ 21) ∨ x = 48 ∨ x = 4 ∨ x = 5 → I 99 x = J 99 x
theorem RE.o {I J : (Nat → Int → Int)} (f : RG I J) : RE J I := ⟨fun a _ _ => f.1 a (by omega), fun x _ => f.2 x (by omega) (by omega) (by omega) (by omega) (by omega)⟩
theorem RE.rf {I I' J : (Nat → Int → Int)} (h : RE I J) (f : RG I I') : RE I' J := ⟨fun a x y => (f.1 a (by omega)).trans (h.1 a x y), fun x hx => (f.2 x (by omega) (by omega) (by omega) (by omega) (by omega)).trans (h.2 x hx)⟩
theorem RE.up {I J : (Nat → Int → Int)} {b : Nat} {i v : Int} (h : RE I J) (hb : 102 ≤ b ∧ b ≤ 122) : RE (am_up I b i v) (am_up J b i v) := by
  refine ⟨fun a h1 h2 => ?_, fun x hx => by rw [am_up_a _ _ _ _ (by omega), am_up_a _ _ _ _ (by omega)]; exact h.2 x hx⟩
  by_cases e : a = b
  · subst e; funext j; unfold am_up; rw [h.1 a h1 h2]
  · rw [am_up_a _ _ _ _ e, am_up_a _ _ _ _ e]; exact h.1 a h1 h2
theorem RE.f {I J : (Nat → Int → Int)} {i v : Int} (h : RE I J) : RE (am_up I 99 i v) (am_up J 99 i v) := by
  refine ⟨fun a h1 h2 => by rw [am_up_a _ _ _ _ (by omega), am_up_a _ _ _ _ (by omega)]; exact h.1 a h1 h2, fun x hx => ?_⟩
  by_cases e : x = i
  · subst e; rw [am_up_s, am_up_s]
  · rw [am_up_n _ _ _ _ e, am_up_n _ _ _ _ e]; exact h.2 x hx
theorem RE.nx {I J X : (Nat → Int → Int)} (h : RE I J) (g : NX J X) : NX I X := g.fr h.1 h.2
def ddG (s u : Nat → Int) (X : (Nat → Int → Int)) (k : Nat) : Int × Nat × (Nat → Int → Int) := if X 0 1 < 8 then bnd (nnF s u (X 5) (X 0 1).toNat (k + 1)) X (fun a k1 => bnd (onF s u (X 1) (X 0 0).toNat k1) X (fun e k2 => bnd (sgF s u k2 9) X (fun v k3 => bnd (nmF s u k3 99) X (fun c k4 => bnd (nmF s u k4 100) X (fun o k5 => (0, k5, am_up (am_up (am_up (am_up (am_up (am_up X 5 (X 0 1) a) 6 (X 0 1) e) 7 (X 0 1) v) 8 (X 0 1) c) 9 (X 0 1) o) 0 1 (X 0 1 + 1))))))) else (2, k, X)
theorem ddF_g {s u : Nat → Int} {X : (Nat → Int → Int)} {k : Nat} : ddF s u X k = finF s (ddG s u X k) := by
  unfold ddF ddG
  by_cases c : X 0 1 < 8
  · rw [if_pos c, if_pos c]
    exact bnd_f (fun a k1 => bnd_f (fun b k2 => bnd_f (fun e k3 => bnd_f (fun e k4 => bnd_f (fun e k5 => fin_0)))))
  · rw [if_neg c, if_neg c]; rfl
theorem NX.dd {I X : (Nat → Int → Int)} {c : Nat} {a b v e o : Int} (h : NX I X) (hc : X 0 1 = c) : NX (am_up (am_up (am_up (am_up (am_up (am_up I 107 (8 + c) a) 108 (8 + c) b) 109 (8 + c) v) 110 (8 + c) e) 111 (8 + c) o) 99 17 ((c : Int) + 1)) (am_up (am_up (am_up (am_up (am_up (am_up X 5 c a) 6 c b) 7 c v) 8 c e) 9 c o) 0 1 ((c : Int) + 1)) := by
  obtain ⟨⟨⟨p1, p2, p3⟩, p4, p5, p6⟩, ⟨q1, q2, q3⟩, r1, r2, r3, r4, r5, r6, r7⟩ := h
  unfold NX
  simp (disch := decide) only [am_up_a, am_up_n, am_up_s]
  refine ⟨⟨⟨p1, trivial, p3⟩, p4, p5, p6⟩, ⟨q1, q2, q3⟩, r1, r2, fun j j0 j1 => ?_, r4, r5, r6, r7⟩
  by_cases e : j = c
  · subst e; simp (disch := decide) only [am_up_a, am_up_s]; exact ⟨trivial, trivial, trivial, trivial, trivial⟩
  · have := r3 j j0 (by omega)
    have e8 : (8 : Int) + j ≠ 8 + c := by omega
    simp (disch := first | decide | assumption) only [am_up_a, am_up_n]
    exact this
set_option maxHeartbeats 1000000 in
theorem s173 {d : Nat} {w : Nat × Nat × Nat × Nat} {I L : Nat → Int → Int} {s u pl P : Nat → Int} {K k : Nat} {T : Int → Int} {n : Int} {X : (Nat → Int → Int)} (hC : TC s u pl P K T n) (hu : TU s u K) (hm : mT s u pl P T n k I) (hX : NX I X) (hb : 0 ≤ X 0 0 ∧ X 0 0 ≤ 6) (hb1 : 0 ≤ X 0 1 ∧ X 0 1 ≤ 8) (hk : k < K) {Q : Option am_V → am_H → Prop} (q : MCo w I s u pl P T n L (ddG s u X k) Q) : am_Sp (d + 6) 173 [vR (some 99)] (mkH w I L) Q := by
  obtain ⟨ck, hck⟩ : ∃ c : Nat, X 0 0 = c := ⟨(X 0 0).toNat, by omega⟩
  obtain ⟨c, hc⟩ : ∃ c : Nat, X 0 1 = c := ⟨(X 0 1).toNat, by omega⟩
  have e16 : I 99 16 = (ck : Int) := hX.1.1.1.trans hck
  have e17 : I 99 17 = (c : Int) := hX.1.1.2.1.trans hc
  have at10 := hm.2.2.2.2.1
  unfold ddG at q
  simp only [hck, hc, Int.toNat_natCast] at q
  rw [S173]
  by_cases y : (c : Int) < 8
  · rw [if_pos y] at q
    have c6 : ¬ (c : Int) = 8 := by omega
    simp (disch := omega) only [Kk, e17, c6, GA, GR, GRc, GO, GI, GL, GV, am_w_i, am_ga, am_it, am_if, true_and, and_true, or_true, true_or, ne_eq, not_false_eq_true, not_true_eq_false, false_imp_iff, true_imp_iff, Int.reduceEq, Int.reduceLT, Int.reduceLE, Int.reduceAdd, Int.reduceSub, Int.reduceMul, Int.reduceNeg]
    refine t158 hC hm hk (fun I0 t0 m0 => ?_)
    have R0 := RG.tf t0
    have N0 := hX.rf R0
    have E0 := RE.o R0
    have a0 : I0 99 17 = (c : Int) := R0.g.2.1.trans e17
    have nc : nnF s u (fun j => I0 107 (8 + j)) c (k + 1) = nnF s u (X 5) c (k + 1) := nnF_c (fun j hj => (N0.2.2.2.2.1 j (by omega) (by omega)).1)
    simp (disch := omega) only [Kk, Kw, a0, GA, GR, GRc, GO, GI, GL, GV, am_w_i, am_ga, am_it, am_if, true_and, and_true, or_true, true_or, ne_eq, not_false_eq_true, not_true_eq_false, false_imp_iff, true_imp_iff, Int.reduceEq, Int.reduceLT, Int.reduceLE, Int.reduceAdd, Int.reduceSub, Int.reduceMul, Int.reduceNeg]
    refine s169 (a := 107) (b0 := 8) (c := c) (k := k + 1) (ln := 16) hC m0 hk (by decide) (fun _ => rfl) (fun _ => rfl) (by omega) (by omega) (by omega) (fun I1 f1 x1 m1 => ?_) (fun I1 f1 x1 y1 z1 => ?_)
    · rw [nc] at x1 m1
      have v1 := nnF_v hu hk x1
      have b1 : (nnF s u (X 5) c (k + 1)).2.2 = u (k + 1) := by rw [(nnF_b x1).2]
      have q := q.ok x1
      rw [b1] at q
      generalize nnF s u (X 5) c (k + 1) = r1 at x1 m1 v1 q
      have E1 : RE I1 (am_up I 107 (8 + c) (u (k + 1))) := (E0.up (by decide)).rf f1
      have P1 : PF I I1 := ((PF.rd R0.w).up (by decide) (show hfN 107 ≤ 8 + (c : Int) by unfold hfN; simp; omega)).tr (PF.rd f1.w)
      have a1 : I1 99 17 = (c : Int) := by rw [E1.2 17 (by omega), am_up_a _ _ _ _ (by decide)]; exact e17
      have k1 : I1 99 16 = (ck : Int) := by rw [E1.2 16 (by omega), am_up_a _ _ _ _ (by decide)]; exact e16
      have nd : onF s u (fun j => I1 103 (6 + j)) ck r1.2.1 = onF s u (X 1) ck r1.2.1 := onF_c (fun j hj => by rw [E1.1 103 (by omega) (by omega), am_up_a _ _ _ _ (by decide)]; exact (hX.2.2.1 j (by omega) (by omega)).1)
      simp (disch := omega) only [Kk, Kw, a1, k1, GA, GR, GRc, GO, GI, GL, GV, am_w_i, am_ga, am_it, am_if, true_and, and_true, or_true, true_or, ne_eq, not_false_eq_true, not_true_eq_false, false_imp_iff, true_imp_iff, Int.reduceEq, Int.reduceLT, Int.reduceLE, Int.reduceAdd, Int.reduceSub, Int.reduceMul, Int.reduceNeg]
      refine s170 (a := 103) (b0 := 6) (c := ck) (k := r1.2.1) (ln := 12) hC m1 v1.2 (fun _ => rfl) (fun _ => rfl) (by omega) (by omega) (by omega) ⟨fun I2 f2 x2 m2 g2 => ?_, fun I2 f2 x2 y2 z2 => ?_⟩
      · rw [nd] at x2 m2 g2
        have v2 := onF_v hu v1.2 x2
        have q := q.ok x2
        generalize onF s u (X 1) ck r1.2.1 = r2 at x2 m2 g2 v2 q
        have E2 := (E1.rf f2).up (b := 108) (i := 8 + c) (v := r2.2.2) (by decide)
        have P2 : PF I (am_up I2 108 (8 + c) r2.2.2) := (P1.tr (PF.rd f2.w)).up (by decide) (show hfN 108 ≤ 8 + (c : Int) by unfold hfN; simp; omega)
        simp (disch := omega) only [Kk, Kw, g2, GA, GR, GRc, GO, GI, GL, GV, am_w_i, am_ga, am_it, am_if, true_and, and_true, or_true, true_or, ne_eq, not_false_eq_true, not_true_eq_false, false_imp_iff, true_imp_iff, Int.reduceEq, Int.reduceLT, Int.reduceLE, Int.reduceAdd, Int.reduceSub, Int.reduceMul, Int.reduceNeg]
        rw [B173_75]
        simp (disch := omega) only [Kk, GA, GR, GRc, GO, GI, GL, GV, am_w_i, am_ga, am_it, am_if, true_and, and_true, or_true, true_or, ne_eq, not_false_eq_true, not_true_eq_false, false_imp_iff, true_imp_iff, Int.reduceEq, Int.reduceLT, Int.reduceLE, Int.reduceAdd, Int.reduceSub, Int.reduceMul, Int.reduceNeg]
        refine s164 (k := r2.2.1) hC (m2.ar (by decide)) v2.2 (by omega) ⟨fun I3 f3 x3 m3 g3 => ?_, fun I3 f3 x3 y3 z3 => ?_⟩
        · have v3 := sgF_v hu v2.2 x3
          have q := q.ok x3
          generalize sgF s u r2.2.1 9 = r3 at x3 m3 g3 v3 q
          have E3 := (E2.rf f3).up (b := 109) (i := 8 + c) (v := r3.2.2) (by decide)
          have P3 : PF I (am_up I3 109 (8 + c) r3.2.2) := (P2.tr (PF.rd f3.w)).up (by decide) (show hfN 109 ≤ 8 + (c : Int) by unfold hfN; simp; omega)
          simp (disch := omega) only [Kk, Kw, g3, GA, GR, GRc, GO, GI, GL, GV, am_w_i, am_ga, am_it, am_if, true_and, and_true, or_true, true_or, ne_eq, not_false_eq_true, not_true_eq_false, false_imp_iff, true_imp_iff, Int.reduceEq, Int.reduceLT, Int.reduceLE, Int.reduceAdd, Int.reduceSub, Int.reduceMul, Int.reduceNeg]
          rw [B173_96]
          simp (disch := omega) only [Kk, GA, GR, GRc, GO, GI, GL, GV, am_w_i, am_ga, am_it, am_if, true_and, and_true, or_true, true_or, ne_eq, not_false_eq_true, not_true_eq_false, false_imp_iff, true_imp_iff, Int.reduceEq, Int.reduceLT, Int.reduceLE, Int.reduceAdd, Int.reduceSub, Int.reduceMul, Int.reduceNeg]
          refine s163 (k := r3.2.1) hC (m3.ar (by decide)) v3.2 (by omega) ⟨fun I4 f4 x4 m4 g4 => ?_, fun I4 f4 x4 y4 z4 => ?_⟩
          · have v4 := nmF_v hu v3.2 x4
            have q := q.ok x4
            generalize nmF s u r3.2.1 99 = r4 at x4 m4 g4 v4 q
            have E4 := (E3.rf f4).up (b := 110) (i := 8 + c) (v := r4.2.2) (by decide)
            have P4 : PF I (am_up I4 110 (8 + c) r4.2.2) := (P3.tr (PF.rd f4.w)).up (by decide) (show hfN 110 ≤ 8 + (c : Int) by unfold hfN; simp; omega)
            simp (disch := omega) only [Kk, Kw, g4, GA, GR, GRc, GO, GI, GL, GV, am_w_i, am_ga, am_it, am_if, true_and, and_true, or_true, true_or, ne_eq, not_false_eq_true, not_true_eq_false, false_imp_iff, true_imp_iff, Int.reduceEq, Int.reduceLT, Int.reduceLE, Int.reduceAdd, Int.reduceSub, Int.reduceMul, Int.reduceNeg]
            rw [B173_118]
            simp (disch := omega) only [Kk, GA, GR, GRc, GO, GI, GL, GV, am_w_i, am_ga, am_it, am_if, true_and, and_true, or_true, true_or, ne_eq, not_false_eq_true, not_true_eq_false, false_imp_iff, true_imp_iff, Int.reduceEq, Int.reduceLT, Int.reduceLE, Int.reduceAdd, Int.reduceSub, Int.reduceMul, Int.reduceNeg]
            refine s163 (k := r4.2.1) hC (m4.ar (by decide)) v4.2.2 (by omega) ⟨fun I5 f5 x5 m5 g5 => ?_, fun I5 f5 x5 y5 z5 => ?_⟩
            · have v5 := nmF_v hu v4.2.2 x5
              have q := q.ok x5
              generalize nmF s u r4.2.1 100 = r5 at x5 m5 g5 v5 q
              have E5 := ((E4.rf f5).up (b := 111) (i := 8 + c) (v := r5.2.2) (by decide)).f (i := 17) (v := (c : Int) + 1)
              have P5 : PF I (am_up (am_up I5 111 (8 + c) r5.2.2) 99 17 ((c : Int) + 1)) := ((P4.tr (PF.rd f5.w)).up (by decide) (show hfN 111 ≤ 8 + (c : Int) by unfold hfN; simp; omega)).f (by decide)
              have a5 : I5 99 17 = (c : Int) := by
                rw [(E4.rf f5).2 17 (by omega), am_up_a _ _ _ _ (by decide), am_up_a _ _ _ _ (by decide), am_up_a _ _ _ _ (by decide), am_up_a _ _ _ _ (by decide)]; exact e17
              have z := q.1 _ P5 rfl (E5.nx (hX.dd hc)) ((m5.ar (by decide)).up (by decide))
              clear q
              first | (simp (disch := omega) only [Kk, Kw, a5, g5, B173_140, B173_150, am_up_a, GA, GR, GRc, GO, GI, GL, GV, am_w_i, am_ga, am_it, am_if, true_and, and_true, or_true, true_or, ne_eq, not_false_eq_true, not_true_eq_false, false_imp_iff, true_imp_iff, Int.reduceEq, Int.reduceLT, Int.reduceLE, Int.reduceAdd, Int.reduceSub, Int.reduceMul, Int.reduceNeg]; exact z) | simp (disch := omega) only [Kk, Kw, a5, g5, B173_140, B173_150, am_up_a, z, GA, GR, GRc, GO, GI, GL, GV, am_w_i, am_ga, am_it, am_if, true_and, and_true, or_true, true_or, ne_eq, not_false_eq_true, not_true_eq_false, false_imp_iff, true_imp_iff, Int.reduceEq, Int.reduceLT, Int.reduceLE, Int.reduceAdd, Int.reduceSub, Int.reduceMul, Int.reduceNeg]
            · have z := q.bad x5 (P4.tr (PF.rd f5)) y5 z5
              clear q
              first | (simp (disch := omega) only [GA, GR, GRc, GO, GI, GL, GV, am_w_i, am_ga, am_it, am_if, true_and, and_true, or_true, true_or, ne_eq, not_false_eq_true, not_true_eq_false, false_imp_iff, true_imp_iff, Int.reduceEq, Int.reduceLT, Int.reduceLE, Int.reduceAdd, Int.reduceSub, Int.reduceMul, Int.reduceNeg]; exact z) | simp (disch := omega) only [z, GA, GR, GRc, GO, GI, GL, GV, am_w_i, am_ga, am_it, am_if, true_and, and_true, or_true, true_or, ne_eq, not_false_eq_true, not_true_eq_false, false_imp_iff, true_imp_iff, Int.reduceEq, Int.reduceLT, Int.reduceLE, Int.reduceAdd, Int.reduceSub, Int.reduceMul, Int.reduceNeg]
          · have z := q.bad x4 (P3.tr (PF.rd f4)) y4 z4
            clear q
            first | (simp (disch := omega) only [GA, GR, GRc, GO, GI, GL, GV, am_w_i, am_ga, am_it, am_if, true_and, and_true, or_true, true_or, ne_eq, not_false_eq_true, not_true_eq_false, false_imp_iff, true_imp_iff, Int.reduceEq, Int.reduceLT, Int.reduceLE, Int.reduceAdd, Int.reduceSub, Int.reduceMul, Int.reduceNeg]; exact z) | simp (disch := omega) only [z, GA, GR, GRc, GO, GI, GL, GV, am_w_i, am_ga, am_it, am_if, true_and, and_true, or_true, true_or, ne_eq, not_false_eq_true, not_true_eq_false, false_imp_iff, true_imp_iff, Int.reduceEq, Int.reduceLT, Int.reduceLE, Int.reduceAdd, Int.reduceSub, Int.reduceMul, Int.reduceNeg]
        · have z := q.bad x3 (P2.tr (PF.rd f3)) y3 z3
          clear q
          first | (simp (disch := omega) only [GA, GR, GRc, GO, GI, GL, GV, am_w_i, am_ga, am_it, am_if, true_and, and_true, or_true, true_or, ne_eq, not_false_eq_true, not_true_eq_false, false_imp_iff, true_imp_iff, Int.reduceEq, Int.reduceLT, Int.reduceLE, Int.reduceAdd, Int.reduceSub, Int.reduceMul, Int.reduceNeg]; exact z) | simp (disch := omega) only [z, GA, GR, GRc, GO, GI, GL, GV, am_w_i, am_ga, am_it, am_if, true_and, and_true, or_true, true_or, ne_eq, not_false_eq_true, not_true_eq_false, false_imp_iff, true_imp_iff, Int.reduceEq, Int.reduceLT, Int.reduceLE, Int.reduceAdd, Int.reduceSub, Int.reduceMul, Int.reduceNeg]
      · rw [nd] at x2 y2 z2
        have z := q.bad x2 (P1.tr (PF.rd f2)) y2 z2
        clear q
        first | (simp (disch := omega) only [GA, GR, GRc, GO, GI, GL, GV, am_w_i, am_ga, am_it, am_if, true_and, and_true, or_true, true_or, ne_eq, not_false_eq_true, not_true_eq_false, false_imp_iff, true_imp_iff, Int.reduceEq, Int.reduceLT, Int.reduceLE, Int.reduceAdd, Int.reduceSub, Int.reduceMul, Int.reduceNeg]; exact z) | simp (disch := omega) only [z, GA, GR, GRc, GO, GI, GL, GV, am_w_i, am_ga, am_it, am_if, true_and, and_true, or_true, true_or, ne_eq, not_false_eq_true, not_true_eq_false, false_imp_iff, true_imp_iff, Int.reduceEq, Int.reduceLT, Int.reduceLE, Int.reduceAdd, Int.reduceSub, Int.reduceMul, Int.reduceNeg]
    · rw [nc] at x1 y1 z1
      have z := q.bad x1 ((PF.rd R0.w).tr (PF.rd f1)) y1 z1
      clear q
      first | (simp (disch := omega) only [GA, GR, GRc, GO, GI, GL, GV, am_w_i, am_ga, am_it, am_if, true_and, and_true, or_true, true_or, ne_eq, not_false_eq_true, not_true_eq_false, false_imp_iff, true_imp_iff, Int.reduceEq, Int.reduceLT, Int.reduceLE, Int.reduceAdd, Int.reduceSub, Int.reduceMul, Int.reduceNeg]; exact z) | simp (disch := omega) only [z, GA, GR, GRc, GO, GI, GL, GV, am_w_i, am_ga, am_it, am_if, true_and, and_true, or_true, true_or, ne_eq, not_false_eq_true, not_true_eq_false, false_imp_iff, true_imp_iff, Int.reduceEq, Int.reduceLT, Int.reduceLE, Int.reduceAdd, Int.reduceSub, Int.reduceMul, Int.reduceNeg]
  · rw [if_neg y] at q
    have c6 : (c : Int) = 8 := by omega
    have z := q.2 (am_up (am_up I 99 4 2) 99 5 (pl k)) ((PF.rf.f (by decide)).f (by decide)) (by simp) (by rw [am_up_n _ _ _ _ (by decide), am_up_s]) (am_up_s _ _ _ _)
    clear q
    first | (simp (disch := omega) only [Kk, e17, c6, s154 at10, GA, GR, GRc, GO, GI, GL, GV, am_w_i, am_ga, am_it, am_if, true_and, and_true, or_true, true_or, ne_eq, not_false_eq_true, not_true_eq_false, false_imp_iff, true_imp_iff, Int.reduceEq, Int.reduceLT, Int.reduceLE, Int.reduceAdd, Int.reduceSub, Int.reduceMul, Int.reduceNeg]; exact z) | simp (disch := omega) only [Kk, e17, c6, s154 at10, z, GA, GR, GRc, GO, GI, GL, GV, am_w_i, am_ga, am_it, am_if, true_and, and_true, or_true, true_or, ne_eq, not_false_eq_true, not_true_eq_false, false_imp_iff, true_imp_iff, Int.reduceEq, Int.reduceLT, Int.reduceLE, Int.reduceAdd, Int.reduceSub, Int.reduceMul, Int.reduceNeg]
