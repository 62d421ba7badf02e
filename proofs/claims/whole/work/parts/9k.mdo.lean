/-! 9k: the lines do, purse, wage, seed (reference) -/
def doG (s u : Nat → Int) (X : (Nat → Int → Int)) (k : Nat) : Int × Nat × (Nat → Int → Int) := if X 0 2 < 12 then bnd (nmF s u (k + 1) 1) X (fun t k1 => bnd (onF s u (X 5) (X 0 1).toNat k1) X (fun e k2 => bnd (nmF s u k2 99) X (fun v k3 => (0, k3, am_up (am_up (am_up (am_up X 10 (X 0 2) t) 11 (X 0 2) e) 12 (X 0 2) v) 0 2 (X 0 2 + 1))))) else (2, k, X)
theorem doF_g {s u : Nat → Int} {X : (Nat → Int → Int)} {k : Nat} : doF s u X k = finF s (doG s u X k) := by
  unfold doF doG
  by_cases c : X 0 2 < 12
  · rw [if_pos c, if_pos c]
    exact bnd_f (fun a k1 => bnd_f (fun b k2 => bnd_f (fun e k3 => fin_0)))
  · rw [if_neg c, if_neg c]; rfl
theorem NX.dn {I X : (Nat → Int → Int)} {c : Nat} {a b v : Int} (h : NX I X) (hc : X 0 2 = c) : NX (am_up (am_up (am_up (am_up I 112 (12 + c) a) 113 (12 + c) b) 114 (12 + c) v) 99 18 ((c : Int) + 1)) (am_up (am_up (am_up (am_up X 10 c a) 11 c b) 12 c v) 0 2 ((c : Int) + 1)) := by
  obtain ⟨⟨⟨p1, p2, p3⟩, p4, p5, p6⟩, ⟨q1, q2, q3⟩, r1, r2, r3, r4, r5, r6, r7⟩ := h
  unfold NX
  simp (disch := decide) only [am_up_a, am_up_n, am_up_s]
  refine ⟨⟨⟨p1, p2, trivial⟩, p4, p5, p6⟩, ⟨q1, q2, q3⟩, r1, r2, r3, fun j j0 j1 => ?_, r5, r6, r7⟩
  by_cases e : j = c
  · subst e; simp (disch := decide) only [am_up_a, am_up_s]; exact ⟨trivial, trivial, trivial⟩
  · have := r4 j j0 (by omega)
    have e8 : (12 : Int) + j ≠ 12 + c := by omega
    simp (disch := first | decide | assumption) only [am_up_a, am_up_n]
    exact this
set_option maxHeartbeats 1000000 in
theorem s174 {d : Nat} {w : Nat × Nat × Nat × Nat} {I L : Nat → Int → Int} {s u pl P : Nat → Int} {K k : Nat} {T : Int → Int} {n : Int} {X : (Nat → Int → Int)} (hC : TC s u pl P K T n) (hu : TU s u K) (hm : mT s u pl P T n k I) (hX : NX I X) (hb1 : 0 ≤ X 0 1 ∧ X 0 1 ≤ 8) (hb2 : 0 ≤ X 0 2 ∧ X 0 2 ≤ 12) (hk : k < K) {Q : Option am_V → am_H → Prop} (q : MCo w I s u pl P T n L (doG s u X k) Q) : am_Sp (d + 5) 174 [vR (some 99)] (mkH w I L) Q := by
  obtain ⟨ck, hck⟩ : ∃ c : Nat, X 0 1 = c := ⟨(X 0 1).toNat, by omega⟩
  obtain ⟨c, hc⟩ : ∃ c : Nat, X 0 2 = c := ⟨(X 0 2).toNat, by omega⟩
  have e17 : I 99 17 = (ck : Int) := hX.1.1.2.1.trans hck
  have e18 : I 99 18 = (c : Int) := hX.1.1.2.2.trans hc
  have at10 := hm.2.2.2.2.1
  unfold doG at q
  simp only [hck, hc, Int.toNat_natCast] at q
  rw [S174]
  by_cases y : (c : Int) < 12
  · rw [if_pos y] at q
    have c6 : ¬ (c : Int) = 12 := by omega
    simp (disch := omega) only [Kk, e18, c6, GA, GR, GRc, GO, GI, GL, GV, am_w_i, am_ga, am_it, am_if, true_and, and_true, or_true, true_or, ne_eq, not_false_eq_true, not_true_eq_false, false_imp_iff, true_imp_iff, Int.reduceEq, Int.reduceLT, Int.reduceLE, Int.reduceAdd, Int.reduceSub, Int.reduceMul, Int.reduceNeg]
    refine t158 hC hm hk (fun I0 t0 m0 => ?_)
    have R0 := RG.tf t0
    have E0 := RE.o R0
    have a0 : I0 99 18 = (c : Int) := R0.g.2.2.1.trans e18
    simp (disch := omega) only [Kk, a0, GA, GR, GRc, GO, GI, GL, GV, am_w_i, am_ga, am_it, am_if, true_and, and_true, or_true, true_or, ne_eq, not_false_eq_true, not_true_eq_false, false_imp_iff, true_imp_iff, Int.reduceEq, Int.reduceLT, Int.reduceLE, Int.reduceAdd, Int.reduceSub, Int.reduceMul, Int.reduceNeg]
    refine s163 (k := k + 1) hC m0 hk (by omega) ⟨fun I1 f1 x1 m1 g1 => ?_, fun I1 f1 x1 y1 z1 => ?_⟩
    · have v1 := nmF_v hu hk x1
      have q := q.ok x1
      generalize nmF s u (k + 1) 1 = r1 at x1 m1 g1 v1 q
      have E1 := (E0.rf f1).up (b := 112) (i := 12 + c) (v := r1.2.2) (by decide)
      have P1 : PF I (am_up I1 112 (12 + c) r1.2.2) := ((PF.rd R0.w).tr (PF.rd f1.w)).up (by decide) (show hfN 112 ≤ 12 + (c : Int) by unfold hfN; simp; omega)
      have k1 : am_up I1 112 (12 + c) r1.2.2 99 17 = (ck : Int) := by rw [E1.2 17 (by omega), am_up_a _ _ _ _ (by decide)]; exact e17
      have nd : onF s u (fun j => am_up I1 112 (12 + c) r1.2.2 107 (8 + j)) ck r1.2.1 = onF s u (X 5) ck r1.2.1 := onF_c (fun j hj => by rw [E1.1 107 (by omega) (by omega), am_up_a _ _ _ _ (by decide)]; exact (hX.2.2.2.2.1 j (by omega) (by omega)).1)
      have m1' := m1.ar (a := 112) (i := 12 + c) (v := r1.2.2) (by decide)
      simp (disch := omega) only [Kk, Kw, g1, GA, GR, GRc, GO, GI, GL, GV, am_w_i, am_ga, am_it, am_if, true_and, and_true, or_true, true_or, ne_eq, not_false_eq_true, not_true_eq_false, false_imp_iff, true_imp_iff, Int.reduceEq, Int.reduceLT, Int.reduceLE, Int.reduceAdd, Int.reduceSub, Int.reduceMul, Int.reduceNeg]
      rw [B174_48]
      generalize am_up I1 112 (12 + c) r1.2.2 = J1 at E1 P1 k1 nd m1' ⊢
      simp (disch := omega) only [Kk, Kw, k1, GA, GR, GRc, GO, GI, GL, GV, am_w_i, am_ga, am_it, am_if, true_and, and_true, or_true, true_or, ne_eq, not_false_eq_true, not_true_eq_false, false_imp_iff, true_imp_iff, Int.reduceEq, Int.reduceLT, Int.reduceLE, Int.reduceAdd, Int.reduceSub, Int.reduceMul, Int.reduceNeg]
      refine s170 (a := 107) (b0 := 8) (c := ck) (k := r1.2.1) (ln := 16) hC m1' v1.2.2 (fun _ => rfl) (fun _ => rfl) (by omega) (by omega) (by omega) ⟨fun I2 f2 x2 m2 g2 => ?_, fun I2 f2 x2 y2 z2 => ?_⟩
      · rw [nd] at x2 m2 g2
        have v2 := onF_v hu v1.2.2 x2
        have q := q.ok x2
        generalize onF s u (X 5) ck r1.2.1 = r2 at x2 m2 g2 v2 q
        have E2 := (E1.rf f2).up (b := 113) (i := 12 + c) (v := r2.2.2) (by decide)
        have P2 : PF I (am_up I2 113 (12 + c) r2.2.2) := (P1.tr (PF.rd f2.w)).up (by decide) (show hfN 113 ≤ 12 + (c : Int) by unfold hfN; simp; omega)
        simp (disch := omega) only [Kk, Kw, g2, GA, GR, GRc, GO, GI, GL, GV, am_w_i, am_ga, am_it, am_if, true_and, and_true, or_true, true_or, ne_eq, not_false_eq_true, not_true_eq_false, false_imp_iff, true_imp_iff, Int.reduceEq, Int.reduceLT, Int.reduceLE, Int.reduceAdd, Int.reduceSub, Int.reduceMul, Int.reduceNeg]
        rw [B174_77]
        simp (disch := omega) only [Kk, GA, GR, GRc, GO, GI, GL, GV, am_w_i, am_ga, am_it, am_if, true_and, and_true, or_true, true_or, ne_eq, not_false_eq_true, not_true_eq_false, false_imp_iff, true_imp_iff, Int.reduceEq, Int.reduceLT, Int.reduceLE, Int.reduceAdd, Int.reduceSub, Int.reduceMul, Int.reduceNeg]
        refine s163 (k := r2.2.1) hC (m2.ar (by decide)) v2.2 (by omega) ⟨fun I3 f3 x3 m3 g3 => ?_, fun I3 f3 x3 y3 z3 => ?_⟩
        · have v3 := nmF_v hu v2.2 x3
          have q := q.ok x3
          generalize nmF s u r2.2.1 99 = r3 at x3 m3 g3 v3 q
          have E3 := ((E2.rf f3).up (b := 114) (i := 12 + c) (v := r3.2.2) (by decide)).f (i := 18) (v := (c : Int) + 1)
          have P3 : PF I (am_up (am_up I3 114 (12 + c) r3.2.2) 99 18 ((c : Int) + 1)) := ((P2.tr (PF.rd f3.w)).up (by decide) (show hfN 114 ≤ 12 + (c : Int) by unfold hfN; simp; omega)).f (by decide)
          have a3 : I3 99 18 = (c : Int) := by
            rw [(E2.rf f3).2 18 (by omega), am_up_a _ _ _ _ (by decide), am_up_a _ _ _ _ (by decide)]; exact e18
          have z := q.1 _ P3 rfl (E3.nx (hX.dn hc)) ((m3.ar (by decide)).up (by decide))
          clear q
          first | (simp (disch := omega) only [Kk, Kw, a3, g3, B174_99, B174_109, am_up_a, GA, GR, GRc, GO, GI, GL, GV, am_w_i, am_ga, am_it, am_if, true_and, and_true, or_true, true_or, ne_eq, not_false_eq_true, not_true_eq_false, false_imp_iff, true_imp_iff, Int.reduceEq, Int.reduceLT, Int.reduceLE, Int.reduceAdd, Int.reduceSub, Int.reduceMul, Int.reduceNeg]; exact z) | simp (disch := omega) only [Kk, Kw, a3, g3, B174_99, B174_109, am_up_a, z, GA, GR, GRc, GO, GI, GL, GV, am_w_i, am_ga, am_it, am_if, true_and, and_true, or_true, true_or, ne_eq, not_false_eq_true, not_true_eq_false, false_imp_iff, true_imp_iff, Int.reduceEq, Int.reduceLT, Int.reduceLE, Int.reduceAdd, Int.reduceSub, Int.reduceMul, Int.reduceNeg]
        · have z := q.bad x3 (P2.tr (PF.rd f3)) y3 z3
          clear q
          first | (simp (disch := omega) only [GA, GR, GRc, GO, GI, GL, GV, am_w_i, am_ga, am_it, am_if, true_and, and_true, or_true, true_or, ne_eq, not_false_eq_true, not_true_eq_false, false_imp_iff, true_imp_iff, Int.reduceEq, Int.reduceLT, Int.reduceLE, Int.reduceAdd, Int.reduceSub, Int.reduceMul, Int.reduceNeg]; exact z) | simp (disch := omega) only [z, GA, GR, GRc, GO, GI, GL, GV, am_w_i, am_ga, am_it, am_if, true_and, and_true, or_true, true_or, ne_eq, not_false_eq_true, not_true_eq_false, false_imp_iff, true_imp_iff, Int.reduceEq, Int.reduceLT, Int.reduceLE, Int.reduceAdd, Int.reduceSub, Int.reduceMul, Int.reduceNeg]
      · rw [nd] at x2 y2 z2
        have z := q.bad x2 (P1.tr (PF.rd f2)) y2 z2
        clear q
        first | (simp (disch := omega) only [GA, GR, GRc, GO, GI, GL, GV, am_w_i, am_ga, am_it, am_if, true_and, and_true, or_true, true_or, ne_eq, not_false_eq_true, not_true_eq_false, false_imp_iff, true_imp_iff, Int.reduceEq, Int.reduceLT, Int.reduceLE, Int.reduceAdd, Int.reduceSub, Int.reduceMul, Int.reduceNeg]; exact z) | simp (disch := omega) only [z, GA, GR, GRc, GO, GI, GL, GV, am_w_i, am_ga, am_it, am_if, true_and, and_true, or_true, true_or, ne_eq, not_false_eq_true, not_true_eq_false, false_imp_iff, true_imp_iff, Int.reduceEq, Int.reduceLT, Int.reduceLE, Int.reduceAdd, Int.reduceSub, Int.reduceMul, Int.reduceNeg]
    · have z := q.bad x1 ((PF.rd R0.w).tr (PF.rd f1)) y1 z1
      clear q
      first | (simp (disch := omega) only [GA, GR, GRc, GO, GI, GL, GV, am_w_i, am_ga, am_it, am_if, true_and, and_true, or_true, true_or, ne_eq, not_false_eq_true, not_true_eq_false, false_imp_iff, true_imp_iff, Int.reduceEq, Int.reduceLT, Int.reduceLE, Int.reduceAdd, Int.reduceSub, Int.reduceMul, Int.reduceNeg]; exact z) | simp (disch := omega) only [z, GA, GR, GRc, GO, GI, GL, GV, am_w_i, am_ga, am_it, am_if, true_and, and_true, or_true, true_or, ne_eq, not_false_eq_true, not_true_eq_false, false_imp_iff, true_imp_iff, Int.reduceEq, Int.reduceLT, Int.reduceLE, Int.reduceAdd, Int.reduceSub, Int.reduceMul, Int.reduceNeg]
  · rw [if_neg y] at q
    have c6 : (c : Int) = 12 := by omega
    have z := q.2 (am_up (am_up I 99 4 2) 99 5 (pl k)) ((PF.rf.f (by decide)).f (by decide)) (by simp) (by rw [am_up_n _ _ _ _ (by decide), am_up_s]) (am_up_s _ _ _ _)
    clear q
    first | (simp (disch := omega) only [Kk, e18, c6, s154 at10, GA, GR, GRc, GO, GI, GL, GV, am_w_i, am_ga, am_it, am_if, true_and, and_true, or_true, true_or, ne_eq, not_false_eq_true, not_true_eq_false, false_imp_iff, true_imp_iff, Int.reduceEq, Int.reduceLT, Int.reduceLE, Int.reduceAdd, Int.reduceSub, Int.reduceMul, Int.reduceNeg]; exact z) | simp (disch := omega) only [Kk, e18, c6, s154 at10, z, GA, GR, GRc, GO, GI, GL, GV, am_w_i, am_ga, am_it, am_if, true_and, and_true, or_true, true_or, ne_eq, not_false_eq_true, not_true_eq_false, false_imp_iff, true_imp_iff, Int.reduceEq, Int.reduceLT, Int.reduceLE, Int.reduceAdd, Int.reduceSub, Int.reduceMul, Int.reduceNeg]
/-! purse and wage -/
theorem bit1_f : ∀ t : Fin 32, ∀ b : Fin 5, ∀ c : Fin 5, ((b ≠ c → (bit1 (bitO (t.val : Int) (b.val : Int)) (c.val : Int) = 0 ↔ bit1 (t.val : Int) (c.val : Int) = 0)) ∧ bit1 (bitO (t.val : Int) (b.val : Int)) (b.val : Int) ≠ 0) ∧ 0 ≤ bitO (t.val : Int) (b.val : Int) ∧ bitO (t.val : Int) (b.val : Int) < 32 := by decide +kernel
theorem bit1_o {t b c : Int} (ht : 0 ≤ t ∧ t < 32) (hb : 0 ≤ b ∧ b < 5) (hc : 0 ≤ c ∧ c < 5) : ((b ≠ c → (bit1 (bitO t b) c = 0 ↔ bit1 t c = 0)) ∧ bit1 (bitO t b) b ≠ 0) ∧ 0 ≤ bitO t b ∧ bitO t b < 32 := by
  have := bit1_f ⟨t.toNat, by omega⟩ ⟨b.toNat, by omega⟩ ⟨c.toNat, by omega⟩
  simp only [ne_eq, Fin.mk.injEq] at this
  rw [show ((t.toNat : Nat) : Int) = t by omega, show ((b.toNat : Nat) : Int) = b by omega, show ((c.toNat : Nat) : Int) = c by omega] at this
  exact ⟨⟨fun h => this.1.1 (by omega), this.1.2⟩, this.2⟩
def prG (s u : Nat → Int) (a : Nat) (fb most : Int) (X : (Nat → Int → Int)) (k : Nat) : Int × Nat × (Nat → Int → Int) := bnd (nmF s u (k + 1) 1) X (fun t k1 => if bit1 (X 0 7) (fb + t) = 0 then bnd (nmF s u k1 most) X (fun v k2 => (0, k2, am_up (am_up X 0 7 (bitO (X 0 7) (fb + t))) a t v)) else (3, k1 - 1, X))
theorem prF_g {s u : Nat → Int} {a : Nat} {fb most : Int} {X : (Nat → Int → Int)} {k : Nat} : prF s u a fb most X k = finF s (prG s u a fb most X k) := by
  unfold prF prG
  refine bnd_f (fun t k1 => ?_)
  by_cases c : bit1 (X 0 7) (fb + t) = 0
  · rw [if_pos c, if_pos c]; exact bnd_f (fun b k2 => fin_0)
  · rw [if_neg c, if_neg c]; rfl
def sdG (s u : Nat → Int) (X : (Nat → Int → Int)) (k : Nat) : Int × Nat × (Nat → Int → Int) := if bit1 (X 0 7) 4 = 0 then bnd (nmF s u (k + 1) 99999) X (fun v k1 => (0, k1, am_up (am_up X 0 7 (bitO (X 0 7) 4)) 0 3 v)) else (3, k, X)
theorem sdF_g {s u : Nat → Int} {X : (Nat → Int → Int)} {k : Nat} : sdF s u X k = finF s (sdG s u X k) := by
  unfold sdF sdG
  by_cases c : bit1 (X 0 7) 4 = 0
  · rw [if_pos c, if_pos c]; exact bnd_f (fun b k2 => fin_0)
  · rw [if_neg c, if_neg c]; rfl
theorem NX.pr {I X : (Nat → Int → Int)} {a : Nat} {fb t v : Int} (h : NX I X) (h7 : 0 ≤ X 0 7 ∧ X 0 7 < 32) (ha : (a = 13 ∧ fb = 0) ∨ (a = 14 ∧ fb = 2)) (ht : 0 ≤ t ∧ t ≤ 1) : NX (am_up (am_up I 115 (fb + t) 1) 116 (4 + fb + t) v) (am_up (am_up X 0 7 (bitO (X 0 7) (fb + t))) a t v) := by
  obtain ⟨⟨⟨p1, p2, p3⟩, p4, p5, p6⟩, ⟨q1, q2, q3⟩, r1, r2, r3, r4, r5, r6, r7⟩ := h
  have B2 := (bit1_o (b := fb + t) (c := 4) h7 (by omega) (by decide)).1.1 (by omega)
  have B3 : ∀ b, 0 ≤ b → b < 4 → (am_up (am_up I 115 (fb + t) 1) 116 (4 + fb + t) v 115 b = 0 ↔ bit1 (bitO (X 0 7) (fb + t)) b = 0) := fun b b0 b4 => by
    have o := (bit1_o (t := X 0 7) (b := fb + t) (c := b) h7 (by omega) (by omega)).1
    rw [am_up_a _ _ _ _ (by decide)]
    by_cases e : b = fb + t
    · subst e; rw [am_up_s]; exact ⟨fun z => by omega, fun z => absurd z o.2⟩
    · rw [am_up_n _ _ _ _ e, o.1 (by omega)]; exact q3 b b0 b4
  have B5 : ∀ j, 0 ≤ j → j < 2 → am_up (am_up I 115 (fb + t) 1) 116 (4 + fb + t) v 116 (4 + j) = am_up (am_up X 0 7 (bitO (X 0 7) (fb + t))) a t v 13 j ∧ am_up (am_up I 115 (fb + t) 1) 116 (4 + fb + t) v 116 (6 + j) = am_up (am_up X 0 7 (bitO (X 0 7) (fb + t))) a t v 14 j := fun j j0 j1 => by
    obtain ⟨u1, u2⟩ := r5 j j0 j1
    rcases ha with ⟨rfl, rfl⟩ | ⟨rfl, rfl⟩
    · rw [am_up_n _ 116 _ _ (j := 6 + j) (by omega), am_up_a _ _ _ _ (show 116 ≠ 115 by decide), am_up_a _ _ _ _ (show 14 ≠ 13 by decide), am_up_a _ _ _ _ (show 14 ≠ 0 by decide)]
      refine ⟨?_, u2⟩
      by_cases e : j = t
      · subst e; rw [show (4 : Int) + 0 + j = 4 + j by omega, am_up_s, am_up_s]
      · rw [am_up_n _ _ _ _ (by omega), am_up_n _ _ _ _ e, am_up_a _ _ _ _ (by decide), am_up_a _ _ _ _ (by decide)]; exact u1
    · rw [am_up_n _ 116 _ _ (j := 4 + j) (by omega), am_up_a _ _ _ _ (show 116 ≠ 115 by decide), am_up_a _ _ _ _ (show 13 ≠ 14 by decide), am_up_a _ _ _ _ (show 13 ≠ 0 by decide)]
      refine ⟨u1, ?_⟩
      by_cases e : j = t
      · subst e; rw [show (4 : Int) + 2 + j = 6 + j by omega, am_up_s, am_up_s]
      · rw [am_up_n _ _ _ _ (by omega), am_up_n _ _ _ _ e, am_up_a _ _ _ _ (by decide), am_up_a _ _ _ _ (by decide)]; exact u2
  have Xa : ∀ b, b ≠ 0 → b ≠ a → am_up (am_up X 0 7 (bitO (X 0 7) (fb + t))) a t v b = X b := fun b h0 h1 => by rw [am_up_a _ _ _ _ h1, am_up_a _ _ _ _ h0]
  have X0 : ∀ i, i ≠ 7 → am_up (am_up X 0 7 (bitO (X 0 7) (fb + t))) a t v 0 i = X 0 i := fun i h0 => by rw [am_up_a _ _ _ _ (by omega), am_up_n _ _ _ _ h0]
  have X7 : am_up (am_up X 0 7 (bitO (X 0 7) (fb + t))) a t v 0 7 = bitO (X 0 7) (fb + t) := by rw [am_up_a _ _ _ _ (by omega), am_up_s]
  have Ia : ∀ b, b ≠ 115 → b ≠ 116 → am_up (am_up I 115 (fb + t) 1) 116 (4 + fb + t) v b = I b := fun b h0 h1 => by rw [am_up_a _ _ _ _ h1, am_up_a _ _ _ _ h0]
  unfold NX
  simp (disch := first | decide | omega) only [Xa, X0, X7, Ia]
  exact ⟨⟨⟨p1, p2, p3⟩, p4, p5, p6⟩, ⟨q1, q2.trans B2.symm, B3⟩, r1, r2, r3, r4, B5, r6, r7⟩
theorem NX.sd {I X : (Nat → Int → Int)} {v : Int} (h : NX I X) (h7 : 0 ≤ X 0 7 ∧ X 0 7 < 32) : NX (am_up (am_up I 99 21 1) 102 1 v) (am_up (am_up X 0 7 (bitO (X 0 7) 4)) 0 3 v) := by
  obtain ⟨⟨⟨p1, p2, p3⟩, p4, p5, p6⟩, ⟨q1, q2, q3⟩, r1, r2, r3, r4, r5, r6, r7⟩ := h
  unfold NX
  simp (disch := decide) only [am_up_a, am_up_n, am_up_s]
  refine ⟨⟨⟨p1, p2, p3⟩, p4, p5, p6⟩, ⟨trivial, ?_, fun b b0 b4 => ?_⟩, r1, r2, r3, r4, r5, r6, r7⟩
  · have o := (bit1_o (t := X 0 7) (b := 4) (c := 4) h7 (by omega) (by omega)).1.2
    exact ⟨fun z => by omega, fun z => absurd z o⟩
  · rw [(bit1_o (t := X 0 7) (b := 4) (c := b) h7 (by omega) (by omega)).1.1 (by omega)]; exact q3 b b0 b4
set_option maxHeartbeats 1000000 in
theorem s176 {d : Nat} {w : Nat × Nat × Nat × Nat} {I L : Nat → Int → Int} {s u pl P : Nat → Int} {K k : Nat} {T : Int → Int} {n : Int} {X : (Nat → Int → Int)} (hC : TC s u pl P K T n) (hu : TU s u K) (hm : mT s u pl P T n k I) (hX : NX I X) (h7 : 0 ≤ X 0 7 ∧ X 0 7 < 32) (hk : k < K) {Q : Option am_V → am_H → Prop} (q : MCo w I s u pl P T n L (sdG s u X k) Q) : am_Sp (d + 5) 176 [vR (some 99)] (mkH w I L) Q := by
  have at10 := hm.2.2.2.2.1
  have e21 := hX.2.1.2.1
  unfold sdG at q
  rw [S176]
  by_cases y : bit1 (X 0 7) 4 = 0
  · rw [if_pos y] at q
    have y' : I 99 21 = 0 := e21.2 y
    clear e21
    have E0 := (RE.o (RG.rf (I := I))).f (i := 21) (v := 1)
    have P0 : PF I (am_up I 99 21 1) := PF.rf.f (by decide)
    have m0' := hm.up (i := 21) (v := 1) (by decide)
    simp (disch := omega) only [Kk, y', GA, GR, GRc, GO, GI, GL, GV, am_w_i, am_ga, am_it, am_if, true_and, and_true, or_true, true_or, ne_eq, not_false_eq_true, not_true_eq_false, false_imp_iff, true_imp_iff, Int.reduceEq, Int.reduceLT, Int.reduceLE, Int.reduceAdd, Int.reduceSub, Int.reduceMul, Int.reduceNeg]
    rw [B176_18]
    generalize ej : am_up I 99 21 1 = J0 at P0 m0' ⊢
    rw [show RE (am_up I 99 21 1) (am_up I 99 21 1) = RE J0 (am_up I 99 21 1) by rw [ej]] at E0
    simp (disch := omega) only [Kk, GA, GR, GRc, GO, GI, GL, GV, am_w_i, am_ga, am_it, am_if, true_and, and_true, or_true, true_or, ne_eq, not_false_eq_true, not_true_eq_false, false_imp_iff, true_imp_iff, Int.reduceEq, Int.reduceLT, Int.reduceLE, Int.reduceAdd, Int.reduceSub, Int.reduceMul, Int.reduceNeg]
    refine t158 hC m0' hk (fun I0 t0 m0 => ?_)
    have R0 := RG.tf t0
    simp (disch := omega) only [Kk, GA, GR, GRc, GO, GI, GL, GV, am_w_i, am_ga, am_it, am_if, true_and, and_true, or_true, true_or, ne_eq, not_false_eq_true, not_true_eq_false, false_imp_iff, true_imp_iff, Int.reduceEq, Int.reduceLT, Int.reduceLE, Int.reduceAdd, Int.reduceSub, Int.reduceMul, Int.reduceNeg]
    refine s163 (k := k + 1) hC m0 hk (by omega) ⟨fun I1 f1 x1 m1 g1 => ?_, fun I1 f1 x1 y1 z1 => ?_⟩
    · have v1 := nmF_v hu hk x1
      have q := q.ok x1
      generalize nmF s u (k + 1) 99999 = r1 at x1 m1 g1 v1 q
      have E1 := ((E0.rf R0).rf f1).up (b := 102) (i := 1) (v := r1.2.2) (by decide)
      have P1 : PF I (am_up I1 102 1 r1.2.2) := ((P0.tr (PF.rd R0.w)).tr (PF.rd f1.w)).up (by decide) (by decide)
      have z := q.1 _ P1 rfl (E1.nx (hX.sd h7)) (m1.ar (by decide))
      clear q
      first | (simp (disch := omega) only [Kk, Kw, g1, B176_44, GA, GR, GRc, GO, GI, GL, GV, am_w_i, am_ga, am_it, am_if, true_and, and_true, or_true, true_or, ne_eq, not_false_eq_true, not_true_eq_false, false_imp_iff, true_imp_iff, Int.reduceEq, Int.reduceLT, Int.reduceLE, Int.reduceAdd, Int.reduceSub, Int.reduceMul, Int.reduceNeg]; exact z) | simp (disch := omega) only [Kk, Kw, g1, B176_44, z, GA, GR, GRc, GO, GI, GL, GV, am_w_i, am_ga, am_it, am_if, true_and, and_true, or_true, true_or, ne_eq, not_false_eq_true, not_true_eq_false, false_imp_iff, true_imp_iff, Int.reduceEq, Int.reduceLT, Int.reduceLE, Int.reduceAdd, Int.reduceSub, Int.reduceMul, Int.reduceNeg]
    · have z := q.bad x1 ((P0.tr (PF.rd R0.w)).tr (PF.rd f1)) y1 z1
      clear q
      first | (simp (disch := omega) only [GA, GR, GRc, GO, GI, GL, GV, am_w_i, am_ga, am_it, am_if, true_and, and_true, or_true, true_or, ne_eq, not_false_eq_true, not_true_eq_false, false_imp_iff, true_imp_iff, Int.reduceEq, Int.reduceLT, Int.reduceLE, Int.reduceAdd, Int.reduceSub, Int.reduceMul, Int.reduceNeg]; exact z) | simp (disch := omega) only [z, GA, GR, GRc, GO, GI, GL, GV, am_w_i, am_ga, am_it, am_if, true_and, and_true, or_true, true_or, ne_eq, not_false_eq_true, not_true_eq_false, false_imp_iff, true_imp_iff, Int.reduceEq, Int.reduceLT, Int.reduceLE, Int.reduceAdd, Int.reduceSub, Int.reduceMul, Int.reduceNeg]
  · rw [if_neg y] at q
    have y' : ¬ I 99 21 = 0 := fun e => y (e21.1 e)
    have z := q.2 (am_up (am_up I 99 4 3) 99 5 (pl k)) ((PF.rf.f (by decide)).f (by decide)) (by simp) (by rw [am_up_n _ _ _ _ (by decide), am_up_s]) (am_up_s _ _ _ _)
    clear q e21
    first | (simp (disch := omega) only [Kk, y', s154 at10, GA, GR, GRc, GO, GI, GL, GV, am_w_i, am_ga, am_it, am_if, true_and, and_true, or_true, true_or, ne_eq, not_false_eq_true, not_true_eq_false, false_imp_iff, true_imp_iff, Int.reduceEq, Int.reduceLT, Int.reduceLE, Int.reduceAdd, Int.reduceSub, Int.reduceMul, Int.reduceNeg]; exact z) | simp (disch := omega) only [Kk, y', s154 at10, z, GA, GR, GRc, GO, GI, GL, GV, am_w_i, am_ga, am_it, am_if, true_and, and_true, or_true, true_or, ne_eq, not_false_eq_true, not_true_eq_false, false_imp_iff, true_imp_iff, Int.reduceEq, Int.reduceLT, Int.reduceLE, Int.reduceAdd, Int.reduceSub, Int.reduceMul, Int.reduceNeg]
set_option maxHeartbeats 1000000 in
theorem s175 {d : Nat} {w : Nat × Nat × Nat × Nat} {I L : Nat → Int → Int} {s u pl P : Nat → Int} {K k a : Nat} {T : Int → Int} {n fb most : Int} {X : (Nat → Int → Int)} (hC : TC s u pl P K T n) (hu : TU s u K) (hm : mT s u pl P T n k I) (hX : NX I X) (h7 : 0 ≤ X 0 7 ∧ X 0 7 < 32) (ha : (a = 13 ∧ fb = 0) ∨ (a = 14 ∧ fb = 2)) (hmo : 0 ≤ most ∧ most ≤ 99999) (hk : k < K) {Q : Option am_V → am_H → Prop} (q : MCo w I s u pl P T n L (prG s u a fb most X k) Q) : am_Sp (d + 5) 175 [vR (some 99), vI fb, vI most] (mkH w I L) Q := by
  have f0 : 0 ≤ fb ∧ fb ≤ 2 := by omega
  unfold prG at q
  rw [S175]
  simp (disch := omega) only [Kk, GA, GR, GRc, GO, GI, GL, GV, am_w_i, am_ga, am_it, am_if, true_and, and_true, or_true, true_or, ne_eq, not_false_eq_true, not_true_eq_false, false_imp_iff, true_imp_iff, Int.reduceEq, Int.reduceLT, Int.reduceLE, Int.reduceAdd, Int.reduceSub, Int.reduceMul, Int.reduceNeg]
  refine t158 hC hm hk (fun I0 t0 m0 => ?_)
  have R0 := RG.tf t0
  have E0 := RE.o R0
  have p0 : I0 99 10 = pl (k + 1) := m0.2.2.2.2.1
  simp (disch := omega) only [Kk, GA, GR, GRc, GO, GI, GL, GV, am_w_i, am_ga, am_it, am_if, true_and, and_true, or_true, true_or, ne_eq, not_false_eq_true, not_true_eq_false, false_imp_iff, true_imp_iff, Int.reduceEq, Int.reduceLT, Int.reduceLE, Int.reduceAdd, Int.reduceSub, Int.reduceMul, Int.reduceNeg]
  refine s163 (k := k + 1) hC m0 hk (by omega) ⟨fun I1 f1 x1 m1 g1 => ?_, fun I1 f1 x1 y1 z1 => ?_⟩
  · have v1 := nmF_v hu hk x1
    have b1 := (nmF_b x1).2.1
    have q := q.ok x1
    generalize nmF s u (k + 1) 1 = r1 at x1 m1 g1 v1 q b1
    have N1 := hX.rf (R0.tr f1)
    have hi : 0 ≤ fb + r1.2.2 ∧ fb + r1.2.2 < 4 := by omega
    have bt := N1.2.1.2.2 (fb + r1.2.2) hi.1 hi.2
    by_cases y : bit1 (X 0 7) (fb + r1.2.2) = 0
    · rw [if_pos y] at q
      have y' := bt.2 y
      have E1 := (E0.rf f1).up (b := 115) (i := fb + r1.2.2) (v := 1) (by decide)
      have P1 : PF I (am_up I1 115 (fb + r1.2.2) 1) := ((PF.rd R0.w).tr (PF.rd f1.w)).up (by decide) (show hfN 115 ≤ fb + r1.2.2 by unfold hfN; simp; omega)
      have NP := fun v => hX.pr (a := a) (fb := fb) (t := r1.2.2) (v := v) h7 ha (by omega)
      clear bt ha
      simp (disch := omega) only [Kk, Kl, g1, y', GA, GR, GRc, GO, GI, GL, GV, am_w_i, am_ga, am_it, am_if, true_and, and_true, or_true, true_or, ne_eq, not_false_eq_true, not_true_eq_false, false_imp_iff, true_imp_iff, Int.reduceEq, Int.reduceLT, Int.reduceLE, Int.reduceAdd, Int.reduceSub, Int.reduceMul, Int.reduceNeg]
      rw [B175_59]
      simp (disch := omega) only [Kk, GA, GR, GRc, GO, GI, GL, GV, am_w_i, am_ga, am_it, am_if, true_and, and_true, or_true, true_or, ne_eq, not_false_eq_true, not_true_eq_false, false_imp_iff, true_imp_iff, Int.reduceEq, Int.reduceLT, Int.reduceLE, Int.reduceAdd, Int.reduceSub, Int.reduceMul, Int.reduceNeg]
      refine s163 (k := r1.2.1) hC (m1.ar (by decide)) v1.2.2 hmo ⟨fun I2 f2 x2 m2 g2 => ?_, fun I2 f2 x2 y2 z2 => ?_⟩
      · have v2 := nmF_v hu v1.2.2 x2
        have q := q.ok x2
        generalize nmF s u r1.2.1 most = r2 at x2 m2 g2 v2 q
        have E2 := (E1.rf f2).up (b := 116) (i := 4 + fb + r1.2.2) (v := r2.2.2) (by decide)
        have P2 : PF I (am_up I2 116 (4 + fb + r1.2.2) r2.2.2) := (P1.tr (PF.rd f2.w)).up (by decide) (show hfN 116 ≤ 4 + fb + r1.2.2 by unfold hfN; simp; omega)
        have z := q.1 _ P2 rfl (E2.nx (NP _)) (m2.ar (by decide))
        clear q NP
        first | (simp (disch := omega) only [Kk, Kw, g2, B175_85, GA, GR, GRc, GO, GI, GL, GV, am_w_i, am_ga, am_it, am_if, true_and, and_true, or_true, true_or, ne_eq, not_false_eq_true, not_true_eq_false, false_imp_iff, true_imp_iff, Int.reduceEq, Int.reduceLT, Int.reduceLE, Int.reduceAdd, Int.reduceSub, Int.reduceMul, Int.reduceNeg]; exact z) | simp (disch := omega) only [Kk, Kw, g2, B175_85, z, GA, GR, GRc, GO, GI, GL, GV, am_w_i, am_ga, am_it, am_if, true_and, and_true, or_true, true_or, ne_eq, not_false_eq_true, not_true_eq_false, false_imp_iff, true_imp_iff, Int.reduceEq, Int.reduceLT, Int.reduceLE, Int.reduceAdd, Int.reduceSub, Int.reduceMul, Int.reduceNeg]
      · have z := q.bad x2 (P1.tr (PF.rd f2)) y2 z2
        clear q NP
        first | (simp (disch := omega) only [GA, GR, GRc, GO, GI, GL, GV, am_w_i, am_ga, am_it, am_if, true_and, and_true, or_true, true_or, ne_eq, not_false_eq_true, not_true_eq_false, false_imp_iff, true_imp_iff, Int.reduceEq, Int.reduceLT, Int.reduceLE, Int.reduceAdd, Int.reduceSub, Int.reduceMul, Int.reduceNeg]; exact z) | simp (disch := omega) only [z, GA, GR, GRc, GO, GI, GL, GV, am_w_i, am_ga, am_it, am_if, true_and, and_true, or_true, true_or, ne_eq, not_false_eq_true, not_true_eq_false, false_imp_iff, true_imp_iff, Int.reduceEq, Int.reduceLT, Int.reduceLE, Int.reduceAdd, Int.reduceSub, Int.reduceMul, Int.reduceNeg]
    · rw [if_neg y] at q
      have y' : ¬ I1 115 (fb + r1.2.2) = 0 := fun e => y (bt.1 e)
      have kk : r1.2.1 - 1 = k + 1 := by omega
      rw [kk] at q
      have z := q.2 (am_up (am_up (am_up I1 99 10 (pl (k + 1))) 99 4 3) 99 5 (pl (k + 1))) (((((PF.rd R0.w).tr (PF.rd f1.w)).f (by decide)).f (by decide)).f (by decide)) (by simp) (by rw [am_up_n _ _ _ _ (by decide), am_up_s]) (am_up_s _ _ _ _)
      clear q bt ha
      first | (simp (disch := omega) only [Kk, Kl, g1, y', p0, B175_43, s154 (am_up_s I1 99 10 (pl (k + 1))), GA, GR, GRc, GO, GI, GL, GV, am_w_i, am_ga, am_it, am_if, true_and, and_true, or_true, true_or, ne_eq, not_false_eq_true, not_true_eq_false, false_imp_iff, true_imp_iff, Int.reduceEq, Int.reduceLT, Int.reduceLE, Int.reduceAdd, Int.reduceSub, Int.reduceMul, Int.reduceNeg]; exact z) | simp (disch := omega) only [Kk, Kl, g1, y', p0, B175_43, s154 (am_up_s I1 99 10 (pl (k + 1))), z, GA, GR, GRc, GO, GI, GL, GV, am_w_i, am_ga, am_it, am_if, true_and, and_true, or_true, true_or, ne_eq, not_false_eq_true, not_true_eq_false, false_imp_iff, true_imp_iff, Int.reduceEq, Int.reduceLT, Int.reduceLE, Int.reduceAdd, Int.reduceSub, Int.reduceMul, Int.reduceNeg]
  · have z := q.bad x1 ((PF.rd R0.w).tr (PF.rd f1)) y1 z1
    clear q ha
    first | (simp (disch := omega) only [GA, GR, GRc, GO, GI, GL, GV, am_w_i, am_ga, am_it, am_if, true_and, and_true, or_true, true_or, ne_eq, not_false_eq_true, not_true_eq_false, false_imp_iff, true_imp_iff, Int.reduceEq, Int.reduceLT, Int.reduceLE, Int.reduceAdd, Int.reduceSub, Int.reduceMul, Int.reduceNeg]; exact z) | simp (disch := omega) only [z, GA, GR, GRc, GO, GI, GL, GV, am_w_i, am_ga, am_it, am_if, true_and, and_true, or_true, true_or, ne_eq, not_false_eq_true, not_true_eq_false, false_imp_iff, true_imp_iff, Int.reduceEq, Int.reduceLT, Int.reduceLE, Int.reduceAdd, Int.reduceSub, Int.reduceMul, Int.reduceNeg]
