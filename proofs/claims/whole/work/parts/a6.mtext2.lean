/-! a6: the reference's text() -/
def MZ (I I' : (Nat → Int → Int)) : Prop := (∀ a, a ≠ 99 → ¬ (102 ≤ a ∧ a ≤ 124) → I' a = I a) ∧ (∀ a j, 102 ≤ a → a ≤ 122 → j < hfN a → I' a j = I a j) ∧ (∀ x, x ≠ 1 → x ≠ 2 → ¬ (4 ≤ x ∧ x ≤ 11) → ¬ (16 ≤ x ∧ x ≤ 21) → ¬ (45 ≤ x ∧ x ≤ 50) → I' 99 x = I 99 x) ∧ I' 99 1 = 0
set_option maxHeartbeats 1000000 in
theorem s178 {d : Nat} {w : Nat × Nat × Nat × Nat} {I L : Nat → Int → Int} {s u pl P : Nat → Int} {K : Nat} {T : Int → Int} {n : Int} {X : (Nat → Int → Int)} (hC : TC s u pl P K T n) (hP : P 0 = 0) (x : X00 X) (hX : GX I) (hT : I 100 = T) (h1 : n ≤ I 99 1) {Q : Option am_V → am_H → Prop} (q : (∀ I', MZ I I' → (txF s u K (K + 1) X 0 0).1.1 = 0 → NX I' (txF s u K (K + 1) X 0 0).1.2.2 → am_Sp (d + 7) 167 [vR (some 99)] (mkH w I' L) (fun r1 h2 => am_gV False r1 (Q (some (vI (txF s u K (K + 1) X 0 0).2)) h2))) ∧ (∀ I', MZ I I' → (txF s u K (K + 1) X 0 0).1.1 ≠ 0 → I' 99 4 = (txF s u K (K + 1) X 0 0).1.1 → I' 99 5 = pl (txF s u K (K + 1) X 0 0).1.2.1 → Q (some (vI (-1))) (mkH w I' L))) : am_Sp (d + 8) 178 [vR (some 99), vI n] (mkH w I L) Q := by
  have hn := hC.2.2.2.1
  have n0 : ¬ n < 0 := by omega
  rw [S178]
  simp (disch := omega) only [Kk, B178_5, n0, am_up_n, h1, B178_25, B178_30, B178_35, B178_40, GA, GR, GRc, GO, GI, GL, GV, am_w_i, am_ga, am_it, am_if, true_and, and_true, or_true, true_or, ne_eq, not_false_eq_true, not_true_eq_false, false_imp_iff, true_imp_iff, Int.reduceEq, Int.reduceLT, Int.reduceLE, Int.reduceAdd, Int.reduceSub, Int.reduceMul, Int.reduceNeg]
  generalize e0 : am_up (am_up (am_up (am_up (am_up (am_up I 99 2 0) 99 6 n) 99 1 0) 99 4 0) 99 5 (-1)) 99 7 0 = I0
  have f0 : ∀ a, a ≠ 99 → I0 a = I a := fun a ha => by rw [← e0]; simp (disch := assumption) only [am_up_a]
  have g0 : ∀ x, x ≠ 1 → x ≠ 2 → ¬ (4 ≤ x ∧ x ≤ 11) → I0 99 x = I 99 x := fun x h1 h2 h3 => by rw [← e0]; simp (disch := omega) only [am_up_n]
  have g1 : I0 99 1 = 0 ∧ I0 99 4 = 0 ∧ I0 99 5 = -1 ∧ I0 99 6 = n ∧ I0 99 7 = 0 := by rw [← e0]; simp (disch := decide) only [am_up_n, am_up_s, and_self]
  clear e0
  rw [B178_45]
  simp (disch := omega) only [Kk, GA, GR, GRc, GO, GI, GL, GV, am_w_i, am_ga, am_it, am_if, true_and, and_true, or_true, true_or, ne_eq, not_false_eq_true, not_true_eq_false, false_imp_iff, true_imp_iff, Int.reduceEq, Int.reduceLT, Int.reduceLE, Int.reduceAdd, Int.reduceSub, Int.reduceMul, Int.reduceNeg]
  refine s165 (fun J pn => ?_)
  have pf := pn.pf
  have nx := pn.nx g1.2.1 g1.2.2.1 x
  have b := pn.2.1
  simp (disch := omega) only [Kk, GA, GR, GRc, GO, GI, GL, GV, am_w_i, am_ga, am_it, am_if, true_and, and_true, or_true, true_or, ne_eq, not_false_eq_true, not_true_eq_false, false_imp_iff, true_imp_iff, Int.reduceEq, Int.reduceLT, Int.reduceLE, Int.reduceAdd, Int.reduceSub, Int.reduceMul, Int.reduceNeg]
  refine t158_0 (d := d + 5) hC (by unfold GX at hX ⊢; rw [pf.1 49 (by decide) (by decide), pf.1 101 (by decide) (by decide), f0 49 (by decide), f0 101 (by decide)]; exact hX) (by rw [b 6 (by decide) (by decide)]; exact g1.2.2.2.1) (by rw [b 7 (by decide) (by decide), hP]; exact g1.2.2.2.2) (by rw [pf.1 100 (by decide) (by decide), f0 100 (by decide)]; exact hT) (fun J2 t m0 => ?_)
  have pf2 := pf.tr (PF.rd (RF.tf t))
  have nx2 := nx.rf (RG.tf t)
  have mz : ∀ I', PF J2 I' → MZ I I' := fun I' p => by
    have p3 := pf2.tr p
    exact ⟨fun a h1 h2 => by rw [p3.1 a h1 h2, f0 a h1], fun a j h1 h2 h3 => by rw [p3.2.1 a j h1 h2 h3, f0 a (by omega)], fun x h1 h2 h3 h4 h5 => by rw [p3.2.2 x (by omega) (by omega) (by omega) h4 h5]; exact g0 x h1 h2 h3, by rw [p3.2.2 1 (by decide) (by decide) (by decide) (by decide) (by decide)]; exact g1.1⟩
  have z := m_lines (d := d) (w := w) (L := L) (l1 := n) (Q := Q) hC (K + 1) J2 X 0 0 (by omega) (Nat.zero_le _) (by omega) m0 nx2 x.w ⟨fun I' p => q.1 I' (mz I' p), fun I' p => q.2 I' (mz I' p)⟩
  clear q nx nx2 m0 pf pf2 mz hC x hX pn
  first | (simp (disch := omega) only [GA, GR, GRc, GO, GI, GL, GV, am_w_i, am_ga, am_it, am_if, true_and, and_true, or_true, true_or, ne_eq, not_false_eq_true, not_true_eq_false, false_imp_iff, true_imp_iff, Int.reduceEq, Int.reduceLT, Int.reduceLE, Int.reduceAdd, Int.reduceSub, Int.reduceMul, Int.reduceNeg]; exact z) | simp (disch := omega) only [z, GA, GR, GRc, GO, GI, GL, GV, am_w_i, am_ga, am_it, am_if, true_and, and_true, or_true, true_or, ne_eq, not_false_eq_true, not_true_eq_false, false_imp_iff, true_imp_iff, Int.reduceEq, Int.reduceLT, Int.reduceLE, Int.reduceAdd, Int.reduceSub, Int.reduceMul, Int.reduceNeg]
theorem MW.h {I I' V : (Nat → Int → Int)} (h : MW I V) (hV : WV V) (f : ∀ a j, 102 ≤ a → a ≤ 122 → j < hfN a → I' a j = I a j) (g : ∀ j, 12 ≤ j → j ≤ 15 → I' 99 j = I 99 j) : MW I' V := by
  obtain ⟨⟨a1, a2, a3⟩, b, c, e, m, h6, s0, k0⟩ := h
  have v := hV.1
  refine ⟨⟨by rw [g 12 (by decide) (by decide)]; exact a1, by rw [g 13 (by decide) (by decide)]; exact a2, by rw [g 14 (by decide) (by decide)]; exact a3⟩, fun k k0 k1 => ?_, fun k k0 k1 => ?_, fun k k0 k1 => ?_, fun k k0 k1 => ?_, fun k k0 k1 => ?_, ?_, by rw [g 15 (by decide) (by decide)]; exact k0⟩
  · rw [f 103 k (by decide) (by decide) (show k < 6 by omega), f 104 k (by decide) (by decide) (show k < 6 by omega), f 105 k (by decide) (by decide) (show k < 6 by omega)]; exact b k k0 k1
  · rw [f 107 k (by decide) (by decide) (show k < 8 by omega), f 108 k (by decide) (by decide) (show k < 8 by omega), f 109 k (by decide) (by decide) (show k < 8 by omega), f 110 k (by decide) (by decide) (show k < 8 by omega), f 111 k (by decide) (by decide) (show k < 8 by omega)]; exact c k k0 k1
  · rw [f 112 k (by decide) (by decide) (show k < 12 by omega), f 113 k (by decide) (by decide) (show k < 12 by omega), f 114 k (by decide) (by decide) (show k < 12 by omega)]; exact e k k0 k1
  · rw [f 116 k (by decide) (by decide) (show k < 4 by omega), f 116 (2 + k) (by decide) (by decide) (show 2 + k < 4 by omega)]; exact m k k0 k1
  · rw [f 106 k (by decide) (by decide) (show k < 12 by omega)]; exact h6 k k0 k1
  · rw [f 102 0 (by decide) (by decide) (show (0 : Int) < 1 by decide)]; exact s0
theorem ML.h {I I' : (Nat → Int → Int)} {lw : (Int → (Int → Int) → Int)} (h : ML I lw) (f : ∀ a j, 102 ≤ a → a ≤ 122 → j < hfN a → I' a j = I a j) : ML I' lw := by
  intro l l0 l1
  have z := h l l0 l1
  unfold MLl at z ⊢
  rw [f 117 l (by decide) (by decide) (show l < 3 by omega), f 118 l (by decide) (by decide) (show l < 3 by omega), f 119 l (by decide) (by decide) (show l < 3 by omega)]
  rcases z with z | ⟨z1, m, m1, m2, m3, m4, m5, m6⟩
  · exact Or.inl z
  · refine Or.inr ⟨z1, m, m1, m2, m3, m4, fun j j0 j1 => ?_, fun nm hn => ?_⟩
    · rw [f 120 j (by decide) (by decide) (show j < 64 by omega), f 121 j (by decide) (by decide) (show j < 64 by omega), f 122 j (by decide) (by decide) (show j < 64 by omega)]; exact m5 j j0 j1
    · rw [px_mval_c (kn' := I 120) (pa' := I 121) (ot' := I 122) (fun j j0 j1 => ⟨f 120 j (by decide) (by decide) (show j < 64 by omega), f 121 j (by decide) (by decide) (show j < 64 by omega), f 122 j (by decide) (by decide) (show j < 64 by omega)⟩)]; exact m6 nm hn
/-- behind a faulty text -/
theorem GR0.fx {V : (Nat → Int → Int)} {lw : (Int → (Int → Int) → Int)} {σ : (Nat → Int → Int)} {n f g f' g' : Int} {w w' : (Nat × Nat × Nat × Nat)} {I L I' : (Nat → Int → Int)} (h : GR0 V lw σ n f g w I L) (hw : w'.1 = w.1 ∧ w'.2.1 = w.2.1) (hf : ∀ a, a ≠ 0 → a ≠ 99 → ¬ (44 ≤ a ∧ a ≤ 50 ∧ a ≠ 49) → ¬ (w.2.1 ≤ a ∧ a ≤ w.2.1 + 20) → ¬ (102 ≤ a ∧ a ≤ 124) → I' a = I a) (h0 : ∀ j, j ≠ 1 → j ≠ 2 → j ≠ 3 → I' 0 j = I 0 j) (ht : ∀ a j, 102 ≤ a → a ≤ 122 → j < hfN a → I' a j = I a j) (hg : ∀ x, x ≠ 1 → x ≠ 2 → ¬ (4 ≤ x ∧ x ≤ 11) → ¬ (16 ≤ x ∧ x ≤ 21) → ¬ (45 ≤ x ∧ x ≤ 50) → I' 99 x = I 99 x) (hT : I' 0 1 = 0 ∧ I' 99 1 = 0) (hF : GF f' g' I') : GR0 V lw σ 0 f' g' w' I' L := by
  obtain ⟨⟨⟨b1, b2, b3, b4, b5, b6⟩, c1, c2, c3, c4, c5⟩, a2, a3, a4, a5, a6, a7, a8, a9, a10⟩ := h
  have hle := isW_le b1
  have ap : ∀ a, w.1 ≤ a → a ≤ w.1 + 20 → I' a = I a := fun a x y => by
    have : ¬ (w.2.1 ≤ a ∧ a ≤ w.2.1 + 20) := by rcases a3 with ⟨e1, e2⟩ | ⟨e1, e2⟩ <;> rw [e1] at x y <;> rw [e2] <;> omega
    exact hf a (by omega) (by omega) (by omega) this (by omega)
  have hle2 : w.2.1 + 20 ≤ 43 := by rcases a3 with ⟨e1, e2⟩ | ⟨e1, e2⟩ <;> rw [e2] <;> omega
  have up : ∀ a, 51 ≤ a → a ≠ 99 → ¬ (102 ≤ a ∧ a ≤ 124) → I' a = I a := fun a x y z => hf a (by omega) y (by omega) (by omega) z
  have e49 : I' 49 = I 49 := hf 49 (by decide) (by decide) (by omega) (by omega) (by omega)
  rw [← hw.1] at b1 b2 b3 ap
  refine ⟨⟨⟨b1, b2.fr ap, b3.fr ap, b4, b5.h b4 ht (fun j x y => hg j (by omega) (by omega) (by omega) (by omega) (by omega)), b6.h ht⟩, c1.fr (fun q x y => up q (by omega) (by omega) (by omega)), c2.k (fun a _ _ => up a (by omega) (by omega) (by omega)), c3, c4, c5.fr (up 54 (by decide) (by decide) (by decide)) ?_⟩, a2, ?_, ⟨by decide, hT.1, hT.2, fun j j0 j1 => by omega⟩, hF, ?_, ?_, ?_, ?_, ?_⟩
  · rw [up 51 (by decide) (by decide) (by decide)]; exact ⟨rfl, rfl, rfl⟩
  · unfold wPr at a3 ⊢; rw [hw.1, hw.2]; exact a3
  · exact a6.fr (h0 10 (by decide) (by decide) (by decide)) (hg 76 (by decide) (by decide) (by decide) (by decide) (by decide)) (fun a x y => up a (by omega) (by omega) (by omega)) (up 137 (by decide) (by decide) (by decide)) (up 138 (by decide) (by decide) (by decide)) rfl
  · exact a7.fr (by rw [up 90 (by decide) (by decide) (by decide)]) (hg 74 (by decide) (by decide) (by decide) (by decide) (by decide)) (up 91 (by decide) (by decide) (by decide)) (up 136 (by decide) (by decide) (by decide))
  · obtain ⟨T, m, kb, d1, d2, d3⟩ := a8
    exact ⟨T, m, kb, d1.fr (fun a x y => up a (by omega) (by omega) (by omega)), d2.fr (hg 70 (by decide) (by decide) (by decide) (by decide) (by decide)) (hg 71 (by decide) (by decide) (by decide) (by decide) (by decide)) (up 134 (by decide) (by decide) (by decide)), d3⟩
  · exact a9.fr (up 64 (by decide) (by decide) (by decide)) (up 65 (by decide) (by decide) (by decide))
  · unfold GX at a10 ⊢; rw [e49, hf 101 (by decide) (by decide) (by omega) (by omega) (by omega)]; exact a10
