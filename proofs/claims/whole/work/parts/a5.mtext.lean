/-! a5: the reference reads a text -/
def TMo (d : Nat) (w : (Nat × Nat × Nat × Nat)) (I : (Nat → Int → Int)) (pl : Nat → Int) (L : (Nat → Int → Int)) (r : (Int × Nat × (Nat → Int → Int)) × Int) (Q : Option am_V → am_H → Prop) : Prop := (∀ I', PF I I' → r.1.1 = 0 → NX I' r.1.2.2 → am_Sp (d + 7) 167 [vR (some 99)] (mkH w I' L) (fun r1 h2 => am_gV False r1 (Q (some (vI r.2)) h2))) ∧ (∀ I', PF I I' → r.1.1 ≠ 0 → I' 99 4 = r.1.1 → I' 99 5 = pl r.1.2.1 → Q (some (vI (-1))) (mkH w I' L))
theorem TMo.tr {d : Nat} {w : (Nat × Nat × Nat × Nat)} {I J : (Nat → Int → Int)} {pl : Nat → Int} {L : (Nat → Int → Int)} {r : (Int × Nat × (Nat → Int → Int)) × Int} {Q : Option am_V → am_H → Prop} (h : TMo d w I pl L r Q) (f : PF I J) : TMo d w J pl L r Q := ⟨fun I' c => h.1 I' (f.tr c), fun I' c => h.2 I' (f.tr c)⟩
set_option maxHeartbeats 1000000 in
theorem m_lines {d : Nat} {w : (Nat × Nat × Nat × Nat)} {L : (Nat → Int → Int)} {s u pl P : Nat → Int} {K : Nat} {T : Int → Int} {n l1 : Int} {Q : Option am_V → am_H → Prop} (hC : TC s u pl P K T n) : ∀ (f : Nat) (I X : (Nat → Int → Int)) (k : Nat) (m : Int), K + 1 ≤ k + f → k ≤ K → 0 ≤ m ∧ m ≤ k → mT s u pl P T n k I → NX I X → WXx X → TMo d w I pl L (txF s u K f X k m) Q → am_WP (d + 8) 178 55 [some (vR (some 99)), some (vI l1), some (vI m)] [] (mkH w I L) Q
  | 0, I, X, k, m, hf, hk, hm, hT, hX, hw, q => absurd hf (by omega)
  | f + 1, I, X, k, m, hf, hk, hm, hT, hX, hw, q => by
    have hu := hC.tu
    have h7 := hu.2.1
    have t0 := hT.2.2.2.2.2.f.2.2.2.2
    rw [B178_55]
    rw [txF] at q
    by_cases c : s k = 0
    · rw [if_pos c] at q
      have z := q.1 I PF.rf rfl hX
      have c8 : I 99 8 = 0 := t0.2 c
      clear q hX hw hT hu t0
      first | (simp (disch := omega) only [Kk, c8, GA, GR, GRc, GO, GI, GL, GV, am_w_i, am_ga, am_it, am_if, true_and, and_true, or_true, true_or, ne_eq, not_false_eq_true, not_true_eq_false, false_imp_iff, true_imp_iff, Int.reduceEq, Int.reduceLT, Int.reduceLE, Int.reduceAdd, Int.reduceSub, Int.reduceMul, Int.reduceNeg]; exact z) | simp (disch := omega) only [Kk, c8, z, GA, GR, GRc, GO, GI, GL, GV, am_w_i, am_ga, am_it, am_if, true_and, and_true, or_true, true_or, ne_eq, not_false_eq_true, not_true_eq_false, false_imp_iff, true_imp_iff, Int.reduceEq, Int.reduceLT, Int.reduceLE, Int.reduceAdd, Int.reduceSub, Int.reduceMul, Int.reduceNeg]
    · rw [if_neg c] at q
      have kK := rd_k hu.1 hk c
      have lp := lnF_w hu kK hw
      have c8 : ¬ I 99 8 = 0 := fun z => c (t0.1 z)
      clear t0
      simp (disch := omega) only [Kk, c8, GA, GR, GRc, GO, GI, GL, GV, am_w_i, am_ga, am_it, am_if, true_and, and_true, or_true, true_or, ne_eq, not_false_eq_true, not_true_eq_false, false_imp_iff, true_imp_iff, Int.reduceEq, Int.reduceLT, Int.reduceLE, Int.reduceAdd, Int.reduceSub, Int.reduceMul, Int.reduceNeg]
      refine s177 (d := d) hC hu hT hX hw.1 kK ⟨fun I' pf r0 nx m3 => ?_, fun I' pf r0 e0 e1 => ?_⟩
      · rw [if_pos r0] at q
        obtain ⟨w1, w2, w3⟩ := lp r0
        have z := m_lines (d := d) (w := w) (L := L) (l1 := l1) (Q := Q) hC f I' _ _ (m + 1) (by omega) w3 (by omega) m3 nx w1 (q.tr pf)
        clear q hX hw hT hu nx w1 lp
        first | (simp (disch := omega) only [GA, GR, GRc, GO, GI, GL, GV, am_w_i, am_ga, am_it, am_if, true_and, and_true, or_true, true_or, ne_eq, not_false_eq_true, not_true_eq_false, false_imp_iff, true_imp_iff, Int.reduceEq, Int.reduceLT, Int.reduceLE, Int.reduceAdd, Int.reduceSub, Int.reduceMul, Int.reduceNeg]; exact z) | simp (disch := omega) only [z, GA, GR, GRc, GO, GI, GL, GV, am_w_i, am_ga, am_it, am_if, true_and, and_true, or_true, true_or, ne_eq, not_false_eq_true, not_true_eq_false, false_imp_iff, true_imp_iff, Int.reduceEq, Int.reduceLT, Int.reduceLE, Int.reduceAdd, Int.reduceSub, Int.reduceMul, Int.reduceNeg]
      · rw [if_neg r0] at q
        have z := q.2 I' pf r0 e0 e1
        clear q hX hw hT hu lp
        first | (simp (disch := omega) only [GA, GR, GRc, GO, GI, GL, GV, am_w_i, am_ga, am_it, am_if, true_and, and_true, or_true, true_or, ne_eq, not_false_eq_true, not_true_eq_false, false_imp_iff, true_imp_iff, Int.reduceEq, Int.reduceLT, Int.reduceLE, Int.reduceAdd, Int.reduceSub, Int.reduceMul, Int.reduceNeg]; exact z) | simp (disch := omega) only [z, GA, GR, GRc, GO, GI, GL, GV, am_w_i, am_ga, am_it, am_if, true_and, and_true, or_true, true_or, ne_eq, not_false_eq_true, not_true_eq_false, false_imp_iff, true_imp_iff, Int.reduceEq, Int.reduceLT, Int.reduceLE, Int.reduceAdd, Int.reduceSub, Int.reduceMul, Int.reduceNeg]
theorem t158_0 {d : Nat} {w : Nat × Nat × Nat × Nat} {I L : Nat → Int → Int} {s u pl P : Nat → Int} {K : Nat} {T : Int → Int} {n : Int} (hC : TC s u pl P K T n) (hX : GX I) (h6 : I 99 6 = n) (h7 : I 99 7 = P 0) (hT : I 100 = T) {Q : Option am_V → am_H → Prop} (q : ∀ I', TF I I' → mT s u pl P T n 0 I' → Q none (mkH w I' L)) : am_Sp (d + 2) 158 [vR (some 99)] (mkH w I L) Q := by
  obtain ⟨c1, c2, c3, c4, c5⟩ := hC
  obtain ⟨p0, kd, wh, tk⟩ := c5 0 (Nat.zero_le _)
  have tr := tk.tr
  refine s158 (i := P 0) hX h6 h7 c4.2 p0 (by rw [hT]; exact tk) (fun I' t x1 x2 x3 x4 => q I' t ⟨?_, ?_, ?_, x1, x4, ?_⟩)
  · rw [t.2 6 (by decide) (by decide) (by decide) (by decide)]; exact h6
  · rw [t.1 100 (by decide)]; exact hT
  · unfold GX at hX ⊢; rw [t.1 49 (by decide), t.1 101 (by decide)]; exact hX
  · rw [x2]
    by_cases k0 : kd = 0
    · have : s 0 = 0 := by
        unfold TR at tr
        rcases tr with h | h | h | h | h | h | h
        · exact h.1
        all_goals omega
      exact Or.inl ⟨this, k0⟩
    · rw [x3 k0]; exact tr
theorem PN.nx {I I' X : (Nat → Int → Int)} (h : PN I I') (h4 : I 99 4 = 0) (h5 : I 99 5 = -1) (x : X00 X) : NX I' X := by
  obtain ⟨a, b, ⟨c16, c17, c18, c19, c20, c48, c21⟩, e, f, g, k⟩ := h
  obtain ⟨x0, x1, x4, x13, x17⟩ := x
  have z0 := x0 0 (by decide) (by decide)
  have z1 := x0 1 (by decide) (by decide)
  have z2 := x0 2 (by decide) (by decide)
  have z3 := x0 3 (by decide) (by decide)
  have z4 := x0 4 (by decide) (by decide)
  have z5 := x0 5 (by decide) (by decide)
  have z6 := x0 6 (by decide) (by decide)
  have z7 := x0 7 (by decide) (by decide)
  have bz : ∀ t : Int, 0 ≤ t → t < 5 → bit1 0 t = 0 := fun t t0 t1 => by
    rcases (show t = 0 ∨ t = 1 ∨ t = 2 ∨ t = 3 ∨ t = 4 by omega) with rfl | rfl | rfl | rfl | rfl <;> decide
  unfold NX
  rw [z0, z1, z2, z3, z4, z5, z6, z7, x1.1, x1.2, c16, c17, c18, c19, c20, c48, c21, e.1, b 4 (by decide) (by decide), b 5 (by decide) (by decide)]
  refine ⟨⟨⟨rfl, rfl, rfl⟩, rfl, rfl, rfl⟩, ⟨rfl, ⟨fun _ => bz 4 (by decide) (by decide), fun _ => rfl⟩, fun t t0 t1 => ⟨fun _ => bz t t0 (by omega), fun _ => (g.2 t t0 t1).1⟩⟩, fun j j0 j1 => by omega, fun j j0 j1 => by rw [x4 j j0 j1]; exact f.2 j j0 j1, fun j j0 j1 => by omega, fun j j0 j1 => by omega, fun j j0 j1 => ?_, fun l l0 l1 => Or.inl ⟨k.2 l l0 l1, by rw [x17 l l0 l1]; decide⟩, fun j j0 j1 => by omega, h4, h5⟩
  rw [(x13 j j0 j1).1, (x13 j j0 j1).2]
  have := (g.2 (2 + j) (by omega) (by omega)).2
  rw [show 4 + (2 + j) = 6 + j by omega] at this
  exact ⟨(g.2 j j0 (by omega)).2, this⟩
