/-! 81: healings -/
def px_ha (V : (Nat → Int → Int)) (lw : (Int → (Int → Int) → Int)) (k : Int) (T : (Nat → Int → Int)) (c : Int → Int) (r last : Nat) : Nat → Int
  | 0 => 0
  | n + 1 => if px_sa V lw (FH k n) T c r last = true then am_or (px_ha V lw k T c r last n) (am_shl 1 n) else px_ha V lw k T c r last n
theorem px_ha_in {V : (Nat → Int → Int)} {lw : (Int → (Int → Int) → Int)} {k : Int} {T : (Nat → Int → Int)} {c : Int → Int} {r last : Nat} : ∀ n, am_in (px_ha V lw k T c r last n)
  | 0 => by rw [px_ha]; unfold am_in; omega
  | n + 1 => by
    rw [px_ha]; split
    · exact am_or_in _ _
    · exact px_ha_in n
theorem c_heal {d : Nat} {w : Nat × Nat × Nat × Nat} {I L : Nat → Int → Int} {V T σ : (Nat → Int → Int)} {lw : (Int → (Int → Int) → Int)} {m last : Nat} {kb k : Int} {c : Int → Int} (G : GC V lw σ w I L) (hT : GDc T m kb I) (hw : WT V T m kb) (hc : ∀ j, 0 ≤ j → j < 24 → I 98 j = c j) (hl : last ≤ 60) {Q : Option am_V → am_H → Prop} (q : ∀ w' I' L', QR w I L w' I' L' → (∀ a, ¬ (55 ≤ a ∧ a ≤ 58 ∨ a = 63) → I' a = I a) → Q (some (vI (px_ha V lw k T c m last 10))) (mkH w' I' L')) : am_WP (d + 9) 142 30 [some (vR (some 0)), some (vI k), some (vI (last : Int)), some (vI 0), some (vI 0)] [] (mkH w I L) Q := by
  refine am_loop (α := (Nat × Nat × Nat × Nat) × (Nat → Int → Int) × (Nat → Int → Int)) 10 (fun i x => am_WP (d + 9) 142 30 [some (vR (some 0)), some (vI k), some (vI (last : Int)), some (vI (px_ha V lw k T c m last i)), some (vI (i : Int))] [] (mkH x.1 x.2.1 x.2.2) Q) (fun i x => QR w I L x.1 x.2.1 x.2.2 ∧ ∀ a, ¬ (55 ≤ a ∧ a ≤ 58 ∨ a = 63) → x.2.1 a = I a) ?_ ?_ 0 (w, I, L) (Nat.zero_le _) ⟨QR.rf, fun _ _ => rfl⟩
  · intro i ⟨wa, Ia, La⟩ hi ⟨ra, fa⟩ ih
    dsimp only at ra fa ⊢
    rw [B142_30]
    simp (disch := omega) only [KX, GA, GR, GRc, GO, GI, GL, GV, am_w_i, am_ga, am_it, am_if, true_and, and_true, or_true, true_or, ne_eq, not_false_eq_true, not_true_eq_false, false_imp_iff, true_imp_iff, Int.reduceEq, Int.reduceLT, Int.reduceLE, Int.reduceAdd, Int.reduceSub, Int.reduceMul, Int.reduceNeg]
    refine s143 (c := c) (G.q ra) (hT.fr (fun a _ _ => fa a (by omega))) hw (fun j x y => by rw [fa 98 (by omega)]; exact hc j x y) (by omega) hl (fun wb Ib Lb rb fb => ?_)
    have z := ih (wb, Ib, Lb) ⟨ra.tr rb, fun a ha => (fb a ha).trans (fa a ha)⟩
    dsimp only at z
    rw [px_ha] at z
    cases hf : px_sa V lw (FH k i) T c m last with
    | true =>
      rw [hf] at z
      simp only [if_true] at z ⊢
      first | (simp (disch := omega) only [B142_55, GA, GR, GRc, GO, GI, GL, GV, am_w_i, am_ga, am_it, am_if, true_and, and_true, or_true, true_or, ne_eq, not_false_eq_true, not_true_eq_false, false_imp_iff, true_imp_iff, Int.reduceEq, Int.reduceLT, Int.reduceLE, Int.reduceAdd, Int.reduceSub, Int.reduceMul, Int.reduceNeg]; exact z) | simp (disch := omega) only [B142_55, z, GA, GR, GRc, GO, GI, GL, GV, am_w_i, am_ga, am_it, am_if, true_and, and_true, or_true, true_or, ne_eq, not_false_eq_true, not_true_eq_false, false_imp_iff, true_imp_iff, Int.reduceEq, Int.reduceLT, Int.reduceLE, Int.reduceAdd, Int.reduceSub, Int.reduceMul, Int.reduceNeg]
    | false =>
      rw [hf] at z
      simp only [Bool.false_eq_true, if_false] at z ⊢
      first | (simp (disch := omega) only [B142_55, GA, GR, GRc, GO, GI, GL, GV, am_w_i, am_ga, am_it, am_if, true_and, and_true, or_true, true_or, ne_eq, not_false_eq_true, not_true_eq_false, false_imp_iff, true_imp_iff, Int.reduceEq, Int.reduceLT, Int.reduceLE, Int.reduceAdd, Int.reduceSub, Int.reduceMul, Int.reduceNeg]; exact z) | simp (disch := omega) only [B142_55, z, GA, GR, GRc, GO, GI, GL, GV, am_w_i, am_ga, am_it, am_if, true_and, and_true, or_true, true_or, ne_eq, not_false_eq_true, not_true_eq_false, false_imp_iff, true_imp_iff, Int.reduceEq, Int.reduceLT, Int.reduceLE, Int.reduceAdd, Int.reduceSub, Int.reduceMul, Int.reduceNeg]
  · intro ⟨wa, Ia, La⟩ ⟨ra, fa⟩
    dsimp only at ra fa ⊢
    have z := q wa Ia La ra fa
    rw [B142_30]
    first | (simp (disch := omega) only [GA, GR, GRc, GO, GI, GL, GV, am_w_i, am_ga, am_it, am_if, true_and, and_true, or_true, true_or, ne_eq, not_false_eq_true, not_true_eq_false, false_imp_iff, true_imp_iff, Int.reduceEq, Int.reduceLT, Int.reduceLE, Int.reduceAdd, Int.reduceSub, Int.reduceMul, Int.reduceNeg]; exact z) | simp (disch := omega) only [z, GA, GR, GRc, GO, GI, GL, GV, am_w_i, am_ga, am_it, am_if, true_and, and_true, or_true, true_or, ne_eq, not_false_eq_true, not_true_eq_false, false_imp_iff, true_imp_iff, Int.reduceEq, Int.reduceLT, Int.reduceLE, Int.reduceAdd, Int.reduceSub, Int.reduceMul, Int.reduceNeg]
theorem m_heal {d : Nat} {w : Nat × Nat × Nat × Nat} {I L : Nat → Int → Int} {V T σ : (Nat → Int → Int)} {lw : (Int → (Int → Int) → Int)} {m : Nat} {kb k : Int} {c : Int → Int} (G : GC V lw σ w I L) (hT : GDm T m kb I) (hw : WT V T m kb) (hc : ∀ j, 0 ≤ j → j < (px_rc m kb : Int) → I 135 j = c j) {Q : Option am_V → am_H → Prop} (q : ∀ I' L', QR w I L w I' L' → Q (some (vI (px_ha V lw k T c (px_rc m kb) 60 10))) (mkH w I' L')) : am_WP (d + 11) 270 23 [some (vR (some 99)), some (vI k), some (vI 0), some (vI 0)] [] (mkH w I L) Q := by
  refine am_loop (α := (Nat → Int → Int) × (Nat → Int → Int)) 10 (fun i x => am_WP (d + 11) 270 23 [some (vR (some 99)), some (vI k), some (vI (px_ha V lw k T c (px_rc m kb) 60 i)), some (vI (i : Int))] [] (mkH w x.1 x.2) Q) (fun i x => QR w I L w x.1 x.2 ∧ x.1 134 = I 134 ∧ x.1 135 = I 135) ?_ ?_ 0 (I, L) (Nat.zero_le _) ⟨QR.rf, rfl, rfl⟩
  · intro i ⟨Ia, La⟩ hi ⟨ra, f4, f5⟩ ih
    dsimp only at ra f4 f5 ⊢
    have ta : GDm T m kb Ia := hT.fr (ra.2.1.2.1 70 (by decide) (by decide) (by decide)) (ra.2.1.2.1 71 (by decide) (by decide) (by decide)) f4
    rw [B270_23]
    simp (disch := omega) only [Kk, GA, GR, GRc, GO, GI, GL, GV, am_w_i, am_ga, am_it, am_if, true_and, and_true, or_true, true_or, ne_eq, not_false_eq_true, not_true_eq_false, false_imp_iff, true_imp_iff, Int.reduceEq, Int.reduceLT, Int.reduceLE, Int.reduceAdd, Int.reduceSub, Int.reduceMul, Int.reduceNeg]
    refine s269 (c := c) (G.q ra) ta hw (fun j x y => by rw [f5]; exact hc j x y) (by omega) (fun Ib Lb rb g4 g5 => ?_)
    have z := ih (Ib, Lb) ⟨ra.tr rb, g4.trans f4, g5.trans f5⟩
    dsimp only at z
    rw [px_ha] at z
    have o0 := am_or_0 (px_ha_in (V := V) (lw := lw) (k := k) (T := T) (c := c) (r := px_rc m kb) (last := 60) i)
    cases hf : px_sa V lw (FH k i) T c (px_rc m kb) 60 with
    | true =>
      rw [hf] at z
      simp only [if_true] at z ⊢
      first | (simp (disch := omega) only [B270_46, GA, GR, GRc, GO, GI, GL, GV, am_w_i, am_ga, am_it, am_if, true_and, and_true, or_true, true_or, ne_eq, not_false_eq_true, not_true_eq_false, false_imp_iff, true_imp_iff, Int.reduceEq, Int.reduceLT, Int.reduceLE, Int.reduceAdd, Int.reduceSub, Int.reduceMul, Int.reduceNeg]; exact z) | simp (disch := omega) only [B270_46, z, GA, GR, GRc, GO, GI, GL, GV, am_w_i, am_ga, am_it, am_if, true_and, and_true, or_true, true_or, ne_eq, not_false_eq_true, not_true_eq_false, false_imp_iff, true_imp_iff, Int.reduceEq, Int.reduceLT, Int.reduceLE, Int.reduceAdd, Int.reduceSub, Int.reduceMul, Int.reduceNeg]
    | false =>
      rw [hf] at z
      simp only [Bool.false_eq_true, if_false] at z ⊢
      first | (simp (disch := omega) only [B270_46, o0, GA, GR, GRc, GO, GI, GL, GV, am_w_i, am_ga, am_it, am_if, true_and, and_true, or_true, true_or, ne_eq, not_false_eq_true, not_true_eq_false, false_imp_iff, true_imp_iff, Int.reduceEq, Int.reduceLT, Int.reduceLE, Int.reduceAdd, Int.reduceSub, Int.reduceMul, Int.reduceNeg]; exact z) | simp (disch := omega) only [B270_46, o0, z, GA, GR, GRc, GO, GI, GL, GV, am_w_i, am_ga, am_it, am_if, true_and, and_true, or_true, true_or, ne_eq, not_false_eq_true, not_true_eq_false, false_imp_iff, true_imp_iff, Int.reduceEq, Int.reduceLT, Int.reduceLE, Int.reduceAdd, Int.reduceSub, Int.reduceMul, Int.reduceNeg]
  · intro ⟨Ia, La⟩ ⟨ra, f4, f5⟩
    dsimp only at ra f4 f5 ⊢
    have z := q (cz_pl Ia) La (ra.tr ⟨⟨rfl, rfl, rfl⟩, QF.pl, QL.rf⟩)
    rw [B270_23]
    first | (simp (disch := omega) only [Kk, s197, GA, GR, GRc, GO, GI, GL, GV, am_w_i, am_ga, am_it, am_if, true_and, and_true, or_true, true_or, ne_eq, not_false_eq_true, not_true_eq_false, false_imp_iff, true_imp_iff, Int.reduceEq, Int.reduceLT, Int.reduceLE, Int.reduceAdd, Int.reduceSub, Int.reduceMul, Int.reduceNeg]; exact z) | simp (disch := omega) only [Kk, s197, z, GA, GR, GRc, GO, GI, GL, GV, am_w_i, am_ga, am_it, am_if, true_and, and_true, or_true, true_or, ne_eq, not_false_eq_true, not_true_eq_false, false_imp_iff, true_imp_iff, Int.reduceEq, Int.reduceLT, Int.reduceLE, Int.reduceAdd, Int.reduceSub, Int.reduceMul, Int.reduceNeg]
