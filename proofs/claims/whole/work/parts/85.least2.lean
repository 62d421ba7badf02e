/-! 85: levelling, the class's rounds -/
def lvP (r j : Int) : Int := if am_and r 1 = 0 then j else 400 - j
theorem lvP_b {r j : Int} (h0 : 0 ≤ j) (h1 : j ≤ 400) : 0 ≤ lvP r j ∧ lvP r j ≤ 400 := by unfold lvP; split <;> omega
theorem lvP_o {r p : Int} (h0 : 0 ≤ p) (h1 : p ≤ 400) : ∃ j, 0 ≤ j ∧ j < 401 ∧ lvP r j = p := by
  unfold lvP
  by_cases c : am_and r 1 = 0
  · exact ⟨p, h0, by omega, by rw [if_pos c]⟩
  · exact ⟨400 - p, by omega, by omega, by rw [if_neg c]; omega⟩
set_option maxHeartbeats 1000000 in
theorem s22r {d : Nat} {w : Nat × Nat × Nat × Nat} {I L : Nat → Int → Int} {V : (Nat → Int → Int)} {k tw o s g : Int} {A B : Prop} (hw : isW w.1) (hR : RW I w.1 V) (hV : WV V) (hA : ¬ am_and tw 1 = 0 ↔ A) (hB : ¬ am_and tw 2 = 0 ↔ B) (ho : o = 0 ∨ o = 1) (hS : lvS (lvE V k o A B) s (I 89)) (r : Nat) (hr : r ≤ 402) (l10 : Option am_V) {Q : Option am_V → am_H → Prop} (q : ∀ I' b l9 l10, lvI (lvE V k o A B) s I I' b → (∀ p q x, lvE V k o A B p q x → I' 89 q ≤ I 89 p + x ∨ I' 89 200 ≤ I 89 p) → am_WP (d + 2) 22 61 [some (vR (some 88)), some (vR (some w.1)), some (vR (some 51)), some (vI k), some (vI tw), some (vI o), some (vI g), some (vI b), some (vI ((r : Int) + 1)), l9, l10] [] (mkH w I' L) Q) : am_WP (d + 2) 22 80 [some (vR (some 88)), some (vR (some w.1)), some (vR (some 51)), some (vI k), some (vI tw), some (vI o), some (vI g), some (vI 0), some (vI (r : Int)), some (vI 0), l10] [] (mkH w I L) Q := by
  have hle := isW_le hw
  refine am_loop (α := Int × (Nat → Int → Int) × Option am_V) 401 (fun i x => am_WP (d + 2) 22 80 [some (vR (some 88)), some (vR (some w.1)), some (vR (some 51)), some (vI k), some (vI tw), some (vI o), some (vI g), some (vI x.1), some (vI (r : Int)), some (vI (i : Int)), x.2.2] [] (mkH w x.2.1 L) Q) (fun i x => lvI (lvE V k o A B) s I x.2.1 x.1 ∧ ∀ j : Int, 0 ≤ j → j < i → ∀ q y, lvE V k o A B (lvP r j) q y → x.2.1 89 q ≤ I 89 (lvP r j) + y ∨ x.2.1 89 200 ≤ I 89 (lvP r j)) ?_ ?_ 0 (0, I, l10) (Nat.zero_le _) ⟨lvI.rf hS, fun j h0 h1 => by omega⟩
  · rintro i ⟨b, I1, l10⟩ hi ⟨v1, v2⟩ ih
    dsimp only at v1 v2 ⊢
    have hR1 : RW I1 w.1 V := hR.fr (fun q _ x => v1.2.2.1 q (by omega))
    have pi := lvP_b (r := r) (j := i) (by omega) (by omega)
    have k144 : ∀ I2 b2, lvI (lvE V k o A B) s I I2 b2 → (∀ q, I2 89 q ≤ I1 89 q) → (∀ q y, lvE V k o A B (lvP r i) q y → I2 89 q ≤ I 89 (lvP r i) + y ∨ I2 89 200 ≤ I 89 (lvP r i)) → am_WP (d + 2) 22 144 [some (vR (some 88)), some (vR (some w.1)), some (vR (some 51)), some (vI k), some (vI tw), some (vI o), some (vI g), some (vI b2), some (vI (r : Int)), some (vI (i : Int)), some (vI (lvP r i))] [] (mkH w I2 L) Q := by
      intro I2 b2 u1 u2 u3
      rw [B22_144]
      have z := ih (b2, I2, some (vI (lvP r i))) ⟨u1, fun j j0 j1 q y he => by
        dsimp only
        by_cases ej : j = i
        · subst ej; exact u3 q y he
        · have m1 := u2 q
          have m2 := u2 200
          rcases v2 j j0 (by omega) q y he with h | h
          · exact Or.inl (by omega)
          · exact Or.inr (by omega)⟩
      first | (simp (disch := omega) only [GA, GR, GRc, GO, GI, GL, GV, am_w_i, am_ga, am_it, am_if, true_and, and_true, or_true, true_or, ne_eq, not_false_eq_true, not_true_eq_false, false_imp_iff, true_imp_iff, Int.reduceEq, Int.reduceLT, Int.reduceLE, Int.reduceAdd, Int.reduceSub, Int.reduceMul, Int.reduceNeg]; exact z) | simp (disch := omega) only [z, GA, GR, GRc, GO, GI, GL, GV, am_w_i, am_ga, am_it, am_if, true_and, and_true, or_true, true_or, ne_eq, not_false_eq_true, not_true_eq_false, false_imp_iff, true_imp_iff, Int.reduceEq, Int.reduceLT, Int.reduceLE, Int.reduceAdd, Int.reduceSub, Int.reduceMul, Int.reduceNeg]
    have k106 : am_WP (d + 2) 22 106 [some (vR (some 88)), some (vR (some w.1)), some (vR (some 51)), some (vI k), some (vI tw), some (vI o), some (vI g), some (vI b), some (vI (r : Int)), some (vI (i : Int)), l10] [vI (lvP r i)] (mkH w I1 L) Q := by
      generalize lvP r i = p at pi k144 ⊢
      rw [B22_106]
      have mp := v1.2.2.2.1 p
      have s2 := v1.2.2.2.2 200 (by omega) (by omega)
      by_cases c : I1 89 200 ≤ I1 89 p
      · have z := k144 I1 b v1 (fun _ => Int.le_refl _) (fun q y _ => Or.inr (by omega))
        first | (simp (disch := omega) only [KV, c, GA, GR, GRc, GO, GI, GL, GV, am_w_i, am_ga, am_it, am_if, true_and, and_true, or_true, true_or, ne_eq, not_false_eq_true, not_true_eq_false, false_imp_iff, true_imp_iff, Int.reduceEq, Int.reduceLT, Int.reduceLE, Int.reduceAdd, Int.reduceSub, Int.reduceMul, Int.reduceNeg]; exact z) | simp (disch := omega) only [KV, c, z, GA, GR, GRc, GO, GI, GL, GV, am_w_i, am_ga, am_it, am_if, true_and, and_true, or_true, true_or, ne_eq, not_false_eq_true, not_true_eq_false, false_imp_iff, true_imp_iff, Int.reduceEq, Int.reduceLT, Int.reduceLE, Int.reduceAdd, Int.reduceSub, Int.reduceMul, Int.reduceNeg]
      · simp (disch := omega) only [KV, c, GA, GR, GRc, GO, GI, GL, GV, am_w_i, am_ga, am_it, am_if, true_and, and_true, or_true, true_or, ne_eq, not_false_eq_true, not_true_eq_false, false_imp_iff, true_imp_iff, Int.reduceEq, Int.reduceLT, Int.reduceLE, Int.reduceAdd, Int.reduceSub, Int.reduceMul, Int.reduceNeg]
        refine s23 hw hR1 hV pi hA hB ho v1.2.2.2.2 (by omega) (fun I2 b2 u1 u2 => ?_)
        have z := k144 I2 _ (v1.tr u1) u1.2.2.2.1 (fun q y he => Or.inl (by have := u2 q y he; omega))
        by_cases hb : b2 = 0
        · rw [if_pos hb] at z
          first | (simp (disch := omega) only [hb, GA, GR, GRc, GO, GI, GL, GV, am_w_i, am_ga, am_it, am_if, true_and, and_true, or_true, true_or, ne_eq, not_false_eq_true, not_true_eq_false, false_imp_iff, true_imp_iff, Int.reduceEq, Int.reduceLT, Int.reduceLE, Int.reduceAdd, Int.reduceSub, Int.reduceMul, Int.reduceNeg]; exact z) | simp (disch := omega) only [hb, z, GA, GR, GRc, GO, GI, GL, GV, am_w_i, am_ga, am_it, am_if, true_and, and_true, or_true, true_or, ne_eq, not_false_eq_true, not_true_eq_false, false_imp_iff, true_imp_iff, Int.reduceEq, Int.reduceLT, Int.reduceLE, Int.reduceAdd, Int.reduceSub, Int.reduceMul, Int.reduceNeg]
        · rw [if_neg hb] at z
          first | (simp (disch := omega) only [hb, GA, GR, GRc, GO, GI, GL, GV, am_w_i, am_ga, am_it, am_if, true_and, and_true, or_true, true_or, ne_eq, not_false_eq_true, not_true_eq_false, false_imp_iff, true_imp_iff, Int.reduceEq, Int.reduceLT, Int.reduceLE, Int.reduceAdd, Int.reduceSub, Int.reduceMul, Int.reduceNeg]; exact z) | simp (disch := omega) only [hb, z, GA, GR, GRc, GO, GI, GL, GV, am_w_i, am_ga, am_it, am_if, true_and, and_true, or_true, true_or, ne_eq, not_false_eq_true, not_true_eq_false, false_imp_iff, true_imp_iff, Int.reduceEq, Int.reduceLT, Int.reduceLE, Int.reduceAdd, Int.reduceSub, Int.reduceMul, Int.reduceNeg]
    rw [B22_80]
    unfold lvP at k106
    by_cases hb : am_and (r : Int) 1 = 0
    · rw [if_pos hb] at k106
      have z := k106
      first | (simp (disch := omega) only [hb, GA, GR, GRc, GO, GI, GL, GV, am_w_i, am_ga, am_it, am_if, true_and, and_true, or_true, true_or, ne_eq, not_false_eq_true, not_true_eq_false, false_imp_iff, true_imp_iff, Int.reduceEq, Int.reduceLT, Int.reduceLE, Int.reduceAdd, Int.reduceSub, Int.reduceMul, Int.reduceNeg]; exact z) | simp (disch := omega) only [hb, z, GA, GR, GRc, GO, GI, GL, GV, am_w_i, am_ga, am_it, am_if, true_and, and_true, or_true, true_or, ne_eq, not_false_eq_true, not_true_eq_false, false_imp_iff, true_imp_iff, Int.reduceEq, Int.reduceLT, Int.reduceLE, Int.reduceAdd, Int.reduceSub, Int.reduceMul, Int.reduceNeg]
    · rw [if_neg hb] at k106
      have z := k106
      first | (simp (disch := omega) only [hb, GA, GR, GRc, GO, GI, GL, GV, am_w_i, am_ga, am_it, am_if, true_and, and_true, or_true, true_or, ne_eq, not_false_eq_true, not_true_eq_false, false_imp_iff, true_imp_iff, Int.reduceEq, Int.reduceLT, Int.reduceLE, Int.reduceAdd, Int.reduceSub, Int.reduceMul, Int.reduceNeg]; exact z) | simp (disch := omega) only [hb, z, GA, GR, GRc, GO, GI, GL, GV, am_w_i, am_ga, am_it, am_if, true_and, and_true, or_true, true_or, ne_eq, not_false_eq_true, not_true_eq_false, false_imp_iff, true_imp_iff, Int.reduceEq, Int.reduceLT, Int.reduceLE, Int.reduceAdd, Int.reduceSub, Int.reduceMul, Int.reduceNeg]
  · rintro ⟨b, I1, l10⟩ ⟨v1, v2⟩
    dsimp only at v1 v2 ⊢
    rw [B22_80]
    have z := q I1 b (some (vI 401)) l10 v1 (fun p q x he => by
      obtain ⟨j, j0, j1, rfl⟩ := lvP_o (r := r) he.1.1 he.1.2
      exact v2 j j0 (by omega) q x he)
    first | (simp (disch := omega) only [GA, GR, GRc, GO, GI, GL, GV, am_w_i, am_ga, am_it, am_if, true_and, and_true, or_true, true_or, ne_eq, not_false_eq_true, not_true_eq_false, false_imp_iff, true_imp_iff, Int.reduceEq, Int.reduceLT, Int.reduceLE, Int.reduceAdd, Int.reduceSub, Int.reduceMul, Int.reduceNeg]; exact z) | simp (disch := omega) only [z, GA, GR, GRc, GO, GI, GL, GV, am_w_i, am_ga, am_it, am_if, true_and, and_true, or_true, true_or, ne_eq, not_false_eq_true, not_true_eq_false, false_imp_iff, true_imp_iff, Int.reduceEq, Int.reduceLT, Int.reduceLE, Int.reduceAdd, Int.reduceSub, Int.reduceMul, Int.reduceNeg]
set_option maxHeartbeats 1000000 in
theorem s22 {d : Nat} {w : Nat × Nat × Nat × Nat} {I L : Nat → Int → Int} {V σ : (Nat → Int → Int)} {k tw o : Int} {A B : Prop} (hw : isW w.1) (hR : RW I w.1 V) (hV : WV V) (rS : RS I 51 σ) (wS : WS 9000 σ) (hk : 0 ≤ k ∧ k < 6) (hA : ¬ am_and tw 1 = 0 ↔ A) (hB : ¬ am_and tw 2 = 0 ↔ B) (ho : o = 0 ∨ o = 1) {Q : Option am_V → am_H → Prop} (q1 : ¬ (-200 ≤ σ 1 (2 * k) - σ 1 (2 * k + 1) ∧ σ 1 (2 * k) - σ 1 (2 * k + 1) ≤ 200) → Q (some (vI (-2))) (mkH w I L)) (q2 : (-200 ≤ σ 1 (2 * k) - σ 1 (2 * k + 1) ∧ σ 1 (2 * k) - σ 1 (2 * k + 1) ≤ 200) → ∀ I' v, (∀ a, a ≠ 89 → I' a = I a) → lvA (lvE V k o A B) (σ 1 (2 * k) - σ 1 (2 * k + 1) + 200) v → Q (some (vI v)) (mkH w I' L)) : am_Sp (d + 2) 22 [vR (some 88), vR (some w.1), vR (some 51), vI k, vI tw, vI o] (mkH w I L) Q := by
  have hle := isW_le hw
  have a1 := wS.1 (2 * k) (by omega) (by omega)
  have a2 := wS.1 (2 * k + 1) (by omega) (by omega)
  have e1 := rS.1 (2 * k) (by omega) (by omega)
  have e2 := rS.1 (2 * k + 1) (by omega) (by omega)
  have i51 : isS 51 := Or.inl rfl
  rw [S22]
  simp (disch := omega) only [HS i51, s59 i51 hk, Int.add_zero, e1, e2, GA, GR, GRc, GO, GI, GL, GV, am_w_i, am_ga, am_it, am_if, true_and, and_true, or_true, true_or, ne_eq, not_false_eq_true, not_true_eq_false, false_imp_iff, true_imp_iff, Int.reduceEq, Int.reduceLT, Int.reduceLE, Int.reduceAdd, Int.reduceSub, Int.reduceMul, Int.reduceNeg]
  generalize hg : σ 1 (2 * k) - σ 1 (2 * k + 1) = g at q1 q2 ⊢
  by_cases c1 : -200 ≤ g
  · by_cases c2 : g ≤ 200
    · simp (disch := omega) only [c1, c2, KV, s280 (a := 89) (n := 401) (by omega) (fun _ => rfl) (fun _ => rfl), B22_55, GA, GR, GRc, GO, GI, GL, GV, am_w_i, am_ga, am_it, am_if, true_and, and_true, or_true, true_or, ne_eq, not_false_eq_true, not_true_eq_false, false_imp_iff, true_imp_iff, Int.reduceEq, Int.reduceLT, Int.reduceLE, Int.reduceAdd, Int.reduceSub, Int.reduceMul, Int.reduceNeg]
      have q2 := q2 ⟨c1, c2⟩
      have hE : ∀ p q x, lvE V k o A B p q x → 0 ≤ x := fun p q x h => (lvE_b hV h).1
      have fl : ∀ p, 0 ≤ p → p ≤ 400 → cz_fl I 89 401 1000000 89 p = 1000000 := fun p p0 p1 => by unfold cz_fl; rw [if_pos ⟨rfl, p0, by omega⟩]
      refine am_loop (α := Int × (Nat → Int → Int) × Option am_V × Option am_V) 402 (fun r x => am_WP (d + 2) 22 61 [some (vR (some 88)), some (vR (some w.1)), some (vR (some 51)), some (vI k), some (vI tw), some (vI o), some (vI g), some (vI x.1), some (vI (r : Int)), x.2.2.1, x.2.2.2] [] (mkH w x.2.1 L) Q) (fun r x => (x.1 = 0 ∨ x.1 = 1) ∧ (∀ a, a ≠ 89 → x.2.1 a = I a) ∧ lvS (lvE V k o A B) (g + 200) (x.2.1 89) ∧ lvD (lvE V k o A B) (g + 200) r (x.2.1 89) ∧ (x.1 = 0 → lvD (lvE V k o A B) (g + 200) 402 (x.2.1 89))) ?_ ?_ 0 (1, am_up (cz_fl I 89 401 1000000) 89 (g + 200) 0, none, none) (Nat.zero_le _) ?_
      · rintro r ⟨b, I1, l9, l10⟩ hr ⟨v0, v1, v2, v3, v4⟩ ih
        dsimp only at v0 v1 v2 v3 v4 ⊢
        have hR1 : RW I1 w.1 V := hR.fr (fun q _ x => v1 q (by omega))
        have s2 := v2 200 (by omega) (by omega)
        rw [B22_61]
        by_cases hb : b = 0
        · have z := fun v hv => q2 I1 v v1 hv
          have D := v4 hb
          by_cases c3 : (1000000 : Int) ≤ I1 89 200
          · have z := z (-2) (Or.inr ⟨rfl, fun n hn c hc => by rcases D n hn 200 c hc with h | h <;> omega⟩)
            first | (simp (disch := omega) only [hb, B22_156, B22_182, KV, c3, GA, GR, GRc, GO, GI, GL, GV, am_w_i, am_ga, am_it, am_if, true_and, and_true, or_true, true_or, ne_eq, not_false_eq_true, not_true_eq_false, false_imp_iff, true_imp_iff, Int.reduceEq, Int.reduceLT, Int.reduceLE, Int.reduceAdd, Int.reduceSub, Int.reduceMul, Int.reduceNeg]; exact z) | simp (disch := omega) only [hb, B22_156, B22_182, KV, c3, z, GA, GR, GRc, GO, GI, GL, GV, am_w_i, am_ga, am_it, am_if, true_and, and_true, or_true, true_or, ne_eq, not_false_eq_true, not_true_eq_false, false_imp_iff, true_imp_iff, Int.reduceEq, Int.reduceLT, Int.reduceLE, Int.reduceAdd, Int.reduceSub, Int.reduceMul, Int.reduceNeg]
          · have z := z (I1 89 200) (Or.inl ⟨by omega, s2.2 (by omega), fun n hn c hc => by rcases D n hn 200 c hc with h | h <;> omega⟩)
            first | (simp (disch := omega) only [hb, B22_156, B22_182, KV, c3, GA, GR, GRc, GO, GI, GL, GV, am_w_i, am_ga, am_it, am_if, true_and, and_true, or_true, true_or, ne_eq, not_false_eq_true, not_true_eq_false, false_imp_iff, true_imp_iff, Int.reduceEq, Int.reduceLT, Int.reduceLE, Int.reduceAdd, Int.reduceSub, Int.reduceMul, Int.reduceNeg]; exact z) | simp (disch := omega) only [hb, B22_156, B22_182, KV, c3, z, GA, GR, GRc, GO, GI, GL, GV, am_w_i, am_ga, am_it, am_if, true_and, and_true, or_true, true_or, ne_eq, not_false_eq_true, not_true_eq_false, false_imp_iff, true_imp_iff, Int.reduceEq, Int.reduceLT, Int.reduceLE, Int.reduceAdd, Int.reduceSub, Int.reduceMul, Int.reduceNeg]
        · simp (disch := omega) only [hb, GA, GR, GRc, GO, GI, GL, GV, am_w_i, am_ga, am_it, am_if, true_and, and_true, or_true, true_or, ne_eq, not_false_eq_true, not_true_eq_false, false_imp_iff, true_imp_iff, Int.reduceEq, Int.reduceLT, Int.reduceLE, Int.reduceAdd, Int.reduceSub, Int.reduceMul, Int.reduceNeg]
          refine s22r hw hR1 hV hA hB ho v2 r (by omega) l10 (fun I2 b2 l9 l10 u1 u2 => ?_)
          refine ih (b2, I2, l9, l10) ⟨u1.1, fun a ha => (u1.2.2.1 a ha).trans (v1 a ha), u1.2.2.2.2, lvD_r hE v3 u1.2.2.2.1 u2, fun y => ?_⟩
          have e := u1.2.1 y
          dsimp only
          rw [e] at u2 ⊢
          exact lvD_c hE (lvD_m v3 (Nat.zero_le _)) u2 402
      · rintro ⟨b, I1, l9, l10⟩ ⟨v0, v1, v2, v3, v4⟩
        dsimp only at v0 v1 v2 v3 v4 ⊢
        have s2 := v2 200 (by omega) (by omega)
        rw [B22_61]
        have z := fun v hv => q2 I1 v v1 hv
        by_cases c3 : (1000000 : Int) ≤ I1 89 200
        · have z := z (-2) (Or.inr ⟨rfl, fun n hn c hc => by rcases v3 n hn 200 c hc with h | h <;> omega⟩)
          first | (simp (disch := omega) only [B22_156, B22_182, KV, c3, GA, GR, GRc, GO, GI, GL, GV, am_w_i, am_ga, am_it, am_if, true_and, and_true, or_true, true_or, ne_eq, not_false_eq_true, not_true_eq_false, false_imp_iff, true_imp_iff, Int.reduceEq, Int.reduceLT, Int.reduceLE, Int.reduceAdd, Int.reduceSub, Int.reduceMul, Int.reduceNeg]; exact z) | simp (disch := omega) only [B22_156, B22_182, KV, c3, z, GA, GR, GRc, GO, GI, GL, GV, am_w_i, am_ga, am_it, am_if, true_and, and_true, or_true, true_or, ne_eq, not_false_eq_true, not_true_eq_false, false_imp_iff, true_imp_iff, Int.reduceEq, Int.reduceLT, Int.reduceLE, Int.reduceAdd, Int.reduceSub, Int.reduceMul, Int.reduceNeg]
        · have z := z (I1 89 200) (Or.inl ⟨by omega, s2.2 (by omega), fun n hn c hc => by rcases v3 n hn 200 c hc with h | h <;> omega⟩)
          first | (simp (disch := omega) only [B22_156, B22_182, KV, c3, GA, GR, GRc, GO, GI, GL, GV, am_w_i, am_ga, am_it, am_if, true_and, and_true, or_true, true_or, ne_eq, not_false_eq_true, not_true_eq_false, false_imp_iff, true_imp_iff, Int.reduceEq, Int.reduceLT, Int.reduceLE, Int.reduceAdd, Int.reduceSub, Int.reduceMul, Int.reduceNeg]; exact z) | simp (disch := omega) only [B22_156, B22_182, KV, c3, z, GA, GR, GRc, GO, GI, GL, GV, am_w_i, am_ga, am_it, am_if, true_and, and_true, or_true, true_or, ne_eq, not_false_eq_true, not_true_eq_false, false_imp_iff, true_imp_iff, Int.reduceEq, Int.reduceLT, Int.reduceLE, Int.reduceAdd, Int.reduceSub, Int.reduceMul, Int.reduceNeg]
      · dsimp only
        refine ⟨Or.inr rfl, fun a ha => ?_, fun p p0 p1 => ?_, lvD_0 (by rw [am_up_s]; omega), fun y => by omega⟩
        · rw [am_up_a _ _ _ _ ha]; funext j; unfold cz_fl; rw [if_neg (fun y => ha y.1)]
        · by_cases e : p = g + 200
          · subst e; rw [am_up_s]; exact ⟨by omega, fun _ => ⟨0, rfl, rfl⟩⟩
          · rw [am_up_n _ _ _ _ e, fl p p0 p1]; exact ⟨by omega, fun y => by omega⟩
    · have z := q1 (fun y => c2 y.2)
      first | (simp (disch := omega) only [c1, c2, B22_31, GA, GR, GRc, GO, GI, GL, GV, am_w_i, am_ga, am_it, am_if, true_and, and_true, or_true, true_or, ne_eq, not_false_eq_true, not_true_eq_false, false_imp_iff, true_imp_iff, Int.reduceEq, Int.reduceLT, Int.reduceLE, Int.reduceAdd, Int.reduceSub, Int.reduceMul, Int.reduceNeg]; exact z) | simp (disch := omega) only [c1, c2, B22_31, z, GA, GR, GRc, GO, GI, GL, GV, am_w_i, am_ga, am_it, am_if, true_and, and_true, or_true, true_or, ne_eq, not_false_eq_true, not_true_eq_false, false_imp_iff, true_imp_iff, Int.reduceEq, Int.reduceLT, Int.reduceLE, Int.reduceAdd, Int.reduceSub, Int.reduceMul, Int.reduceNeg]
  · have z := q1 (fun y => c1 y.1)
    first | (simp (disch := omega) only [c1, B22_31, GA, GR, GRc, GO, GI, GL, GV, am_w_i, am_ga, am_it, am_if, true_and, and_true, or_true, true_or, ne_eq, not_false_eq_true, not_true_eq_false, false_imp_iff, true_imp_iff, Int.reduceEq, Int.reduceLT, Int.reduceLE, Int.reduceAdd, Int.reduceSub, Int.reduceMul, Int.reduceNeg]; exact z) | simp (disch := omega) only [c1, B22_31, z, GA, GR, GRc, GO, GI, GL, GV, am_w_i, am_ga, am_it, am_if, true_and, and_true, or_true, true_or, ne_eq, not_false_eq_true, not_true_eq_false, false_imp_iff, true_imp_iff, Int.reduceEq, Int.reduceLT, Int.reduceLE, Int.reduceAdd, Int.reduceSub, Int.reduceMul, Int.reduceNeg]
