/-! 84: levelling, the class -/
theorem s24 {d : Nat} {w : Nat × Nat × Nat × Nat} {I L : Nat → Int → Int} {p x : Int} (Q : Option am_V → am_H → Prop) : am_Sp d 24 [vR (some 88), vI p, vI x] (mkH w I L) Q ↔ Q (some (vI (lvB I p x))) (mkH w (lvL I p x) L) := by
  rw [S24]
  unfold lvB lvL
  by_cases c0 : 0 ≤ p
  · by_cases c1 : p ≤ 400
    · by_cases c2 : x < I 89 p
      · simp (disch := omega) only [KV, B24_21, B24_30, c0, c1, c2, if_true, GA, GR, GRc, GO, GI, GL, GV, am_w_i, am_ga, am_it, am_if, true_and, and_true, or_true, true_or, ne_eq, not_false_eq_true, not_true_eq_false, false_imp_iff, true_imp_iff, Int.reduceEq, Int.reduceLT, Int.reduceLE, Int.reduceAdd, Int.reduceSub, Int.reduceMul, Int.reduceNeg]
      · simp (disch := omega) only [KV, B24_21, B24_30, c0, c1, c2, if_false, GA, GR, GRc, GO, GI, GL, GV, am_w_i, am_ga, am_it, am_if, true_and, and_true, or_true, true_or, ne_eq, not_false_eq_true, not_true_eq_false, false_imp_iff, true_imp_iff, Int.reduceEq, Int.reduceLT, Int.reduceLE, Int.reduceAdd, Int.reduceSub, Int.reduceMul, Int.reduceNeg]
    · simp (disch := omega) only [KV, B24_21, B24_30, c0, c1, false_and, and_false, if_false, GA, GR, GRc, GO, GI, GL, GV, am_w_i, am_ga, am_it, am_if, true_and, and_true, or_true, true_or, ne_eq, not_false_eq_true, not_true_eq_false, false_imp_iff, true_imp_iff, Int.reduceEq, Int.reduceLT, Int.reduceLE, Int.reduceAdd, Int.reduceSub, Int.reduceMul, Int.reduceNeg]
  · simp (disch := omega) only [KV, B24_21, B24_30, c0, false_and, if_false, GA, GR, GRc, GO, GI, GL, GV, am_w_i, am_ga, am_it, am_if, true_and, and_true, or_true, true_or, ne_eq, not_false_eq_true, not_true_eq_false, false_imp_iff, true_imp_iff, Int.reduceEq, Int.reduceLT, Int.reduceLE, Int.reduceAdd, Int.reduceSub, Int.reduceMul, Int.reduceNeg]
theorem lvI.st {E : Int → Int → Int → Prop} {s : Int} {I0 I1 : (Nat → Int → Int)} {b p x : Int} (h : lvI E s I0 I1 b) (h0 : 0 ≤ x) (hw : 0 ≤ p → p ≤ 400 → ∃ n, lvW E s n p x) : lvI E s I0 (lvL I1 p x) (if lvB I1 p x = 0 then b else 1) := h.tr (lv_lo h.2.2.2.2 h0 hw)
set_option maxHeartbeats 1000000 in
theorem s23 {d : Nat} {w : Nat × Nat × Nat × Nat} {I L : Nat → Int → Int} {V : (Nat → Int → Int)} {k p tw o s : Int} {A B : Prop} (hw : isW w.1) (hR : RW I w.1 V) (hV : WV V) (hp : 0 ≤ p ∧ p ≤ 400) (hA : ¬ am_and tw 1 = 0 ↔ A) (hB : ¬ am_and tw 2 = 0 ↔ B) (ho : o = 0 ∨ o = 1) (hS : lvS (lvE V k o A B) s (I 89)) (hp2 : I 89 p < 1000000) {Q : Option am_V → am_H → Prop} (q : ∀ I' b, lvI (lvE V k o A B) s I I' b → (∀ q x, lvE V k o A B p q x → I' 89 q ≤ I 89 p + x) → Q (some (vI b)) (mkH w I' L)) : am_Sp (d + 1) 23 [vR (some 88), vR (some w.1), vI k, vI p, vI tw, vI o] (mkH w I L) Q := by
  have h12 := hV.1.2.1
  obtain ⟨n, hn⟩ : ∃ n : Nat, V 0 1 = n := ⟨(V 0 1).toNat, by omega⟩
  have hle := isW_le hw
  have pb := hS p hp.1 hp.2
  rw [S23]
  refine am_loop (α := Int × (Nat → Int → Int) × Option am_V) n (fun i x => am_WP (d + 1) 23 6 [some (vR (some 88)), some (vR (some w.1)), some (vI k), some (vI p), some (vI tw), some (vI o), some (vI x.1), some (vI (i : Int)), x.2.2] [] (mkH w x.2.1 L) Q) (fun i x => lvI (lvE V k o A B) s I x.2.1 x.1 ∧ x.2.1 89 p = I 89 p ∧ ∀ e : Int, 0 ≤ e → e < i → V 6 e = k → (A → 0 ≤ p + V 7 e → p + V 7 e ≤ 400 → x.2.1 89 (p + V 7 e) ≤ I 89 p + lvC V o e) ∧ (B → 0 ≤ p - V 7 e → p - V 7 e ≤ 400 → x.2.1 89 (p - V 7 e) ≤ I 89 p + lvC V o e)) ?_ ?_ 0 (0, I, none) (Nat.zero_le _) ⟨lvI.rf hS, rfl, fun e h0 h1 => by omega⟩
  · rintro i ⟨b, I1, l8⟩ hi ⟨v1, v2, v3⟩ ih
    dsimp only at v1 v2 v3 ⊢
    have hR1 : RW I1 w.1 V := hR.fr (fun q _ x => v1.2.2.1 q (by omega))
    have vi := hR1.2.2.1 i (by omega) (by omega)
    have wi := hV.2.2.1 i (by omega) (by omega)
    have cb := lvC_b (o := o) hV (e := (i : Int)) (by omega) (by omega)
    rw [B23_6]
    by_cases c6 : V 6 i = k
    · have fin : ∀ I3 b3, lvI (lvE V k o A B) s I I3 b3 → I3 89 p = I 89 p → (∀ q, I3 89 q ≤ I1 89 q) → (A → 0 ≤ p + V 7 i → p + V 7 i ≤ 400 → I3 89 (p + V 7 i) ≤ I 89 p + lvC V o i) → (B → 0 ≤ p - V 7 i → p - V 7 i ≤ 400 → I3 89 (p - V 7 i) ≤ I 89 p + lvC V o i) → am_WP (d + 1) 23 110 [some (vR (some 88)), some (vR (some w.1)), some (vI k), some (vI p), some (vI tw), some (vI o), some (vI b3), some (vI (i : Int)), some (vI (I 89 p + lvC V o i))] [] (mkH w I3 L) Q := by
        intro I3 b3 t1 t2 t3 t4 t5
        rw [B23_110]
        have z := ih (b3, I3, some (vI (I 89 p + lvC V o i))) ⟨t1, t2, fun e e0 e1 e6 => by
          by_cases ei : e = i
          · subst ei; exact ⟨t4, t5⟩
          · have := v3 e e0 (by omega) e6
            exact ⟨fun y y0 y1 => Int.le_trans (t3 _) (this.1 y y0 y1), fun y y0 y1 => Int.le_trans (t3 _) (this.2 y y0 y1)⟩⟩
        first | (simp (disch := omega) only [GA, GR, GRc, GO, GI, GL, GV, am_w_i, am_ga, am_it, am_if, true_and, and_true, or_true, true_or, ne_eq, not_false_eq_true, not_true_eq_false, false_imp_iff, true_imp_iff, Int.reduceEq, Int.reduceLT, Int.reduceLE, Int.reduceAdd, Int.reduceSub, Int.reduceMul, Int.reduceNeg]; exact z) | simp (disch := omega) only [z, GA, GR, GRc, GO, GI, GL, GV, am_w_i, am_ga, am_it, am_if, true_and, and_true, or_true, true_or, ne_eq, not_false_eq_true, not_true_eq_false, false_imp_iff, true_imp_iff, Int.reduceEq, Int.reduceLT, Int.reduceLE, Int.reduceAdd, Int.reduceSub, Int.reduceMul, Int.reduceNeg]
      have k82 : ∀ I2 b2, lvI (lvE V k o A B) s I I2 b2 → I2 89 p = I 89 p → (∀ q, I2 89 q ≤ I1 89 q) → (A → 0 ≤ p + V 7 i → p + V 7 i ≤ 400 → I2 89 (p + V 7 i) ≤ I 89 p + lvC V o i) → am_WP (d + 1) 23 82 [some (vR (some 88)), some (vR (some w.1)), some (vI k), some (vI p), some (vI tw), some (vI o), some (vI b2), some (vI (i : Int)), some (vI (I 89 p + lvC V o i))] [] (mkH w I2 L) Q := by
        intro I2 b2 u1 u2 u3 u4
        have hR2 : RW I2 w.1 V := hR.fr (fun q _ x => u1.2.2.1 q (by omega))
        have vi2 := hR2.2.2.1 i (by omega) (by omega)
        rw [B23_82]
        by_cases hb : am_and tw 2 = 0
        · have z := fin I2 b2 u1 u2 u3 u4 (fun y => absurd hb (hB.2 y))
          first | (simp (disch := omega) only [hb, GA, GR, GRc, GO, GI, GL, GV, am_w_i, am_ga, am_it, am_if, true_and, and_true, or_true, true_or, ne_eq, not_false_eq_true, not_true_eq_false, false_imp_iff, true_imp_iff, Int.reduceEq, Int.reduceLT, Int.reduceLE, Int.reduceAdd, Int.reduceSub, Int.reduceMul, Int.reduceNeg]; exact z) | simp (disch := omega) only [hb, z, GA, GR, GRc, GO, GI, GL, GV, am_w_i, am_ga, am_it, am_if, true_and, and_true, or_true, true_or, ne_eq, not_false_eq_true, not_true_eq_false, false_imp_iff, true_imp_iff, Int.reduceEq, Int.reduceLT, Int.reduceLE, Int.reduceAdd, Int.reduceSub, Int.reduceMul, Int.reduceNeg]
        · have st := u1.st (p := p - V 7 i) (x := I 89 p + lvC V o i) (by omega) (fun y0 y1 => by
            obtain ⟨m, hm⟩ := pb.2 hp2
            exact ⟨m + 1, lvW_s hm ⟨hp, ⟨y0, y1⟩, i, ⟨by omega, by omega⟩, c6, rfl, Or.inr ⟨hB.1 hb, rfl⟩⟩⟩)
          have z := fin _ _ st (by rw [lvL_k (by omega)]; exact u2) (fun q => Int.le_trans (lvL_m q) (u3 q)) (fun y y0 y1 => Int.le_trans (lvL_m _) (u4 y y0 y1)) (fun _ y0 y1 => lvL_x y0 y1)
          by_cases hl : lvB I2 (p - V 7 i) (I 89 p + lvC V o i) = 0
          · rw [if_pos hl] at z
            first | (simp (disch := omega) only [hb, HW hw, vi2.2.2.1, KV, s24, hl, GA, GR, GRc, GO, GI, GL, GV, am_w_i, am_ga, am_it, am_if, true_and, and_true, or_true, true_or, ne_eq, not_false_eq_true, not_true_eq_false, false_imp_iff, true_imp_iff, Int.reduceEq, Int.reduceLT, Int.reduceLE, Int.reduceAdd, Int.reduceSub, Int.reduceMul, Int.reduceNeg]; exact z) | simp (disch := omega) only [hb, HW hw, vi2.2.2.1, KV, s24, hl, z, GA, GR, GRc, GO, GI, GL, GV, am_w_i, am_ga, am_it, am_if, true_and, and_true, or_true, true_or, ne_eq, not_false_eq_true, not_true_eq_false, false_imp_iff, true_imp_iff, Int.reduceEq, Int.reduceLT, Int.reduceLE, Int.reduceAdd, Int.reduceSub, Int.reduceMul, Int.reduceNeg]
          · rw [if_neg hl] at z
            first | (simp (disch := omega) only [hb, HW hw, vi2.2.2.1, KV, s24, hl, GA, GR, GRc, GO, GI, GL, GV, am_w_i, am_ga, am_it, am_if, true_and, and_true, or_true, true_or, ne_eq, not_false_eq_true, not_true_eq_false, false_imp_iff, true_imp_iff, Int.reduceEq, Int.reduceLT, Int.reduceLE, Int.reduceAdd, Int.reduceSub, Int.reduceMul, Int.reduceNeg]; exact z) | simp (disch := omega) only [hb, HW hw, vi2.2.2.1, KV, s24, hl, z, GA, GR, GRc, GO, GI, GL, GV, am_w_i, am_ga, am_it, am_if, true_and, and_true, or_true, true_or, ne_eq, not_false_eq_true, not_true_eq_false, false_imp_iff, true_imp_iff, Int.reduceEq, Int.reduceLT, Int.reduceLE, Int.reduceAdd, Int.reduceSub, Int.reduceMul, Int.reduceNeg]
      have k51 : am_WP (d + 1) 23 51 [some (vR (some 88)), some (vR (some w.1)), some (vI k), some (vI p), some (vI tw), some (vI o), some (vI b), some (vI (i : Int)), l8] [vI (lvC V o i), vI (I 89 p)] (mkH w I1 L) Q := by
        rw [B23_51]
        by_cases hb : am_and tw 1 = 0
        · have z := k82 I1 b v1 v2 (fun _ => Int.le_refl _) (fun y => absurd hb (hA.2 y))
          first | (simp (disch := omega) only [hb, GA, GR, GRc, GO, GI, GL, GV, am_w_i, am_ga, am_it, am_if, true_and, and_true, or_true, true_or, ne_eq, not_false_eq_true, not_true_eq_false, false_imp_iff, true_imp_iff, Int.reduceEq, Int.reduceLT, Int.reduceLE, Int.reduceAdd, Int.reduceSub, Int.reduceMul, Int.reduceNeg]; exact z) | simp (disch := omega) only [hb, z, GA, GR, GRc, GO, GI, GL, GV, am_w_i, am_ga, am_it, am_if, true_and, and_true, or_true, true_or, ne_eq, not_false_eq_true, not_true_eq_false, false_imp_iff, true_imp_iff, Int.reduceEq, Int.reduceLT, Int.reduceLE, Int.reduceAdd, Int.reduceSub, Int.reduceMul, Int.reduceNeg]
        · have st := v1.st (p := p + V 7 i) (x := I 89 p + lvC V o i) (by omega) (fun y0 y1 => by
            obtain ⟨m, hm⟩ := pb.2 hp2
            exact ⟨m + 1, lvW_s hm ⟨hp, ⟨y0, y1⟩, i, ⟨by omega, by omega⟩, c6, rfl, Or.inl ⟨hA.1 hb, rfl⟩⟩⟩)
          have z := k82 _ _ st (by rw [lvL_k (by omega)]; exact v2) (fun q => lvL_m q) (fun _ y0 y1 => lvL_x y0 y1)
          by_cases hl : lvB I1 (p + V 7 i) (I 89 p + lvC V o i) = 0
          · rw [if_pos hl] at z
            first | (simp (disch := omega) only [hb, HW hw, vi.2.2.1, KV, s24, hl, GA, GR, GRc, GO, GI, GL, GV, am_w_i, am_ga, am_it, am_if, true_and, and_true, or_true, true_or, ne_eq, not_false_eq_true, not_true_eq_false, false_imp_iff, true_imp_iff, Int.reduceEq, Int.reduceLT, Int.reduceLE, Int.reduceAdd, Int.reduceSub, Int.reduceMul, Int.reduceNeg]; exact z) | simp (disch := omega) only [hb, HW hw, vi.2.2.1, KV, s24, hl, z, GA, GR, GRc, GO, GI, GL, GV, am_w_i, am_ga, am_it, am_if, true_and, and_true, or_true, true_or, ne_eq, not_false_eq_true, not_true_eq_false, false_imp_iff, true_imp_iff, Int.reduceEq, Int.reduceLT, Int.reduceLE, Int.reduceAdd, Int.reduceSub, Int.reduceMul, Int.reduceNeg]
          · rw [if_neg hl] at z
            first | (simp (disch := omega) only [hb, HW hw, vi.2.2.1, KV, s24, hl, GA, GR, GRc, GO, GI, GL, GV, am_w_i, am_ga, am_it, am_if, true_and, and_true, or_true, true_or, ne_eq, not_false_eq_true, not_true_eq_false, false_imp_iff, true_imp_iff, Int.reduceEq, Int.reduceLT, Int.reduceLE, Int.reduceAdd, Int.reduceSub, Int.reduceMul, Int.reduceNeg]; exact z) | simp (disch := omega) only [hb, HW hw, vi.2.2.1, KV, s24, hl, z, GA, GR, GRc, GO, GI, GL, GV, am_w_i, am_ga, am_it, am_if, true_and, and_true, or_true, true_or, ne_eq, not_false_eq_true, not_true_eq_false, false_imp_iff, true_imp_iff, Int.reduceEq, Int.reduceLT, Int.reduceLE, Int.reduceAdd, Int.reduceSub, Int.reduceMul, Int.reduceNeg]
      unfold lvC at k51
      rcases ho with e | e
      · subst e
        rw [if_pos rfl] at k51
        have z := k51
        first | (simp (disch := omega) only [HW hw, hR1.1.2.1, hn, vi.2.1, c6, KV, v2, vi.2.2.2.1, GA, GR, GRc, GO, GI, GL, GV, am_w_i, am_ga, am_it, am_if, true_and, and_true, or_true, true_or, ne_eq, not_false_eq_true, not_true_eq_false, false_imp_iff, true_imp_iff, Int.reduceEq, Int.reduceLT, Int.reduceLE, Int.reduceAdd, Int.reduceSub, Int.reduceMul, Int.reduceNeg]; exact z) | simp (disch := omega) only [HW hw, hR1.1.2.1, hn, vi.2.1, c6, KV, v2, vi.2.2.2.1, z, GA, GR, GRc, GO, GI, GL, GV, am_w_i, am_ga, am_it, am_if, true_and, and_true, or_true, true_or, ne_eq, not_false_eq_true, not_true_eq_false, false_imp_iff, true_imp_iff, Int.reduceEq, Int.reduceLT, Int.reduceLE, Int.reduceAdd, Int.reduceSub, Int.reduceMul, Int.reduceNeg]
      · subst e
        rw [if_neg (by decide)] at k51
        have z := k51
        first | (simp (disch := omega) only [HW hw, hR1.1.2.1, hn, vi.2.1, c6, KV, v2, GA, GR, GRc, GO, GI, GL, GV, am_w_i, am_ga, am_it, am_if, true_and, and_true, or_true, true_or, ne_eq, not_false_eq_true, not_true_eq_false, false_imp_iff, true_imp_iff, Int.reduceEq, Int.reduceLT, Int.reduceLE, Int.reduceAdd, Int.reduceSub, Int.reduceMul, Int.reduceNeg]; exact z) | simp (disch := omega) only [HW hw, hR1.1.2.1, hn, vi.2.1, c6, KV, v2, z, GA, GR, GRc, GO, GI, GL, GV, am_w_i, am_ga, am_it, am_if, true_and, and_true, or_true, true_or, ne_eq, not_false_eq_true, not_true_eq_false, false_imp_iff, true_imp_iff, Int.reduceEq, Int.reduceLT, Int.reduceLE, Int.reduceAdd, Int.reduceSub, Int.reduceMul, Int.reduceNeg]
    · have z := ih (b, I1, l8) ⟨v1, v2, fun e e0 e1 e6 => by
        by_cases ei : e = i
        · subst ei; exact absurd e6 c6
        · exact v3 e e0 (by omega) e6⟩
      first | (simp (disch := omega) only [HW hw, hR1.1.2.1, hn, vi.2.1, c6, B23_110, GA, GR, GRc, GO, GI, GL, GV, am_w_i, am_ga, am_it, am_if, true_and, and_true, or_true, true_or, ne_eq, not_false_eq_true, not_true_eq_false, false_imp_iff, true_imp_iff, Int.reduceEq, Int.reduceLT, Int.reduceLE, Int.reduceAdd, Int.reduceSub, Int.reduceMul, Int.reduceNeg]; exact z) | simp (disch := omega) only [HW hw, hR1.1.2.1, hn, vi.2.1, c6, B23_110, z, GA, GR, GRc, GO, GI, GL, GV, am_w_i, am_ga, am_it, am_if, true_and, and_true, or_true, true_or, ne_eq, not_false_eq_true, not_true_eq_false, false_imp_iff, true_imp_iff, Int.reduceEq, Int.reduceLT, Int.reduceLE, Int.reduceAdd, Int.reduceSub, Int.reduceMul, Int.reduceNeg]
  · rintro ⟨b, I1, l8⟩ ⟨v1, v2, v3⟩
    dsimp only at v1 v2 v3 ⊢
    have hR1 : RW I1 w.1 V := hR.fr (fun q _ x => v1.2.2.1 q (by omega))
    rw [B23_6]
    have z := q I1 b v1 (fun q x he => by
      obtain ⟨-, q0, e, e0, e6, rfl, h | h⟩ := he
      · rw [h.2] at q0 ⊢; exact (v3 e e0.1 (by omega) e6).1 h.1 q0.1 q0.2
      · rw [h.2] at q0 ⊢; exact (v3 e e0.1 (by omega) e6).2 h.1 q0.1 q0.2)
    have vb := v1.1
    first | (simp (disch := omega) only [HW hw, hR1.1.2.1, hn, vb, GA, GR, GRc, GO, GI, GL, GV, am_w_i, am_ga, am_it, am_if, true_and, and_true, or_true, true_or, ne_eq, not_false_eq_true, not_true_eq_false, false_imp_iff, true_imp_iff, Int.reduceEq, Int.reduceLT, Int.reduceLE, Int.reduceAdd, Int.reduceSub, Int.reduceMul, Int.reduceNeg]; exact z) | simp (disch := omega) only [HW hw, hR1.1.2.1, hn, vb, z, GA, GR, GRc, GO, GI, GL, GV, am_w_i, am_ga, am_it, am_if, true_and, and_true, or_true, true_or, ne_eq, not_false_eq_true, not_true_eq_false, false_imp_iff, true_imp_iff, Int.reduceEq, Int.reduceLT, Int.reduceLE, Int.reduceAdd, Int.reduceSub, Int.reduceMul, Int.reduceNeg]
