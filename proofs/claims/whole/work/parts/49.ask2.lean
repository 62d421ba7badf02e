/-! 49: apart, ahead, nextLevel, nextOut, nearest -/
theorem QF.g {I I' : (Nat → Int → Int)} (g : ∀ a, a ≠ 99 → I' a = I a) (f : ∀ j, j ≠ 53 → I' 99 j = I 99 j) : QF I I' := ⟨fun a x _ => g a x, fun j _ y _ => f j y, ⟨fun _ _ _ => by rw [g 127 (by decide)], fun _ _ _ => by rw [g 128 (by decide)], fun _ _ _ => by rw [g 129 (by decide)], by rw [g 130 (by decide)], by rw [g 131 (by decide)]⟩⟩
theorem s101 {d : Nat} {w : Nat × Nat × Nat × Nat} {I L : Nat → Int → Int} {V σ : (Nat → Int → Int)} {lw : (Int → (Int → Int) → Int)} (G : GC V lw σ w I L) {Q : Option am_V → am_H → Prop} (q : ∀ w' I' L', QR w I L w' I' L' → Q (some (vI (px_dist V lw (FT 1) σ (V 0 0).toNat))) (mkH w' I' L')) : am_Sp (d + 5) 101 [vR (some 0)] (mkH w I L) Q := by
  obtain ⟨C, R, T⟩ := G.tk 1
  obtain ⟨⟨hw, hR, hL, hV, hM, hN⟩, rS, mS, wS, ny, ct⟩ := id G
  have h6 := hV.1.1
  rw [S101]
  simp (disch := omega) only [KX, KC, s1, GA, GR, GRc, GO, GI, GL, GV, am_w_i, am_ga, am_it, am_if, true_and, and_true, or_true, true_or, ne_eq, not_false_eq_true, not_true_eq_false, false_imp_iff, true_imp_iff, Int.reduceEq, Int.reduceLT, Int.reduceLE, Int.reduceAdd, Int.reduceSub, Int.reduceMul, Int.reduceNeg]
  refine s5 C (Or.inl rfl) R wS (n := (V 0 0).toNat) (by omega) (fun L' l => ?_)
  simp (disch := omega) only [GA, GR, GRc, GO, GI, GL, GV, am_w_i, am_ga, am_it, am_if, true_and, and_true, or_true, true_or, ne_eq, not_false_eq_true, not_true_eq_false, false_imp_iff, true_imp_iff, Int.reduceEq, Int.reduceLT, Int.reduceLE, Int.reduceAdd, Int.reduceSub, Int.reduceMul, Int.reduceNeg]
  exact q _ _ _ ⟨⟨rfl, rfl, rfl⟩, QF.cl (fun a ha => cz_tk_a (by omega)), QL.lf l⟩
theorem m_apart {d : Nat} {w : (Nat × Nat × Nat × Nat)} {V σ I L : (Nat → Int → Int)} {lw : (Int → (Int → Int) → Int)} (G : GC V lw σ w I L) {Q : Option am_V → am_H → Prop} (q : ∀ I' L', QR w I L w I' L' → MC I' V lw (FT 1) → Q (some (vI (px_dist V lw (FT 1) σ (V 0 0).toNat))) (mkH w I' L')) : am_Sp (d + 5) 210 [vR (some 99), vI 0] (mkH w (cz_pl I) L) Q := by
  obtain ⟨⟨hw, hR, hL, hV, hM, hN⟩, rS, mS, wS, ny, ct⟩ := id G
  have h6 := hV.1.1
  refine s210 (MC.pl hM hN hV) (Or.inl rfl) mS.pl wS (n := (V 0 0).toNat) (by omega) (fun I' L' r f g l => ?_)
  exact q _ _ ⟨⟨rfl, rfl, rfl⟩, QF.pl.tr (QF.g g f.2.1), QL.ln l⟩ ((MC.pl hM hN hV).fr f)
theorem q_apart {V σ : (Nat → Int → Int)} {lw : (Int → (Int → Int) → Int)} : P2 (GC V lw σ) 101 227 [] := by
  refine ⟨vI (px_dist V lw (FT 1) σ (V 0 0).toNat), fun w I L G d Q q => s101 G q, fun w I L G d Q q => ?_⟩
  rw [S227]
  simp (disch := omega) only [Kk, B227_5, s197, GA, GR, GRc, GO, GI, GL, GV, am_w_i, am_ga, am_it, am_if, true_and, and_true, or_true, true_or, ne_eq, not_false_eq_true, not_true_eq_false, false_imp_iff, true_imp_iff, Int.reduceEq, Int.reduceLT, Int.reduceLE, Int.reduceAdd, Int.reduceSub, Int.reduceMul, Int.reduceNeg]
  refine m_apart G.t (fun I' L' r _ => ?_)
  simp (disch := omega) only [GA, GR, GRc, GO, GI, GL, GV, am_w_i, am_ga, am_it, am_if, true_and, and_true, or_true, true_or, ne_eq, not_false_eq_true, not_true_eq_false, false_imp_iff, true_imp_iff, Int.reduceEq, Int.reduceLT, Int.reduceLE, Int.reduceAdd, Int.reduceSub, Int.reduceMul, Int.reduceNeg]
  exact q _ _ (QR.t.tr r)
theorem q_ahead {V σ : (Nat → Int → Int)} {lw : (Int → (Int → Int) → Int)} {a b t : Int} : P2 (GC V lw σ) 109 233 [vI a, vI b, vI t] := by
  by_cases c1 : 0 ≤ a ∧ a ≤ 200
  · by_cases c2 : 0 ≤ b ∧ b ≤ 4
    · by_cases c3 : (b = 2 ∨ b = 3) → (t = 0 ∨ t = 1)
      · obtain ⟨m, hm⟩ : ∃ m : Nat, a = m := ⟨a.toNat, by omega⟩
        subst hm
        have hc : ∀ (w : (Nat × Nat × Nat × Nat)) (I L : (Nat → Int → Int)), GC V lw σ w I L → ∀ (d : Nat) (Q : Option am_V → am_H → Prop), (∀ w' I' L', CL V lw (FT 1) (px_days V lw (FT 1) m σ) w I L w' I' L' → (b = 0 → Q (some (vI (px_dist V lw (FT 1) (px_days V lw (FT 1) m σ) (V 0 0).toNat))) (mkH w' I' L')) ∧ (b = 1 → Q (some (vI (px_days V lw (FT 1) m σ 0 4 - σ 0 4))) (mkH w' I' L')) ∧ (b = 2 → Q (some (vI (px_days V lw (FT 1) m σ 2 t))) (mkH w' I' L')) ∧ (b = 3 → Q (some (vI (px_hap (px_days V lw (FT 1) m σ) t (V 0 0).toNat))) (mkH w' I' L')) ∧ (b = 4 → Q (some (vI (px_cnt (px_days V lw (FT 1) m σ 3) 1 (V 0 2).toNat - px_cnt (σ 3) 1 (V 0 2).toNat))) (mkH w' I' L'))) → am_Sp (d + 20) 109 [vR (some 0), vI (m : Int), vI b, vI t] (mkH w I L) Q := by
          intro w I L G d Q q
          have G0 := G
          obtain ⟨⟨hw, hR, hL, hV, hM, hN⟩, rS, mS, wS, ny, ct⟩ := id G
          have h6 := hV.1.1
          have h12 := hV.1.2.2
          have main : ∀ l4 : Int, am_WP (d + 20) 109 52 [some (vR (some 0)), some (vI (m : Int)), some (vI b), some (vI t), some (vI l4)] [] (mkH w I L) Q := by
            intro l4
            rw [B109_52]
            simp (disch := omega) only [KX, GA, GR, GRc, GO, GI, GL, GV, am_w_i, am_ga, am_it, am_if, true_and, and_true, or_true, true_or, ne_eq, not_false_eq_true, not_true_eq_false, false_imp_iff, true_imp_iff, Int.reduceEq, Int.reduceLT, Int.reduceLE, Int.reduceAdd, Int.reduceSub, Int.reduceMul, Int.reduceNeg]
            refine s108 G0 (fun w' I' l => ?_)
            simp (disch := omega) only [KX, KC, GA, GR, GRc, GO, GI, GL, GV, am_w_i, am_ga, am_it, am_if, true_and, and_true, or_true, true_or, ne_eq, not_false_eq_true, not_true_eq_false, false_imp_iff, true_imp_iff, Int.reduceEq, Int.reduceLT, Int.reduceLE, Int.reduceAdd, Int.reduceSub, Int.reduceMul, Int.reduceNeg]
            refine CL.days l wS (by omega) (fun I2 L2 l2 => ?_)
            have W2 := wS.days (lw := lw) (F := FT 1) hV FT_WF m (by omega)
            have lv := W2.2.2.1
            have lv2 := W2.2.2.2.1
            have lv3 := wS.2.2.1
            have lv4 := wS.2.2.2.1
            have z := q _ _ _ l2
            have G2 := G0.q l2.qr
            have r2 : RS I2 55 (px_days V lw (FT 1) m σ) := l2.2.2.1
            have t2 := l2.2.2.2.1
            have w2 := l2.1
            subst w2
            rcases (show b = 0 ∨ b = 1 ∨ b = 2 ∨ b = 3 ∨ b = 4 by omega) with e | e | e | e | e
            · subst e
              simp (disch := omega) only [KX, KC, GA, GR, GRc, GO, GI, GL, GV, am_w_i, am_ga, am_it, am_if, true_and, and_true, or_true, true_or, ne_eq, not_false_eq_true, not_true_eq_false, false_imp_iff, true_imp_iff, Int.reduceEq, Int.reduceLT, Int.reduceLE, Int.reduceAdd, Int.reduceSub, Int.reduceMul, Int.reduceNeg]
              refine CL.dist l2 W2 (fun L3 l3 => ?_)
              simp (disch := omega) only [GA, GR, GRc, GO, GI, GL, GV, am_w_i, am_ga, am_it, am_if, true_and, and_true, or_true, true_or, ne_eq, not_false_eq_true, not_true_eq_false, false_imp_iff, true_imp_iff, Int.reduceEq, Int.reduceLT, Int.reduceLE, Int.reduceAdd, Int.reduceSub, Int.reduceMul, Int.reduceNeg]
              exact (q _ _ _ l3).1 rfl
            · subst e
              simp (disch := omega) only [KX, HS (show isS 55 from Or.inr (Or.inl rfl)), HS (show isS 51 from Or.inl rfl), r2.2.2.2.2.1, G2.2.1.2.2.2.2.1, GA, GR, GRc, GO, GI, GL, GV, am_w_i, am_ga, am_it, am_if, true_and, and_true, or_true, true_or, ne_eq, not_false_eq_true, not_true_eq_false, false_imp_iff, true_imp_iff, Int.reduceEq, Int.reduceLT, Int.reduceLE, Int.reduceAdd, Int.reduceSub, Int.reduceMul, Int.reduceNeg]
              exact z.2.1 rfl
            · subst e
              have ct := c3 (Or.inl rfl)
              simp (disch := omega) only [KX, HS (show isS 55 from Or.inr (Or.inl rfl)), r2.2.1 t (by omega) (by omega), GA, GR, GRc, GO, GI, GL, GV, am_w_i, am_ga, am_it, am_if, true_and, and_true, or_true, true_or, ne_eq, not_false_eq_true, not_true_eq_false, false_imp_iff, true_imp_iff, Int.reduceEq, Int.reduceLT, Int.reduceLE, Int.reduceAdd, Int.reduceSub, Int.reduceMul, Int.reduceNeg]
              exact z.2.2.1 rfl
            · subst e
              have ct := c3 (Or.inr rfl)
              have hn : V 0 0 = ((V 0 0).toNat : Int) := by omega
              have g1 : I2 w.1 0 = V 0 0 := G2.1.2.1.1.1
              simp (disch := omega) only [KX, HW hw, HS (show isS 55 from Or.inr (Or.inl rfl)), g1, GA, GR, GRc, GO, GI, GL, GV, am_w_i, am_ga, am_it, am_if, true_and, and_true, or_true, true_or, ne_eq, not_false_eq_true, not_true_eq_false, false_imp_iff, true_imp_iff, Int.reduceEq, Int.reduceLT, Int.reduceLE, Int.reduceAdd, Int.reduceSub, Int.reduceMul, Int.reduceNeg]
              have sp := fun Q' => s64 (d := d + 18) (w := (w.1, w.2.1, w.2.2.1, w.1)) (I := I2) (L := L2) (s := 55) (n := (V 0 0).toNat) (t := t) (Or.inr (Or.inl rfl)) (by omega) (by omega) (r2.bA W2.1) Q'
              rw [← hn] at sp
              simp (disch := omega) only [sp, r2.hap (n := (V 0 0).toNat) (t := t) (by omega) (by omega), GA, GR, GRc, GO, GI, GL, GV, am_w_i, am_ga, am_it, am_if, true_and, and_true, or_true, true_or, ne_eq, not_false_eq_true, not_true_eq_false, false_imp_iff, true_imp_iff, Int.reduceEq, Int.reduceLT, Int.reduceLE, Int.reduceAdd, Int.reduceSub, Int.reduceMul, Int.reduceNeg]
              exact z.2.2.2.1 rfl
            · subst e
              have k1 := px_cnt_b (px_days V lw (FT 1) m σ 3) 1 (V 0 2).toNat
              have k2 := px_cnt_b (σ 3) 1 (V 0 2).toNat
              have y1 : I2 55 5 = px_cnt (px_days V lw (FT 1) m σ 3) 1 (V 0 2).toNat := by rw [t2.1]; exact r2.cnt (by omega)
              have y2 : I2 51 5 = px_cnt (σ 3) 1 (V 0 2).toNat := by rw [G2.2.2.2.2.2.1]; exact G2.2.1.cnt (by omega)
              simp (disch := omega) only [KX, HS (show isS 55 from Or.inr (Or.inl rfl)), HS (show isS 51 from Or.inl rfl), y1, y2, GA, GR, GRc, GO, GI, GL, GV, am_w_i, am_ga, am_it, am_if, true_and, and_true, or_true, true_or, ne_eq, not_false_eq_true, not_true_eq_false, false_imp_iff, true_imp_iff, Int.reduceEq, Int.reduceLT, Int.reduceLE, Int.reduceAdd, Int.reduceSub, Int.reduceMul, Int.reduceNeg]
              exact z.2.2.2.2 rfl
          rw [S109]
          rcases (show b = 2 ∨ b = 3 ∨ (b ≠ 2 ∧ b ≠ 3) by omega) with e | e | e
          · have ct := c3 (Or.inl e)
            simp (disch := omega) only [e, B109_10, B109_15, s96, s95, c1, ct, if_true, GA, GR, GRc, GO, GI, GL, GV, am_w_i, am_ga, am_it, am_if, true_and, and_true, or_true, true_or, ne_eq, not_false_eq_true, not_true_eq_false, false_imp_iff, true_imp_iff, Int.reduceEq, Int.reduceLT, Int.reduceLE, Int.reduceAdd, Int.reduceSub, Int.reduceMul, Int.reduceNeg]
            rw [e] at main; exact main _
          · have ct := c3 (Or.inr e)
            simp (disch := omega) only [e, B109_10, B109_15, s96, s95, c1, ct, if_true, GA, GR, GRc, GO, GI, GL, GV, am_w_i, am_ga, am_it, am_if, true_and, and_true, or_true, true_or, ne_eq, not_false_eq_true, not_true_eq_false, false_imp_iff, true_imp_iff, Int.reduceEq, Int.reduceLT, Int.reduceLE, Int.reduceAdd, Int.reduceSub, Int.reduceMul, Int.reduceNeg]
            rw [e] at main; exact main _
          · simp (disch := omega) only [e, B109_10, B109_15, s96, c1, c2, if_true, GA, GR, GRc, GO, GI, GL, GV, am_w_i, am_ga, am_it, am_if, true_and, and_true, or_true, true_or, ne_eq, not_false_eq_true, not_true_eq_false, false_imp_iff, true_imp_iff, Int.reduceEq, Int.reduceLT, Int.reduceLE, Int.reduceAdd, Int.reduceSub, Int.reduceMul, Int.reduceNeg]
            exact main _
        have hmod : ∀ (w : (Nat × Nat × Nat × Nat)) (I L : (Nat → Int → Int)), GC V lw σ w I L → ∀ (d : Nat) (Q : Option am_V → am_H → Prop), (∀ I' L', MA V lw (FT 1) (px_days V lw (FT 1) m σ) (am_up I 99 2 0) L I' L' → (b = 0 → Q (some (vI (px_dist V lw (FT 1) (px_days V lw (FT 1) m σ) (V 0 0).toNat))) (mkH w I' L')) ∧ (b = 1 → Q (some (vI (px_days V lw (FT 1) m σ 0 4 - σ 0 4))) (mkH w I' L')) ∧ (b = 2 → Q (some (vI (px_days V lw (FT 1) m σ 2 t))) (mkH w I' L')) ∧ (b = 3 → Q (some (vI (px_hap (px_days V lw (FT 1) m σ) t (V 0 0).toNat))) (mkH w I' L')) ∧ (b = 4 → Q (some (vI (px_cnt (px_days V lw (FT 1) m σ 3) 1 (V 0 2).toNat - px_cnt (σ 3) 1 (V 0 2).toNat))) (mkH w I' L'))) → am_Sp (d + 20) 233 [vR (some 99), vI (m : Int), vI b, vI t] (mkH w I L) Q := by
          intro w I L G d Q q
          have G1 := G.t (v := 0)
          obtain ⟨⟨hw, hR, hL, hV, hM, hN⟩, rS, mS, wS, ny, ct⟩ := id G
          have h6 := hV.1.1
          have h12 := hV.1.2.2
          have main : am_WP (d + 20) 233 46 [some (vR (some 99)), some (vI (m : Int)), some (vI b), some (vI t)] [] (mkH w (am_up I 99 2 0) L) Q := by
            rw [B233_46]
            simp (disch := omega) only [Kk, s198, GA, GR, GRc, GO, GI, GL, GV, am_w_i, am_ga, am_it, am_if, true_and, and_true, or_true, true_or, ne_eq, not_false_eq_true, not_true_eq_false, false_imp_iff, true_imp_iff, Int.reduceEq, Int.reduceLT, Int.reduceLE, Int.reduceAdd, Int.reduceSub, Int.reduceMul, Int.reduceNeg]
            refine MA.days G1.lt wS (by omega) (fun I2 L2 l2 => ?_)
            have W2 := wS.days (lw := lw) (F := FT 1) hV FT_WF m (by omega)
            have lv := W2.2.2.1
            have lv2 := W2.2.2.2.1
            have lv3 := wS.2.2.1
            have lv4 := wS.2.2.2.1
            have z := q _ _ l2
            have e8 : px_days V lw (FT 1) m σ 0 8 = L 99 59 := by rw [px_days_8 (by unfold FT; simp)]; exact mS.2.2.2.2.2.symm
            have G2 := G1.q (l2.qr e8)
            have r2 := l2.2.1
            rcases (show b = 0 ∨ b = 1 ∨ b = 2 ∨ b = 3 ∨ b = 4 by omega) with e | e | e | e | e
            · subst e
              simp (disch := omega) only [Kk, GA, GR, GRc, GO, GI, GL, GV, am_w_i, am_ga, am_it, am_if, true_and, and_true, or_true, true_or, ne_eq, not_false_eq_true, not_true_eq_false, false_imp_iff, true_imp_iff, Int.reduceEq, Int.reduceLT, Int.reduceLE, Int.reduceAdd, Int.reduceSub, Int.reduceMul, Int.reduceNeg]
              refine MA.dist l2 W2 (fun I3 L3 l3 => ?_)
              simp (disch := omega) only [GA, GR, GRc, GO, GI, GL, GV, am_w_i, am_ga, am_it, am_if, true_and, and_true, or_true, true_or, ne_eq, not_false_eq_true, not_true_eq_false, false_imp_iff, true_imp_iff, Int.reduceEq, Int.reduceLT, Int.reduceLE, Int.reduceAdd, Int.reduceSub, Int.reduceMul, Int.reduceNeg]
              exact (q _ _ l3).1 rfl
            · subst e
              simp (disch := omega) only [Kk, Ks, r2.2.2.2.2.1, G2.2.2.1.2.2.2.2.1, GA, GR, GRc, GO, GI, GL, GV, am_w_i, am_ga, am_it, am_if, true_and, and_true, or_true, true_or, ne_eq, not_false_eq_true, not_true_eq_false, false_imp_iff, true_imp_iff, Int.reduceEq, Int.reduceLT, Int.reduceLE, Int.reduceAdd, Int.reduceSub, Int.reduceMul, Int.reduceNeg]
              exact z.2.1 rfl
            · subst e
              have ct := c3 (Or.inl rfl)
              have r3 : I2 128 (2 + t) = px_days V lw (FT 1) m σ 2 t := r2.2.1 t (by omega) (by omega)
              simp (disch := omega) only [Kk, Ks, r3, GA, GR, GRc, GO, GI, GL, GV, am_w_i, am_ga, am_it, am_if, true_and, and_true, or_true, true_or, ne_eq, not_false_eq_true, not_true_eq_false, false_imp_iff, true_imp_iff, Int.reduceEq, Int.reduceLT, Int.reduceLE, Int.reduceAdd, Int.reduceSub, Int.reduceMul, Int.reduceNeg]
              exact z.2.2.1 rfl
            · subst e
              have ct := c3 (Or.inr rfl)
              simp (disch := omega) only [Kk, s220 (n := (V 0 0).toNat) l2.1.1 hV (by omega) (b := 1) (Or.inr rfl) r2 W2 (t := t) (by omega), GA, GR, GRc, GO, GI, GL, GV, am_w_i, am_ga, am_it, am_if, true_and, and_true, or_true, true_or, ne_eq, not_false_eq_true, not_true_eq_false, false_imp_iff, true_imp_iff, Int.reduceEq, Int.reduceLT, Int.reduceLE, Int.reduceAdd, Int.reduceSub, Int.reduceMul, Int.reduceNeg]
              exact z.2.2.2.1 rfl
            · subst e
              have k1 := px_cnt_b (px_days V lw (FT 1) m σ 3) 1 (V 0 2).toNat
              have k2 := px_cnt_b (σ 3) 1 (V 0 2).toNat
              simp (disch := omega) only [Kk, s219 (n := (V 0 2).toNat) l2.1.1 hV (by omega) (b := 1) (Or.inr rfl) r2, s219 (n := (V 0 2).toNat) l2.1.1 hV (by omega) (b := 0) (Or.inl rfl) G2.2.2.1, GA, GR, GRc, GO, GI, GL, GV, am_w_i, am_ga, am_it, am_if, true_and, and_true, or_true, true_or, ne_eq, not_false_eq_true, not_true_eq_false, false_imp_iff, true_imp_iff, Int.reduceEq, Int.reduceLT, Int.reduceLE, Int.reduceAdd, Int.reduceSub, Int.reduceMul, Int.reduceNeg]
              exact z.2.2.2.2 rfl
          rw [S233]
          rcases (show b = 2 ∨ b = 3 ∨ (b ≠ 2 ∧ b ≠ 3) by omega) with e | e | e
          · have ct := c3 (Or.inl e)
            simp (disch := omega) only [Kk, e, B233_5, B233_35, s153, s201, c1, ct, if_true, GA, GR, GRc, GO, GI, GL, GV, am_w_i, am_ga, am_it, am_if, true_and, and_true, or_true, true_or, ne_eq, not_false_eq_true, not_true_eq_false, false_imp_iff, true_imp_iff, Int.reduceEq, Int.reduceLT, Int.reduceLE, Int.reduceAdd, Int.reduceSub, Int.reduceMul, Int.reduceNeg]
            rw [e] at main; exact main
          · have ct := c3 (Or.inr e)
            simp (disch := omega) only [Kk, e, B233_5, B233_35, s153, s201, c1, ct, if_true, GA, GR, GRc, GO, GI, GL, GV, am_w_i, am_ga, am_it, am_if, true_and, and_true, or_true, true_or, ne_eq, not_false_eq_true, not_true_eq_false, false_imp_iff, true_imp_iff, Int.reduceEq, Int.reduceLT, Int.reduceLE, Int.reduceAdd, Int.reduceSub, Int.reduceMul, Int.reduceNeg]
            rw [e] at main; exact main
          · simp (disch := omega) only [Kk, e, B233_5, s153, c1, c2, if_true, GA, GR, GRc, GO, GI, GL, GV, am_w_i, am_ga, am_it, am_if, true_and, and_true, or_true, true_or, ne_eq, not_false_eq_true, not_true_eq_false, false_imp_iff, true_imp_iff, Int.reduceEq, Int.reduceLT, Int.reduceLE, Int.reduceAdd, Int.reduceSub, Int.reduceMul, Int.reduceNeg]
            exact main
        have e8 : ∀ (w : (Nat × Nat × Nat × Nat)) (I L : (Nat → Int → Int)), GC V lw σ w I L → px_days V lw (FT 1) m σ 0 8 = L 99 59 := fun w I L G => by rw [px_days_8 (by unfold FT; simp)]; exact G.2.2.1.2.2.2.2.2.symm
        rcases (show b = 0 ∨ b = 1 ∨ b = 2 ∨ b = 3 ∨ b = 4 by omega) with e | e | e | e | e
        · exact ⟨_, fun w I L G d Q q => hc w I L G d Q (fun w' I' L' l => ⟨fun _ => q _ _ _ l.qr, fun z => by omega, fun z => by omega, fun z => by omega, fun z => by omega⟩), fun w I L G d Q q => hmod w I L G d Q (fun I' L' l => ⟨fun _ => q _ _ (QR.t.tr (l.qr (e8 w I L G))), fun z => by omega, fun z => by omega, fun z => by omega, fun z => by omega⟩)⟩
        · exact ⟨_, fun w I L G d Q q => hc w I L G d Q (fun w' I' L' l => ⟨fun z => by omega, fun _ => q _ _ _ l.qr, fun z => by omega, fun z => by omega, fun z => by omega⟩), fun w I L G d Q q => hmod w I L G d Q (fun I' L' l => ⟨fun z => by omega, fun _ => q _ _ (QR.t.tr (l.qr (e8 w I L G))), fun z => by omega, fun z => by omega, fun z => by omega⟩)⟩
        · exact ⟨_, fun w I L G d Q q => hc w I L G d Q (fun w' I' L' l => ⟨fun z => by omega, fun z => by omega, fun _ => q _ _ _ l.qr, fun z => by omega, fun z => by omega⟩), fun w I L G d Q q => hmod w I L G d Q (fun I' L' l => ⟨fun z => by omega, fun z => by omega, fun _ => q _ _ (QR.t.tr (l.qr (e8 w I L G))), fun z => by omega, fun z => by omega⟩)⟩
        · exact ⟨_, fun w I L G d Q q => hc w I L G d Q (fun w' I' L' l => ⟨fun z => by omega, fun z => by omega, fun z => by omega, fun _ => q _ _ _ l.qr, fun z => by omega⟩), fun w I L G d Q q => hmod w I L G d Q (fun I' L' l => ⟨fun z => by omega, fun z => by omega, fun z => by omega, fun _ => q _ _ (QR.t.tr (l.qr (e8 w I L G))), fun z => by omega⟩)⟩
        · exact ⟨_, fun w I L G d Q q => hc w I L G d Q (fun w' I' L' l => ⟨fun z => by omega, fun z => by omega, fun z => by omega, fun z => by omega, fun _ => q _ _ _ l.qr⟩), fun w I L G d Q q => hmod w I L G d Q (fun I' L' l => ⟨fun z => by omega, fun z => by omega, fun z => by omega, fun z => by omega, fun _ => q _ _ (QR.t.tr (l.qr (e8 w I L G)))⟩)⟩
      · have c4 : b = 2 ∨ b = 3 := Classical.not_not.mp (fun z => c3 (fun y => absurd y z))
        have c5 : ¬ (t = 0 ∨ t = 1) := fun z => c3 (fun _ => z)
        refine ⟨vI (-2147483648), fun w I L G d Q q => ?_, fun w I L G d Q q => ?_⟩
        · rw [S109]
          rcases c4 with e | e <;> (simp (disch := omega) only [e, B109_10, B109_15, s96, s95, c1, c5, B109_49, if_true, if_false, GA, GR, GRc, GO, GI, GL, GV, am_w_i, am_ga, am_it, am_if, true_and, and_true, or_true, true_or, ne_eq, not_false_eq_true, not_true_eq_false, false_imp_iff, true_imp_iff, Int.reduceEq, Int.reduceLT, Int.reduceLE, Int.reduceAdd, Int.reduceSub, Int.reduceMul, Int.reduceNeg]; exact q _ _ _ QR.rf)
        · rw [S233]
          rcases c4 with e | e <;> (simp (disch := omega) only [Kk, e, B233_5, B233_35, s153, s201, c1, c5, B233_42, if_true, if_false, GA, GR, GRc, GO, GI, GL, GV, am_w_i, am_ga, am_it, am_if, true_and, and_true, or_true, true_or, ne_eq, not_false_eq_true, not_true_eq_false, false_imp_iff, true_imp_iff, Int.reduceEq, Int.reduceLT, Int.reduceLE, Int.reduceAdd, Int.reduceSub, Int.reduceMul, Int.reduceNeg]; exact q _ _ QR.t)
    · refine ⟨vI (-2147483648), fun w I L G d Q q => ?_, fun w I L G d Q q => ?_⟩
      · rw [S109]
        simp (disch := omega) only [B109_10, B109_15, s96, c1, c2, B109_49, if_true, if_false, GA, GR, GRc, GO, GI, GL, GV, am_w_i, am_ga, am_it, am_if, true_and, and_true, or_true, true_or, ne_eq, not_false_eq_true, not_true_eq_false, false_imp_iff, true_imp_iff, Int.reduceEq, Int.reduceLT, Int.reduceLE, Int.reduceAdd, Int.reduceSub, Int.reduceMul, Int.reduceNeg]
        exact q _ _ _ QR.rf
      · rw [S233]
        simp (disch := omega) only [Kk, B233_5, s153, c1, c2, B233_42, if_true, if_false, GA, GR, GRc, GO, GI, GL, GV, am_w_i, am_ga, am_it, am_if, true_and, and_true, or_true, true_or, ne_eq, not_false_eq_true, not_true_eq_false, false_imp_iff, true_imp_iff, Int.reduceEq, Int.reduceLT, Int.reduceLE, Int.reduceAdd, Int.reduceSub, Int.reduceMul, Int.reduceNeg]
        exact q _ _ QR.t
  · refine ⟨vI (-2147483648), fun w I L G d Q q => ?_, fun w I L G d Q q => ?_⟩
    · rw [S109]
      have z := q _ _ _ QR.rf
      simp only [B109_10, B109_15, s96, c1, B109_49, if_false, GI, true_imp_iff, not_true_eq_false, false_imp_iff, and_true]
      simp [z]
    · rw [S233]
      simp (disch := omega) only [Kk, B233_5, s153, c1, B233_42, if_false, GA, GR, GRc, GO, GI, GL, GV, am_w_i, am_ga, am_it, am_if, true_and, and_true, or_true, true_or, ne_eq, not_false_eq_true, not_true_eq_false, false_imp_iff, true_imp_iff, Int.reduceEq, Int.reduceLT, Int.reduceLE, Int.reduceAdd, Int.reduceSub, Int.reduceMul, Int.reduceNeg]
      exact q _ _ QR.t
