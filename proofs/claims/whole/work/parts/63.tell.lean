/-! 63: note, see, strike, known -/
theorem GC.f {V : (Nat → Int → Int)} {lw : (Int → (Int → Int) → Int)} {σ : (Nat → Int → Int)} {w : (Nat × Nat × Nat × Nat)} {I L I' L' : (Nat → Int → Int)} (h : GC V lw σ w I L) (h0 : ∀ a, a ≤ 54 → I' a = I a) (h1 : ∀ a, 102 ≤ a → a ≤ 122 → I' a = I a) (h2 : ∀ a, 127 ≤ a → a ≤ 131 → I' a = I a) (h3 : ∀ j, 12 ≤ j → j ≤ 15 → I' 99 j = I 99 j) (h4 : L' 99 59 = L 99 59) : GC V lw σ w I' L' := by
  obtain ⟨⟨a1, a2, a3, a4, a5, a6⟩, b1, b2, b3, b4, b5⟩ := h
  have hl := isW_le a1
  refine ⟨⟨a1, a2.fr (fun q _ x => h0 q (by omega)), a3.fr (fun q _ x => h0 q (by omega)), a4, a5.fr h1 h3, a6.fr h1⟩, b1.fr (fun q _ x => h0 q (by omega)), b2.fb ?_ h4, b3, b4, b5.fr (h0 54 (by omega)) ⟨by rw [h0 51 (by omega)], by rw [h0 51 (by omega)], by rw [h0 51 (by omega)]⟩⟩
  exact ⟨fun _ _ _ => by rw [h2 127 (by omega) (by omega)], fun _ _ _ => by rw [h2 128 (by omega) (by omega)], fun _ _ _ => by rw [h2 129 (by omega) (by omega)], by rw [h2 130 (by omega) (by omega)], by rw [h2 131 (by omega) (by omega)]⟩
theorem GR0.td {V : (Nat → Int → Int)} {lw : (Int → (Int → Int) → Int)} {σ : (Nat → Int → Int)} {n f g : Int} {w : (Nat × Nat × Nat × Nat)} {I L I' : (Nat → Int → Int)} (h : GR0 V lw σ n f g w I L) (hf : ∀ a, a ≠ 99 → ¬ (92 ≤ a ∧ a ≤ 97) → a ≠ 134 → I' a = I a) (hg : ∀ j, j ≠ 2 → j ≠ 70 → j ≠ 71 → I' 99 j = I 99 j) (ht : GTd V I') : GR0 V lw σ n f g w I' L := by
  obtain ⟨a1, a2, a3, a4, a5, a6, a7, a8, a9, a10⟩ := h
  refine ⟨a1.f (fun a _ => hf a (by omega) (by omega) (by omega)) (fun a _ _ => hf a (by omega) (by omega) (by omega)) (fun a _ _ => hf a (by omega) (by omega) (by omega)) (fun j _ _ => hg j (by omega) (by omega) (by omega)) rfl, a2, a3, ?_, ?_, ?_, ?_, ht, ?_, ?_⟩
  · exact a4.fr (by rw [hf 0 (by decide) (by decide) (by decide)]) (hg 1 (by decide) (by decide) (by decide)) (hf 1 (by decide) (by decide) (by decide)) (hf 100 (by decide) (by decide) (by decide))
  · unfold GF at a5 ⊢; rw [hf 0 (by decide) (by decide) (by decide), hg 4 (by decide) (by decide) (by decide), hg 5 (by decide) (by decide) (by decide)]; exact a5
  · exact a6.fr (by rw [hf 0 (by decide) (by decide) (by decide)]) (hg 76 (by decide) (by decide) (by decide)) (fun a x y => hf a (by omega) (by omega) (by omega)) (hf 137 (by decide) (by decide) (by decide)) (hf 138 (by decide) (by decide) (by decide)) rfl
  · exact a7.fr (by rw [hf 90 (by decide) (by decide) (by decide)]) (hg 74 (by decide) (by decide) (by decide)) (hf 91 (by decide) (by decide) (by decide)) (hf 136 (by decide) (by decide) (by decide))
  · exact a9.fr (hf 64 (by decide) (by decide) (by decide)) (hf 65 (by decide) (by decide) (by decide))
  · unfold GX at a10 ⊢; rw [hf 49 (by decide) (by decide) (by decide), hf 101 (by decide) (by decide) (by decide)]; exact a10
theorem WT.tl {V T : (Nat → Int → Int)} {m : Nat} {kb s a b c e : Int} (h : WT V T m kb) (hm : m < 24) (hs : s = 0 ∨ s = 1 ∨ s = 2) (h1 : s ≠ 2 → 0 ≤ a ∧ a < V 0 0) (h2 : s = 2 → 0 ≤ a ∧ a < m) (he : e = 0 ∨ e = 1) (hc : 0 ≤ c ∧ c ≤ 60) (hc1 : s = 1 → 1 ≤ c) (hb : -999 ≤ b ∧ b ≤ 999) : WT V (px_tl T m s a b c e) (m + 1) kb := by
  obtain ⟨p, q, r⟩ := h
  refine ⟨by omega, by omega, fun i i0 i1 => ?_⟩
  by_cases ei : i = m
  · subst ei
    obtain ⟨t0, t1, t2, t3, t4⟩ := px_tl_s (T := T) (m := (m : Int)) (s := s) (a := a) (b := b) (c := c) (e := e)
    rw [t0, t1, t2, t3, t4]
    exact ⟨hs, h1, h2, he, hc, hc1, hb⟩
  · obtain ⟨t0, t1, t2, t3, t4⟩ := px_tl_n (T := T) (s := s) (a := a) (b := b) (c := c) (e := e) ei
    rw [t0, t1, t2, t3, t4]
    exact r i i0 (by omega)
theorem tell_c {d : Nat} {T V : (Nat → Int → Int)} {w : (Nat × Nat × Nat × Nat)} {I L : (Nat → Int → Int)} {m : Nat} {kb s a b c e : Int} (hc : GDc T m kb I) (hw : WT V T m kb) (he : e = 0 ∨ e = 1) {Q : Option am_V → am_H → Prop} (q : ∀ I', ((m = 24 ∧ I' = I) ∨ (m < 24 ∧ GDc (px_tl T m s a b c e) (m + 1) kb I' ∧ Fr (fun a => 92 ≤ a ∧ a ≤ 97) I I')) → Q (some (vI (if m = 24 then -1 else (m : Int)))) (mkH w I' L)) : am_Sp d 68 [vR (some 92), vI s, vI a, vI b, vI c, vI e] (mkH w I L) Q := by
  refine s68 hc hw.1 he (fun y => ?_) (fun y I' h1 h2 => ?_)
  · have := q I (Or.inl ⟨y, rfl⟩); rw [if_pos y] at this; exact this
  · have := q I' (Or.inr ⟨y, h1, h2⟩); rw [if_neg (by omega)] at this; exact this
theorem tell_m {d : Nat} {T V : (Nat → Int → Int)} {lw : (Int → (Int → Int) → Int)} {σ : (Nat → Int → Int)} {n f g : Int} {w : (Nat × Nat × Nat × Nat)} {I I1 L : (Nat → Int → Int)} {m : Nat} {kb s a b c e a' b' c' e' : Int} (G : GR0 V lw σ n f g w I L) (hc : GDc T m kb I) (hm : GDm T m kb I) (hw : WT V T m kb) (hs : s = 0 ∨ s = 1 ∨ s = 2) (h1 : s ≠ 2 → 0 ≤ a ∧ a < V 0 0) (h2 : s = 2 → 0 ≤ a ∧ a < m) (he : e = 0 ∨ e = 1) (hcc : 0 ≤ c ∧ c ≤ 60) (hc1 : s = 1 → 1 ≤ c) (hb : -999 ≤ b ∧ b ≤ 999) (m1 : s ≠ 2 → a = b' ∧ b = c' ∧ e = e') (m2 : s = 1 → c = a') (m3 : s = 2 → a = a') (st : (m = 24 ∧ I1 = I) ∨ (m < 24 ∧ GDc (px_tl T m s a b c e) (m + 1) kb I1 ∧ Fr (fun a => 92 ≤ a ∧ a ≤ 97) I I1)) {Q : Option am_V → am_H → Prop} (q : ∀ I2, GG w I2 L → Q (some (vI (if m = 24 then -1 else (m : Int)))) (mkH w I2 L)) : am_Sp d 260 [vR (some 99), vI s, vI a', vI b', vI c', vI e'] (mkH w (am_up I1 99 2 0) L) Q := by
  rcases st with ⟨e1, rfl⟩ | ⟨e1, k1, k2⟩
  · refine s260 (T' := px_tl T m s a b c e) (hm.fr (am_up_n _ _ _ _ (by decide)) (am_up_n _ _ _ _ (by decide)) (am_up_a _ _ _ _ (by decide))) hw.1 ?_ (fun y => ?_) (fun y => by omega)
    · exact ⟨fun i hi => px_tl_n hi, px_tl_s.1, fun y => ⟨px_tl_s.2.1.trans (m1 y).1, px_tl_s.2.2.1.trans (m1 y).2.1, px_tl_s.2.2.2.2.trans (m1 y).2.2⟩, fun y => px_tl_s.2.2.2.1.trans (m2 y), fun y => px_tl_s.2.1.trans (m3 y)⟩
    · have := q _ ⟨V, lw, σ, n, f, g, G.q (QR.t (v := 0))⟩
      rw [if_pos e1] at this; exact this
  · have km : GDm T m kb (am_up I1 99 2 0) := hm.fr (by rw [am_up_n _ _ _ _ (by decide), k2 99 (by decide)]) (by rw [am_up_n _ _ _ _ (by decide), k2 99 (by decide)]) (by rw [am_up_a _ _ _ _ (by decide), k2 134 (by decide)])
    refine s260 (T' := px_tl T m s a b c e) km hw.1 ?_ (fun y => by omega) (fun y I2 j1 j2 j3 => ?_)
    · exact ⟨fun i hi => px_tl_n hi, px_tl_s.1, fun y => ⟨px_tl_s.2.1.trans (m1 y).1, px_tl_s.2.2.1.trans (m1 y).2.1, px_tl_s.2.2.2.2.trans (m1 y).2.2⟩, fun y => px_tl_s.2.2.2.1.trans (m2 y), fun y => px_tl_s.2.1.trans (m3 y)⟩
    · have := q I2 ⟨V, lw, σ, n, f, g, G.td (fun x x1 x2 x3 => ?_) (fun j x1 x2 x3 => ?_) ⟨_, m + 1, kb, k1.fr (fun x x1 x2 => ?_), j1, hw.tl e1 hs h1 h2 he hcc hc1 hb⟩⟩
      · rw [if_neg (by omega)] at this; exact this
      · rw [j2 x x1 x3, am_up_a _ _ _ _ x1, k2 x (by omega)]
      · rw [j3 j x2, am_up_n _ _ _ _ x1, k2 99 (by decide)]
      · rw [j2 x (by omega) (by omega), am_up_a _ _ _ _ (by omega)]
theorem GG.t {w : (Nat × Nat × Nat × Nat)} {I L : (Nat → Int → Int)} (h : GG w I L) : GG w (am_up I 99 2 0) L := by
  obtain ⟨V, lw, σ, n, f, g, G⟩ := h
  exact ⟨V, lw, σ, n, f, g, G.q QR.t⟩
theorem p_note {k x e : Int} (he : e = 0 ∨ e = 1) : PM 137 261 [vI k, vI x, vI e] := by
  intro d w I L hG
  have hG0 := hG.t
  obtain ⟨V, lw, σ, n, f, g, G⟩ := hG
  have GCx := G.1
  obtain ⟨⟨hw, hR, hL, hV, hM, hN⟩, rS, mS, wS, ny, ct⟩ := G.1
  obtain ⟨T, m, kb, t1, t2, t3⟩ := G.2.2.2.2.2.2.2.1
  by_cases c1 : 0 ≤ k ∧ k < V 0 0
  · by_cases c2 : -999 ≤ x ∧ x ≤ 999
    · rw [S137]
      simp (disch := omega) only [KX, s93 hw hR, c1, if_true, s96, c2, KT, GA, GR, GRc, GO, GI, GL, GV, am_w_i, am_ga, am_it, am_if, true_and, and_true, or_true, true_or, ne_eq, not_false_eq_true, not_true_eq_false, false_imp_iff, true_imp_iff, Int.reduceEq, Int.reduceLT, Int.reduceLE, Int.reduceAdd, Int.reduceSub, Int.reduceMul, Int.reduceNeg]
      refine tell_c t1 t3 he (fun I1 st => ?_)
      have hM1 : MW (am_up I1 99 2 0) V := by
        rcases st with ⟨-, rfl⟩ | ⟨-, -, k2⟩
        · exact hM.t
        · exact (hM.fr (fun a _ _ => k2 a (by omega)) (fun j _ _ => by rw [k2 99 (by decide)])).t
      simp (disch := omega) only [GA, GR, GRc, GO, GI, GL, GV, am_w_i, am_ga, am_it, am_if, true_and, and_true, or_true, true_or, ne_eq, not_false_eq_true, not_true_eq_false, false_imp_iff, true_imp_iff, Int.reduceEq, Int.reduceLT, Int.reduceLE, Int.reduceAdd, Int.reduceSub, Int.reduceMul, Int.reduceNeg]
      rw [S261]
      have fin : am_WP (d + 20) 261 40 [some (vR (some 99)), some (vI k), some (vI x), some (vI e)] [vI e, vI x, vI k, vI 0, vI 0, vR (some 99)] (mkH w (am_up I1 99 2 0) L) (fun r' h2 => r' = some (vI (if m = 24 then -1 else (m : Int))) ∧ some (vI (if m = 24 then -1 else (m : Int))) ≠ none ∧ ∃ w2 I2 L2, h2 = mkH w2 I2 L2 ∧ GG w2 I2 L2) := by
        rw [B261_40]
        simp (disch := omega) only [Kk, GA, GR, GRc, GO, GI, GL, GV, am_w_i, am_ga, am_it, am_if, true_and, and_true, or_true, true_or, ne_eq, not_false_eq_true, not_true_eq_false, false_imp_iff, true_imp_iff, Int.reduceEq, Int.reduceLT, Int.reduceLE, Int.reduceAdd, Int.reduceSub, Int.reduceMul, Int.reduceNeg]
        refine tell_m G t1 t2 t3 (Or.inl rfl) (fun _ => c1) (fun y => by omega) he ⟨by omega, by omega⟩ (fun y => by omega) c2 (fun _ => ⟨rfl, rfl, rfl⟩) (fun y => by omega) (fun y => by omega) st (fun I2 g2 => ?_)
        simp (disch := omega) only [B261_47, GA, GR, GRc, GO, GI, GL, GV, am_w_i, am_ga, am_it, am_if, true_and, and_true, or_true, true_or, ne_eq, not_false_eq_true, not_true_eq_false, false_imp_iff, true_imp_iff, Int.reduceEq, Int.reduceLT, Int.reduceLE, Int.reduceAdd, Int.reduceSub, Int.reduceMul, Int.reduceNeg]
        exact ⟨by simp, w, I2, L, rfl, g2⟩
      simp (disch := omega) only [Kk, B261_5, s199 hM1, c1, s153, c2, if_true, GA, GR, GRc, GO, GI, GL, GV, am_w_i, am_ga, am_it, am_if, true_and, and_true, or_true, true_or, ne_eq, not_false_eq_true, not_true_eq_false, false_imp_iff, true_imp_iff, Int.reduceEq, Int.reduceLT, Int.reduceLE, Int.reduceAdd, Int.reduceSub, Int.reduceMul, Int.reduceNeg]
      rcases he with e0 | e0
      · subst e0; have z := fin; first | (simp (disch := omega) only [GA, GR, GRc, GO, GI, GL, GV, am_w_i, am_ga, am_it, am_if, true_and, and_true, or_true, true_or, ne_eq, not_false_eq_true, not_true_eq_false, false_imp_iff, true_imp_iff, Int.reduceEq, Int.reduceLT, Int.reduceLE, Int.reduceAdd, Int.reduceSub, Int.reduceMul, Int.reduceNeg]; exact z) | simp (disch := omega) only [z, GA, GR, GRc, GO, GI, GL, GV, am_w_i, am_ga, am_it, am_if, true_and, and_true, or_true, true_or, ne_eq, not_false_eq_true, not_true_eq_false, false_imp_iff, true_imp_iff, Int.reduceEq, Int.reduceLT, Int.reduceLE, Int.reduceAdd, Int.reduceSub, Int.reduceMul, Int.reduceNeg]
      · subst e0; have z := fin; first | (simp (disch := omega) only [GA, GR, GRc, GO, GI, GL, GV, am_w_i, am_ga, am_it, am_if, true_and, and_true, or_true, true_or, ne_eq, not_false_eq_true, not_true_eq_false, false_imp_iff, true_imp_iff, Int.reduceEq, Int.reduceLT, Int.reduceLE, Int.reduceAdd, Int.reduceSub, Int.reduceMul, Int.reduceNeg]; exact z) | simp (disch := omega) only [z, GA, GR, GRc, GO, GI, GL, GV, am_w_i, am_ga, am_it, am_if, true_and, and_true, or_true, true_or, ne_eq, not_false_eq_true, not_true_eq_false, false_imp_iff, true_imp_iff, Int.reduceEq, Int.reduceLT, Int.reduceLE, Int.reduceAdd, Int.reduceSub, Int.reduceMul, Int.reduceNeg]
    · rw [S137]
      simp (disch := omega) only [KX, s93 hw hR, c1, if_true, s96, c2, if_false, B137_21, GA, GR, GRc, GO, GI, GL, GV, am_w_i, am_ga, am_it, am_if, true_and, and_true, or_true, true_or, ne_eq, not_false_eq_true, not_true_eq_false, false_imp_iff, true_imp_iff, Int.reduceEq, Int.reduceLT, Int.reduceLE, Int.reduceAdd, Int.reduceSub, Int.reduceMul, Int.reduceNeg]
      rw [S261]
      simp (disch := omega) only [Kk, B261_5, s199 hM.t, c1, s153, c2, if_true, if_false, B261_46, B261_47, GA, GR, GRc, GO, GI, GL, GV, am_w_i, am_ga, am_it, am_if, true_and, and_true, or_true, true_or, ne_eq, not_false_eq_true, not_true_eq_false, false_imp_iff, true_imp_iff, Int.reduceEq, Int.reduceLT, Int.reduceLE, Int.reduceAdd, Int.reduceSub, Int.reduceMul, Int.reduceNeg]
      exact ⟨by simp, w, _, L, rfl, hG0⟩
  · rw [S137]
    simp (disch := omega) only [KX, s93 hw hR, c1, if_false, B137_21, GA, GR, GRc, GO, GI, GL, GV, am_w_i, am_ga, am_it, am_if, true_and, and_true, or_true, true_or, ne_eq, not_false_eq_true, not_true_eq_false, false_imp_iff, true_imp_iff, Int.reduceEq, Int.reduceLT, Int.reduceLE, Int.reduceAdd, Int.reduceSub, Int.reduceMul, Int.reduceNeg]
    rw [S261]
    simp (disch := omega) only [Kk, B261_5, s199 hM.t, c1, if_false, B261_46, B261_47, GA, GR, GRc, GO, GI, GL, GV, am_w_i, am_ga, am_it, am_if, true_and, and_true, or_true, true_or, ne_eq, not_false_eq_true, not_true_eq_false, false_imp_iff, true_imp_iff, Int.reduceEq, Int.reduceLT, Int.reduceLE, Int.reduceAdd, Int.reduceSub, Int.reduceMul, Int.reduceNeg]
    exact ⟨by simp, w, _, L, rfl, hG0⟩
theorem p_see {y k x e : Int} (he : e = 0 ∨ e = 1) : PM 138 262 [vI y, vI k, vI x, vI e] := by
  intro d w I L hG
  have hG0 := hG.t
  obtain ⟨V, lw, σ, n, f, g, G⟩ := hG
  obtain ⟨⟨hw, hR, hL, hV, hM, hN⟩, rS, mS, wS, ny, ct⟩ := G.1
  obtain ⟨T, m, kb, t1, t2, t3⟩ := G.2.2.2.2.2.2.2.1
  by_cases c : (0 ≤ k ∧ k < V 0 0) ∧ (1 ≤ y ∧ y ≤ 60) ∧ (0 ≤ x ∧ x ≤ 999)
  · obtain ⟨c1, c3, c2⟩ := c
    rw [S138]
    simp (disch := omega) only [KX, s93 hw hR, c1, if_true, s96, c3, c2, KT, GA, GR, GRc, GO, GI, GL, GV, am_w_i, am_ga, am_it, am_if, true_and, and_true, or_true, true_or, ne_eq, not_false_eq_true, not_true_eq_false, false_imp_iff, true_imp_iff, Int.reduceEq, Int.reduceLT, Int.reduceLE, Int.reduceAdd, Int.reduceSub, Int.reduceMul, Int.reduceNeg]
    refine tell_c t1 t3 he (fun I1 st => ?_)
    have hM1 : MW (am_up I1 99 2 0) V := by
      rcases st with ⟨-, rfl⟩ | ⟨-, -, k2⟩
      · exact hM.t
      · exact (hM.fr (fun a _ _ => k2 a (by omega)) (fun j _ _ => by rw [k2 99 (by decide)])).t
    simp (disch := omega) only [GA, GR, GRc, GO, GI, GL, GV, am_w_i, am_ga, am_it, am_if, true_and, and_true, or_true, true_or, ne_eq, not_false_eq_true, not_true_eq_false, false_imp_iff, true_imp_iff, Int.reduceEq, Int.reduceLT, Int.reduceLE, Int.reduceAdd, Int.reduceSub, Int.reduceMul, Int.reduceNeg]
    rw [S262]
    have fin : am_WP (d + 20) 262 49 [some (vR (some 99)), some (vI y), some (vI k), some (vI x), some (vI e)] [vI e, vI x, vI k, vI y, vI 1, vR (some 99)] (mkH w (am_up I1 99 2 0) L) (fun r' h2 => r' = some (vI (if m = 24 then -1 else (m : Int))) ∧ some (vI (if m = 24 then -1 else (m : Int))) ≠ none ∧ ∃ w2 I2 L2, h2 = mkH w2 I2 L2 ∧ GG w2 I2 L2) := by
      rw [B262_49]
      simp (disch := omega) only [Kk, GA, GR, GRc, GO, GI, GL, GV, am_w_i, am_ga, am_it, am_if, true_and, and_true, or_true, true_or, ne_eq, not_false_eq_true, not_true_eq_false, false_imp_iff, true_imp_iff, Int.reduceEq, Int.reduceLT, Int.reduceLE, Int.reduceAdd, Int.reduceSub, Int.reduceMul, Int.reduceNeg]
      refine tell_m G t1 t2 t3 (Or.inr (Or.inl rfl)) (fun _ => c1) (fun y => by omega) he ⟨by omega, by omega⟩ (fun _ => c3.1) ⟨by omega, c2.2⟩ (fun _ => ⟨rfl, rfl, rfl⟩) (fun _ => rfl) (fun y => by omega) st (fun I2 g2 => ?_)
      simp (disch := omega) only [B262_56, GA, GR, GRc, GO, GI, GL, GV, am_w_i, am_ga, am_it, am_if, true_and, and_true, or_true, true_or, ne_eq, not_false_eq_true, not_true_eq_false, false_imp_iff, true_imp_iff, Int.reduceEq, Int.reduceLT, Int.reduceLE, Int.reduceAdd, Int.reduceSub, Int.reduceMul, Int.reduceNeg]
      exact ⟨by simp, w, I2, L, rfl, g2⟩
    simp (disch := omega) only [Kk, B262_5, s199 hM1, c1, s153, c2, c3, if_true, GA, GR, GRc, GO, GI, GL, GV, am_w_i, am_ga, am_it, am_if, true_and, and_true, or_true, true_or, ne_eq, not_false_eq_true, not_true_eq_false, false_imp_iff, true_imp_iff, Int.reduceEq, Int.reduceLT, Int.reduceLE, Int.reduceAdd, Int.reduceSub, Int.reduceMul, Int.reduceNeg]
    rcases he with e0 | e0
    · subst e0; have z := fin; first | (simp (disch := omega) only [GA, GR, GRc, GO, GI, GL, GV, am_w_i, am_ga, am_it, am_if, true_and, and_true, or_true, true_or, ne_eq, not_false_eq_true, not_true_eq_false, false_imp_iff, true_imp_iff, Int.reduceEq, Int.reduceLT, Int.reduceLE, Int.reduceAdd, Int.reduceSub, Int.reduceMul, Int.reduceNeg]; exact z) | simp (disch := omega) only [z, GA, GR, GRc, GO, GI, GL, GV, am_w_i, am_ga, am_it, am_if, true_and, and_true, or_true, true_or, ne_eq, not_false_eq_true, not_true_eq_false, false_imp_iff, true_imp_iff, Int.reduceEq, Int.reduceLT, Int.reduceLE, Int.reduceAdd, Int.reduceSub, Int.reduceMul, Int.reduceNeg]
    · subst e0; have z := fin; first | (simp (disch := omega) only [GA, GR, GRc, GO, GI, GL, GV, am_w_i, am_ga, am_it, am_if, true_and, and_true, or_true, true_or, ne_eq, not_false_eq_true, not_true_eq_false, false_imp_iff, true_imp_iff, Int.reduceEq, Int.reduceLT, Int.reduceLE, Int.reduceAdd, Int.reduceSub, Int.reduceMul, Int.reduceNeg]; exact z) | simp (disch := omega) only [z, GA, GR, GRc, GO, GI, GL, GV, am_w_i, am_ga, am_it, am_if, true_and, and_true, or_true, true_or, ne_eq, not_false_eq_true, not_true_eq_false, false_imp_iff, true_imp_iff, Int.reduceEq, Int.reduceLT, Int.reduceLE, Int.reduceAdd, Int.reduceSub, Int.reduceMul, Int.reduceNeg]
  · by_cases c1 : 0 ≤ k ∧ k < V 0 0 <;> by_cases c3 : 1 ≤ y ∧ y ≤ 60 <;> by_cases c2 : 0 ≤ x ∧ x ≤ 999
    · exact absurd ⟨c1, c3, c2⟩ c
    all_goals
      rw [S138]
      simp (disch := omega) only [KX, s93 hw hR, c1, s96, c3, c2, if_true, if_false, B138_29, GA, GR, GRc, GO, GI, GL, GV, am_w_i, am_ga, am_it, am_if, true_and, and_true, or_true, true_or, ne_eq, not_false_eq_true, not_true_eq_false, false_imp_iff, true_imp_iff, Int.reduceEq, Int.reduceLT, Int.reduceLE, Int.reduceAdd, Int.reduceSub, Int.reduceMul, Int.reduceNeg]
      rw [S262]
      simp (disch := omega) only [Kk, B262_5, s199 hM.t, c1, s153, c2, c3, if_true, if_false, B262_55, B262_56, GA, GR, GRc, GO, GI, GL, GV, am_w_i, am_ga, am_it, am_if, true_and, and_true, or_true, true_or, ne_eq, not_false_eq_true, not_true_eq_false, false_imp_iff, true_imp_iff, Int.reduceEq, Int.reduceLT, Int.reduceLE, Int.reduceAdd, Int.reduceSub, Int.reduceMul, Int.reduceNeg]
      exact ⟨by simp, w, _, L, rfl, hG0⟩
theorem p_strike {x : Int} : PM 139 263 [vI x] := by
  intro d w I L hG
  have hG0 := hG.t
  obtain ⟨V, lw, σ, n, f, g, G⟩ := hG
  obtain ⟨T, m, kb, t1, t2, t3⟩ := G.2.2.2.2.2.2.2.1
  have h92 := t1.1
  have h70 := t2.1
  by_cases c : 0 ≤ x ∧ x < m
  · rw [S139]
    simp (disch := omega) only [KX, KT, h92, GA, GR, GRc, GO, GI, GL, GV, am_w_i, am_ga, am_it, am_if, true_and, and_true, or_true, true_or, ne_eq, not_false_eq_true, not_true_eq_false, false_imp_iff, true_imp_iff, Int.reduceEq, Int.reduceLT, Int.reduceLE, Int.reduceAdd, Int.reduceSub, Int.reduceMul, Int.reduceNeg]
    refine tell_c t1 t3 (Or.inr rfl) (fun I1 st => ?_)
    have h71 : am_up I1 99 2 0 99 70 = m := by
      rw [am_up_n _ _ _ _ (by decide)]
      rcases st with ⟨-, rfl⟩ | ⟨-, -, k2⟩
      · exact h70
      · rw [k2 99 (by decide)]; exact h70
    simp (disch := omega) only [GA, GR, GRc, GO, GI, GL, GV, am_w_i, am_ga, am_it, am_if, true_and, and_true, or_true, true_or, ne_eq, not_false_eq_true, not_true_eq_false, false_imp_iff, true_imp_iff, Int.reduceEq, Int.reduceLT, Int.reduceLE, Int.reduceAdd, Int.reduceSub, Int.reduceMul, Int.reduceNeg]
    rw [S263]
    simp (disch := omega) only [Kk, B263_5, h71, GA, GR, GRc, GO, GI, GL, GV, am_w_i, am_ga, am_it, am_if, true_and, and_true, or_true, true_or, ne_eq, not_false_eq_true, not_true_eq_false, false_imp_iff, true_imp_iff, Int.reduceEq, Int.reduceLT, Int.reduceLE, Int.reduceAdd, Int.reduceSub, Int.reduceMul, Int.reduceNeg]
    refine tell_m G t1 t2 t3 (Or.inr (Or.inr rfl)) (fun y => absurd rfl y) (fun _ => ⟨c.1, by omega⟩) (Or.inr rfl) ⟨by omega, by omega⟩ (fun y => by omega) ⟨by omega, by omega⟩ (fun y => absurd rfl y) (fun y => by omega) (fun _ => rfl) st (fun I2 g2 => ?_)
    simp (disch := omega) only [B263_30, GA, GR, GRc, GO, GI, GL, GV, am_w_i, am_ga, am_it, am_if, true_and, and_true, or_true, true_or, ne_eq, not_false_eq_true, not_true_eq_false, false_imp_iff, true_imp_iff, Int.reduceEq, Int.reduceLT, Int.reduceLE, Int.reduceAdd, Int.reduceSub, Int.reduceMul, Int.reduceNeg]
    exact ⟨by simp, w, I2, L, rfl, g2⟩
  · by_cases c1 : x < 0
    · rw [S139]
      simp (disch := omega) only [B139_15, GA, GR, GRc, GO, GI, GL, GV, am_w_i, am_ga, am_it, am_if, true_and, and_true, or_true, true_or, ne_eq, not_false_eq_true, not_true_eq_false, false_imp_iff, true_imp_iff, Int.reduceEq, Int.reduceLT, Int.reduceLE, Int.reduceAdd, Int.reduceSub, Int.reduceMul, Int.reduceNeg]
      rw [S263]
      simp (disch := omega) only [Kk, B263_5, B263_17, B263_30, GA, GR, GRc, GO, GI, GL, GV, am_w_i, am_ga, am_it, am_if, true_and, and_true, or_true, true_or, ne_eq, not_false_eq_true, not_true_eq_false, false_imp_iff, true_imp_iff, Int.reduceEq, Int.reduceLT, Int.reduceLE, Int.reduceAdd, Int.reduceSub, Int.reduceMul, Int.reduceNeg]
      exact ⟨by simp, w, _, L, rfl, hG0⟩
    · rw [S139]
      simp (disch := omega) only [KX, KT, h92, B139_15, GA, GR, GRc, GO, GI, GL, GV, am_w_i, am_ga, am_it, am_if, true_and, and_true, or_true, true_or, ne_eq, not_false_eq_true, not_true_eq_false, false_imp_iff, true_imp_iff, Int.reduceEq, Int.reduceLT, Int.reduceLE, Int.reduceAdd, Int.reduceSub, Int.reduceMul, Int.reduceNeg]
      rw [S263]
      simp (disch := omega) only [Kk, B263_5, am_up_n, h70, B263_17, B263_30, GA, GR, GRc, GO, GI, GL, GV, am_w_i, am_ga, am_it, am_if, true_and, and_true, or_true, true_or, ne_eq, not_false_eq_true, not_true_eq_false, false_imp_iff, true_imp_iff, Int.reduceEq, Int.reduceLT, Int.reduceLE, Int.reduceAdd, Int.reduceSub, Int.reduceMul, Int.reduceNeg]
      exact ⟨by simp, w, _, L, rfl, hG0⟩
theorem p_known {x : Int} : PM 140 264 [vI x] := by
  intro d w I L hG
  have hG0 := hG.t
  obtain ⟨V, lw, σ, n, f, g, G⟩ := hG
  obtain ⟨T, m, kb, t1, t2, t3⟩ := G.2.2.2.2.2.2.2.1
  have h92 := t1.1
  have h70 := t2.1
  by_cases c : -1 ≤ x ∧ x ≤ m
  · have cb : (-1 ≤ x ∧ x ≤ (m : Int)) := c
    rw [S140]
    simp (disch := omega) only [KX, KT, h92, B140_26, GA, GR, GRc, GO, GI, GL, GV, am_w_i, am_ga, am_it, am_if, true_and, and_true, or_true, true_or, ne_eq, not_false_eq_true, not_true_eq_false, false_imp_iff, true_imp_iff, Int.reduceEq, Int.reduceLT, Int.reduceLE, Int.reduceAdd, Int.reduceSub, Int.reduceMul, Int.reduceNeg]
    rw [S264]
    simp (disch := omega) only [Kk, B264_5, am_up_n, am_up_a, h70, s153, cb, if_true, B264_24, GA, GR, GRc, GO, GI, GL, GV, am_w_i, am_ga, am_it, am_if, true_and, and_true, or_true, true_or, ne_eq, not_false_eq_true, not_true_eq_false, false_imp_iff, true_imp_iff, Int.reduceEq, Int.reduceLT, Int.reduceLE, Int.reduceAdd, Int.reduceSub, Int.reduceMul, Int.reduceNeg]
    refine ⟨by simp, w, _, L, rfl, V, lw, σ, n, f, g, G.td (fun a a1 a2 a3 => ?_) (fun j j1 j2 j3 => ?_) ⟨T, m, x, ⟨?_, ?_, ?_⟩, ⟨?_, ?_, ?_⟩, t3.1, c, t3.2.2⟩⟩
    · simp (disch := omega) only [am_up_a]
    · rw [am_up_n _ _ _ _ j3, am_up_n _ _ _ _ j1, am_up_a _ _ _ _ (by decide)]
    · simp (disch := decide) only [am_up_a, am_up_n]; exact h92
    · simp (disch := decide) only [am_up_a, am_up_s]
    · simp (disch := decide) only [am_up_a]; exact t1.2.2
    · simp (disch := decide) only [am_up_a, am_up_n]; exact h70
    · rw [am_up_s]
    · simp (disch := decide) only [am_up_a]; exact t2.2.2
  · by_cases c1 : x < -1
    · rw [S140]
      simp (disch := omega) only [B140_16, GA, GR, GRc, GO, GI, GL, GV, am_w_i, am_ga, am_it, am_if, true_and, and_true, or_true, true_or, ne_eq, not_false_eq_true, not_true_eq_false, false_imp_iff, true_imp_iff, Int.reduceEq, Int.reduceLT, Int.reduceLE, Int.reduceAdd, Int.reduceSub, Int.reduceMul, Int.reduceNeg]
      rw [S264]
      simp (disch := omega) only [Kk, B264_5, am_up_n, h70, s153, c, if_false, GA, GR, GRc, GO, GI, GL, GV, am_w_i, am_ga, am_it, am_if, true_and, and_true, or_true, true_or, ne_eq, not_false_eq_true, not_true_eq_false, false_imp_iff, true_imp_iff, Int.reduceEq, Int.reduceLT, Int.reduceLE, Int.reduceAdd, Int.reduceSub, Int.reduceMul, Int.reduceNeg]
      exact ⟨by simp, w, _, L, rfl, hG0⟩
    · rw [S140]
      simp (disch := omega) only [KX, KT, h92, B140_16, GA, GR, GRc, GO, GI, GL, GV, am_w_i, am_ga, am_it, am_if, true_and, and_true, or_true, true_or, ne_eq, not_false_eq_true, not_true_eq_false, false_imp_iff, true_imp_iff, Int.reduceEq, Int.reduceLT, Int.reduceLE, Int.reduceAdd, Int.reduceSub, Int.reduceMul, Int.reduceNeg]
      rw [S264]
      simp (disch := omega) only [Kk, B264_5, am_up_n, h70, s153, c, if_false, GA, GR, GRc, GO, GI, GL, GV, am_w_i, am_ga, am_it, am_if, true_and, and_true, or_true, true_or, ne_eq, not_false_eq_true, not_true_eq_false, false_imp_iff, true_imp_iff, Int.reduceEq, Int.reduceLT, Int.reduceLE, Int.reduceAdd, Int.reduceSub, Int.reduceMul, Int.reduceNeg]
      exact ⟨by simp, w, _, L, rfl, hG0⟩
