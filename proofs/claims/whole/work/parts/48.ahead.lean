/-! 48: days ahead, on both sides -/
theorem px_try_8 {V σ : (Nat → Int → Int)} {lw : (Int → (Int → Int) → Int)} {F : Int → Int} {i : Int} (h : F 7 ≠ 0) : px_try V lw F σ i 0 8 = σ 0 8 := by
  have e : (px_lk F (σ 0 8) (px_odds V lw F σ i)).2 = σ 0 8 := by unfold px_lk; rw [if_neg h]
  unfold px_try
  split
  · rw [am_up_a _ _ _ _ (by decide)]
  · split
    · rw [am_up_a _ _ _ _ (by decide), px_add, am_up_a _ _ _ _ (by decide), am_up_s, e]
    · rw [am_up_a _ _ _ _ (by decide), am_up_s, e]
theorem px_t1_8 {V σ : (Nat → Int → Int)} {lw : (Int → (Int → Int) → Int)} {F : Int → Int} (h : F 7 ≠ 0) : ∀ i : Nat, px_for (px_t1 V lw F) i σ 0 8 = σ 0 8
  | 0 => rfl
  | i + 1 => by
    have ih := px_t1_8 (V := V) (σ := σ) (lw := lw) h i
    rw [px_for]
    generalize px_for (px_t1 V lw F) i σ = σ' at ih
    unfold px_t1
    split
    · rw [px_try_8 h, ih]
    · exact ih
theorem px_day_8 {V σ : (Nat → Int → Int)} {lw : (Int → (Int → Int) → Int)} {F : Int → Int} (h : F 7 ≠ 0) : px_day V lw F σ 0 8 = σ 0 8 := by
  unfold px_day px_d4
  rw [am_up_n _ _ _ _ (by decide), am_up_n _ _ _ _ (by decide), px_d3_o (by decide), px_d2_o (by decide), px_d1_eq, px_t1_8 h]
theorem px_days_8 {V σ : (Nat → Int → Int)} {lw : (Int → (Int → Int) → Int)} {F : Int → Int} (h : F 7 ≠ 0) : ∀ n, px_days V lw F n σ 0 8 = σ 0 8
  | 0 => rfl
  | n + 1 => by rw [px_days, px_day_8 h, px_days_8 h n]
/-- the class, with a state laid ahead -/
def CL (V : (Nat → Int → Int)) (lw : (Int → (Int → Int) → Int)) (F : Int → Int) (σ : (Nat → Int → Int)) (w : (Nat × Nat × Nat × Nat)) (I L : (Nat → Int → Int)) (w' : (Nat × Nat × Nat × Nat)) (I' L' : (Nat → Int → Int)) : Prop := w' = (w.1, w.2.1, w.2.2.1, w.1) ∧ CC w' I' V lw F ∧ RS I' 55 σ ∧ CT I' 55 (V 0 2).toNat ∧ NY V σ ∧ (∀ a, ¬ (55 ≤ a ∧ a ≤ 58 ∨ a = 63) → I' a = I a) ∧ LF L L'
/-- the reference, with a state laid ahead -/
def MA (V : (Nat → Int → Int)) (lw : (Int → (Int → Int) → Int)) (F : Int → Int) (σ : (Nat → Int → Int)) (I L I' L' : (Nat → Int → Int)) : Prop := MC I' V lw F ∧ MS I' L' 1 σ ∧ QF I I' ∧ LM L L'
theorem CL.qr {V : (Nat → Int → Int)} {lw : (Int → (Int → Int) → Int)} {F : Int → Int} {σ : (Nat → Int → Int)} {w : (Nat × Nat × Nat × Nat)} {I L : (Nat → Int → Int)} {w' : (Nat × Nat × Nat × Nat)} {I' L' : (Nat → Int → Int)} (h : CL V lw F σ w I L w' I' L') : QR w I L w' I' L' := by
  obtain ⟨rfl, -, -, -, -, a, b⟩ := h
  exact ⟨⟨rfl, rfl, rfl⟩, QF.cl (fun q x => a q (by omega)), QL.lf b⟩
theorem MA.qr {V : (Nat → Int → Int)} {lw : (Int → (Int → Int) → Int)} {F : Int → Int} {σ : (Nat → Int → Int)} {w : (Nat × Nat × Nat × Nat)} {I L I' L' : (Nat → Int → Int)} (h : MA V lw F σ I L I' L') (h8 : σ 0 8 = L 99 59) : QR w I L w I' L' := by
  obtain ⟨-, a, b, c⟩ := h
  exact ⟨⟨rfl, rfl, rfl⟩, b, fun q _ _ _ _ x5 x6 x7 => c.1 q x7 x5 x6, by rw [a.2.2.2.2.2, h8], c.2 79 (by decide)⟩
theorem cz_tk_a {I : (Nat → Int → Int)} {lk : Int} {a : Nat} (h : a ≠ 63) : cz_tk I lk a = I a := by
  unfold cz_tk; simp only [am_up_a _ _ _ _ h]
theorem GC.tk {V : (Nat → Int → Int)} {lw : (Int → (Int → Int) → Int)} {σ : (Nat → Int → Int)} {w : (Nat × Nat × Nat × Nat)} {I L : (Nat → Int → Int)} (G : GC V lw σ w I L) (lk : Int) : CC (w.1, w.2.1, w.2.2.1, w.1) (cz_tk I lk) V lw (FT lk) ∧ RS (cz_tk I lk) 51 σ ∧ CT (cz_tk I lk) 51 (V 0 2).toNat := by
  obtain ⟨⟨hw, hR, hL, hV, hM, hN⟩, rS, mS, wS, ny, ct⟩ := id G
  exact ⟨CC.tk hw hR hL hV, rS.fr (fun a _ _ => cz_tk_a (by omega)), ct.fr (cz_tk_a (by decide)) ⟨by rw [cz_tk_a (by decide)], by rw [cz_tk_a (by decide)], by rw [cz_tk_a (by decide)]⟩⟩
theorem s108 {d : Nat} {w : Nat × Nat × Nat × Nat} {I L : Nat → Int → Int} {V σ : (Nat → Int → Int)} {lw : (Int → (Int → Int) → Int)} (G : GC V lw σ w I L) {Q : Option am_V → am_H → Prop} (q : ∀ w' I', CL V lw (FT 1) σ w I L w' I' L → Q none (mkH w' I' L)) : am_Sp (d + 1) 108 [vR (some 0)] (mkH w I L) Q := by
  obtain ⟨C, R, T⟩ := G.tk 1
  obtain ⟨⟨hw, hR, hL, hV, hM, hN⟩, rS, mS, wS, ny, ct⟩ := id G
  have h3 := hV.1.2.2
  rw [S108]
  simp (disch := omega) only [KX, KC, s1, HS (show isS 55 from Or.inr (Or.inl rfl)), s58 (show isS 55 from Or.inr (Or.inl rfl)) (show isS 51 from Or.inl rfl) (by decide), GA, GR, GRc, GO, GI, GL, GV, am_w_i, am_ga, am_it, am_if, true_and, and_true, or_true, true_or, ne_eq, not_false_eq_true, not_true_eq_false, false_imp_iff, true_imp_iff, Int.reduceEq, Int.reduceLT, Int.reduceLE, Int.reduceAdd, Int.reduceSub, Int.reduceMul, Int.reduceNeg]
  have cf := (cz_copy_at (I := cz_tk I 1) (s := 55) (t := 51) (by omega)).2.2.2.2
  refine q _ _ ⟨rfl, C.fr (fun a ha => cf a (by omega)), R.copy (by omega), T.copy (by omega) (by omega), ny, fun a ha => ?_, LF.rf⟩
  rw [cf a (by omega), cz_tk_a (by omega)]
/-- days of the class ahead -/
theorem CL.days {d : Nat} {V σ : (Nat → Int → Int)} {lw : (Int → (Int → Int) → Int)} {F : Int → Int} {w : (Nat × Nat × Nat × Nat)} {I L : (Nat → Int → Int)} {w' : (Nat × Nat × Nat × Nat)} {I' L' : (Nat → Int → Int)} {m : Nat} {D : Int} (h : CL V lw F σ w I L w' I' L') (hW : WS D σ) (hm : D + m ≤ 20000) {Q : Option am_V → am_H → Prop} (q : ∀ I'' L'', CL V lw F (px_days V lw F m σ) w I L w' I'' L'' → Q none (mkH w' I'' L'')) : am_Sp (d + 6) 6 [vR (some 63), vR (some 55), vI (m : Int)] (mkH w' I' L') Q := by
  obtain ⟨a, b, c, e, f, g, k⟩ := h
  have h12 := b.2.2.2.1.1.2.2
  refine s6 b (Or.inr (Or.inl rfl)) c hW (n := (V 0 2).toNat) (by omega) e f hm (fun I2 L2 r t fr l => q I2 L2 ⟨a, b.fr (fun x hx => fr x (by omega)), r, t, f.days m, fun x hx => by rw [fr x (by omega), g x hx], k.tr l⟩)
theorem CL.day {d : Nat} {V σ : (Nat → Int → Int)} {lw : (Int → (Int → Int) → Int)} {F : Int → Int} {w : (Nat × Nat × Nat × Nat)} {I L : (Nat → Int → Int)} {w' : (Nat × Nat × Nat × Nat)} {I' L' : (Nat → Int → Int)} {D : Int} (h : CL V lw F σ w I L w' I' L') (hW : WS D σ) {Q : Option am_V → am_H → Prop} (q : ∀ I'' L'', CL V lw F (px_day V lw F σ) w I L w' I'' L'' → Q none (mkH w' I'' L'')) : am_Sp (d + 5) 7 [vR (some 63), vR (some 55)] (mkH w' I' L') Q := by
  obtain ⟨a, b, c, e, f, g, k⟩ := h
  have h12 := b.2.2.2.1.1.2.2
  refine s7 b (Or.inr (Or.inl rfl)) c hW (n := (V 0 2).toNat) (by omega) e f (fun I2 L2 r t fr l => q I2 L2 ⟨a, b.fr (fun x hx => fr x (by omega)), r, t, f.day, fun x hx => by rw [fr x (by omega), g x hx], k.tr l⟩)
theorem CL.dist {d : Nat} {V σ : (Nat → Int → Int)} {lw : (Int → (Int → Int) → Int)} {F : Int → Int} {w : (Nat × Nat × Nat × Nat)} {I L : (Nat → Int → Int)} {w' : (Nat × Nat × Nat × Nat)} {I' L' : (Nat → Int → Int)} {D : Int} (h : CL V lw F σ w I L w' I' L') (hW : WS D σ) {Q : Option am_V → am_H → Prop} (q : ∀ L'', CL V lw F σ w I L w' I' L'' → Q (some (vI (px_dist V lw F σ (V 0 0).toNat))) (mkH w' I' L'')) : am_Sp (d + 4) 5 [vR (some 63), vR (some 55)] (mkH w' I' L') Q := by
  obtain ⟨a, b, c, e, f, g, k⟩ := h
  have h12 := b.2.2.2.1.1.1
  exact s5 b (Or.inr (Or.inl rfl)) c hW (n := (V 0 0).toNat) (by omega) (fun L2 l => q L2 ⟨a, b, c, e, f, g, k.tr l⟩)
theorem GC.lt {V σ : (Nat → Int → Int)} {lw : (Int → (Int → Int) → Int)} {w : (Nat × Nat × Nat × Nat)} {I L : (Nat → Int → Int)} (G : GC V lw σ w I L) : MA V lw (FT 1) σ I L (cz_lt I) L := by
  obtain ⟨⟨hw, hR, hL, hV, hM, hN⟩, rS, mS, wS, ny, ct⟩ := id G
  exact ⟨MC.lt hM hN hV, mS.lt, QF.lt, LM.rf⟩
theorem MA.days {d : Nat} {V σ : (Nat → Int → Int)} {lw : (Int → (Int → Int) → Int)} {F : Int → Int} {w : (Nat × Nat × Nat × Nat)} {I L I' L' : (Nat → Int → Int)} {m : Nat} {D : Int} (h : MA V lw F σ I L I' L') (hW : WS D σ) (hm : D + m ≤ 20000) {Q : Option am_V → am_H → Prop} (q : ∀ I'' L'', MA V lw F (px_days V lw F m σ) I L I'' L'' → Q none (mkH w I'' L'')) : am_Sp (d + 7) 218 [vR (some 99), vI (m : Int)] (mkH w I' L') Q := by
  obtain ⟨a, b, c, e⟩ := h
  exact s218 a b hW hm (fun I2 L2 r f l => q I2 L2 ⟨a.fr f, r, c.tr (QF.mf f), e.tr l⟩)
theorem MA.day {d : Nat} {V σ : (Nat → Int → Int)} {lw : (Int → (Int → Int) → Int)} {F : Int → Int} {w : (Nat × Nat × Nat × Nat)} {I L I' L' : (Nat → Int → Int)} {D : Int} (h : MA V lw F σ I L I' L') (hW : WS D σ) {Q : Option am_V → am_H → Prop} (q : ∀ I'' L'', MA V lw F (px_day V lw F σ) I L I'' L'' → Q none (mkH w I'' L'')) : am_Sp (d + 6) 217 [vR (some 99), vI 1] (mkH w I' L') Q := by
  obtain ⟨a, b, c, e⟩ := h
  exact s217 a (Or.inr rfl) b hW (fun I2 L2 r f l => q I2 L2 ⟨a.fr f, r, c.tr (QF.mf f), e.tr l⟩)
theorem MA.dist {d : Nat} {V σ : (Nat → Int → Int)} {lw : (Int → (Int → Int) → Int)} {F : Int → Int} {w : (Nat × Nat × Nat × Nat)} {I L I' L' : (Nat → Int → Int)} {D : Int} (h : MA V lw F σ I L I' L') (hW : WS D σ) {Q : Option am_V → am_H → Prop} (q : ∀ I'' L'', MA V lw F σ I L I'' L'' → Q (some (vI (px_dist V lw F σ (V 0 0).toNat))) (mkH w I'' L'')) : am_Sp (d + 5) 210 [vR (some 99), vI 1] (mkH w I' L') Q := by
  obtain ⟨a, b, c, e⟩ := h
  have h6 := a.2.2.1.1.1
  exact s210 a (Or.inr rfl) b hW (n := (V 0 0).toNat) (by omega) (fun I2 L2 r f g l => q I2 L2 ⟨a.fr f, r, c.tr (QF.mf f), e.tr l.lm⟩)
theorem s219 {d : Nat} {w : Nat × Nat × Nat × Nat} {I L : Nat → Int → Int} {V σ : (Nat → Int → Int)} {b v : Int} {n : Nat} (hM : MW I V) (hV : WV V) (hn : V 0 2 = n) (hb : b = 0 ∨ b = 1) (mS : MS I L b σ) (Q : Option am_V → am_H → Prop) : am_Sp d 219 [vR (some 99), vI b, vI v] (mkH w I L) Q ↔ Q (some (vI (px_cnt (σ 3) v n))) (mkH w I L) := by
  have h6 := hV.1.2.2.2
  refine am_det ?_ Q
  rw [S219]
  refine am_loop (α := Unit) n (fun i _ => am_WP d 219 5 [some (vR (some 99)), some (vI b), some (vI v), some (vI (px_cnt (σ 3) v i)), some (vI (i : Int))] [] (mkH w I L) _) (fun i _ => True) ?_ ?_ 0 () (Nat.zero_le _) trivial
  · intro i _ hi _ ih
    have a := px_cnt_b (σ 3) v i
    have e := mS.2.2.1 (i : Int) (by omega) (by omega)
    have z := ih () trivial
    rw [px_cnt] at z
    rw [B219_5]
    simp (disch := omega) only [Kk, Ks, hM.1.2.2, hn, e, B219_36, GA, GR, GRc, GO, GI, GL, GV, am_w_i, am_ga, am_it, am_if, true_and, and_true, or_true, true_or, ne_eq, not_false_eq_true, not_true_eq_false, false_imp_iff, true_imp_iff, Int.reduceEq, Int.reduceLT, Int.reduceLE, Int.reduceAdd, Int.reduceSub, Int.reduceMul, Int.reduceNeg]
    by_cases c : σ 3 i = v
    · rw [if_pos c] at z
      simp (disch := omega) only [c, GA, GR, GRc, GO, GI, GL, GV, am_w_i, am_ga, am_it, am_if, true_and, and_true, or_true, true_or, ne_eq, not_false_eq_true, not_true_eq_false, false_imp_iff, true_imp_iff, Int.reduceEq, Int.reduceLT, Int.reduceLE, Int.reduceAdd, Int.reduceSub, Int.reduceMul, Int.reduceNeg]; exact z
    · rw [if_neg c] at z
      simp (disch := omega) only [c, GA, GR, GRc, GO, GI, GL, GV, am_w_i, am_ga, am_it, am_if, true_and, and_true, or_true, true_or, ne_eq, not_false_eq_true, not_true_eq_false, false_imp_iff, true_imp_iff, Int.reduceEq, Int.reduceLT, Int.reduceLE, Int.reduceAdd, Int.reduceSub, Int.reduceMul, Int.reduceNeg]; exact z
  · intro _ _
    rw [B219_5]
    simp (disch := omega) only [Kk, hM.1.2.2, hn, GA, GR, GRc, GO, GI, GL, GV, am_w_i, am_ga, am_it, am_if, true_and, and_true, or_true, true_or, ne_eq, not_false_eq_true, not_true_eq_false, false_imp_iff, true_imp_iff, Int.reduceEq, Int.reduceLT, Int.reduceLE, Int.reduceAdd, Int.reduceSub, Int.reduceMul, Int.reduceNeg]
theorem RS.cnt {I σ : (Nat → Int → Int)} {s n : Nat} {v : Int} (h : RS I s σ) (hn : n ≤ 12) : px_cnt (I (s + 3)) v n = px_cnt (σ 3) v n := px_cnt_c (fun j hj => h.2.2.1 j (by omega) (by omega))
theorem px_days_lv {V σ : (Nat → Int → Int)} {lw : (Int → (Int → Int) → Int)} {F : Int → Int} {D : Int} {m : Nat} (hV : WV V) (hF : WF F) (hW : WS D σ) (hm : D + m ≤ 20000) : 0 ≤ px_days V lw F m σ 0 4 ∧ px_days V lw F m σ 0 4 ≤ 20000 := by
  have := hW.days (lw := lw) hV hF m hm
  have a := this.2.2.1; have b := this.2.2.2.1; omega
