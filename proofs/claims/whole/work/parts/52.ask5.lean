/-! 52: chance, best -/
theorem NY.n {V σ : (Nat → Int → Int)} {x : Int} (h : NY V σ) : NY V (am_up σ 0 8 x) := by
  intro i a b c
  rw [am_up_n _ _ _ _ (by decide)] at c
  rw [am_up_a _ _ _ _ (by decide)]; exact h i a b c
def px_ch (V : (Nat → Int → Int)) (lw : (Int → (Int → Int) → Int)) (σ : (Nat → Int → Int)) (x : Int) (n : Nat) (p : Int) : Nat → Int × Int
  | 0 => (x, 0)
  | m + 1 => (px_days V lw (FT 0) n (am_up σ 0 8 (px_ch V lw σ x n p m).1) 0 8, (px_ch V lw σ x n p m).2 + if px_dist V lw (FT 0) (px_days V lw (FT 0) n (am_up σ 0 8 (px_ch V lw σ x n p m).1)) (V 0 0).toNat ≤ p then 1 else 0)
theorem px_ch_b {V σ : (Nat → Int → Int)} {lw : (Int → (Int → Int) → Int)} {x p D : Int} {n : Nat} (hV : WV V) (hW : WS D σ) (hx : 0 ≤ x ∧ x ≤ 2147483647) (hn : D + n ≤ 20000) : ∀ m : Nat, (0 ≤ (px_ch V lw σ x n p m).1 ∧ (px_ch V lw σ x n p m).1 ≤ 2147483647) ∧ (0 ≤ (px_ch V lw σ x n p m).2 ∧ (px_ch V lw σ x n p m).2 ≤ m)
  | 0 => ⟨hx, by simp [px_ch]⟩
  | m + 1 => by
    have ih := px_ch_b (lw := lw) (p := p) hV hW hx hn m
    have W2 := (hW.u8 ih.1).days (lw := lw) (F := FT 0) hV FT_WF n hn
    refine ⟨W2.2.2.2.2.1, ?_⟩
    rw [px_ch]; dsimp only
    split <;> omega
theorem q_chance {V σ : (Nat → Int → Int)} {lw : (Int → (Int → Int) → Int)} {x n p : Int} (hx : x ≤ 2147483647) : P2 (GC V lw σ) 144 271 [vI x, vI n, vI p] := by
  by_cases c : 0 ≤ x ∧ (1 ≤ n ∧ n ≤ 99) ∧ (0 ≤ p ∧ p ≤ 9999)
  · obtain ⟨c1, c2, c3⟩ := c
    obtain ⟨m, hm⟩ : ∃ m : Nat, n = m := ⟨n.toNat, by omega⟩
    subst hm
    refine ⟨vI (px_ch V lw σ x m p 10).2, fun w I L G d Q q => ?_, fun w I L G d Q q => ?_⟩
    · have G0 := G
      obtain ⟨⟨hw, hR, hL, hV, hM, hN⟩, rS, mS, wS, ny, ct⟩ := id G
      have h12 := hV.1.2.2
      have bd := px_ch_b (lw := lw) (p := p) (n := m) hV wS ⟨c1, hx⟩ (by omega)
      obtain ⟨C, R, T⟩ := G0.tk 0
      rw [S144]
      simp (disch := omega) only [s96, c2, c3, if_true, KX, KC, s1, GA, GR, GRc, GO, GI, GL, GV, am_w_i, am_ga, am_it, am_if, true_and, and_true, or_true, true_or, ne_eq, not_false_eq_true, not_true_eq_false, false_imp_iff, true_imp_iff, Int.reduceEq, Int.reduceLT, Int.reduceLE, Int.reduceAdd, Int.reduceSub, Int.reduceMul, Int.reduceNeg]
      refine am_loop (α := (Nat → Int → Int) × (Nat → Int → Int)) 10 (fun i z => am_WP (d + 20) 144 48 [some (vR (some 0)), some (vI x), some (vI (m : Int)), some (vI p), some (vI (px_ch V lw σ x m p i).1), some (vI (px_ch V lw σ x m p i).2), some (vI (i : Int))] [] (mkH (w.1, w.2.1, w.2.2.1, w.1) z.1 z.2) Q) (fun i z => CC (w.1, w.2.1, w.2.2.1, w.1) z.1 V lw (FT 0) ∧ (∀ a, ¬ (55 ≤ a ∧ a ≤ 58 ∨ a = 63) → z.1 a = I a) ∧ LF L z.2) ?_ ?_ 0 (cz_tk I 0, L) (Nat.zero_le _) ⟨C, fun a ha => cz_tk_a (by omega), LF.rf⟩
      · intro i ⟨Ia, La⟩ hi ⟨Ca, fa, lfa⟩ ih
        dsimp only at Ca fa lfa ⊢
        have b1 := bd i
        have Ra : RS Ia 51 σ := rS.fr (fun a _ _ => fa a (by omega))
        have Ta : CT Ia 51 (V 0 2).toNat := ct.fr (fa 54 (by decide)) ⟨by rw [fa 51 (by decide)], by rw [fa 51 (by decide)], by rw [fa 51 (by decide)]⟩
        have cf := (cz_copy_at (I := Ia) (s := 55) (t := 51) (by omega)).2.2.2.2
        have l : CL V lw (FT 0) (am_up σ 0 8 (px_ch V lw σ x m p i).1) w I L (w.1, w.2.1, w.2.2.1, w.1) (am_up (cz_copy Ia 55 51) 55 8 (px_ch V lw σ x m p i).1) La := by
          refine ⟨rfl, Ca.fr (fun a ha => ?_), (Ra.copy (by omega)).u0, (Ta.copy (by omega) (by omega)).fr ?_ ?_, ny.n, fun a ha => ?_, lfa⟩
          · rw [am_up_a _ _ _ _ (by omega), cf a (by omega)]
          · rw [am_up_a _ _ _ _ (by omega)]
          · rw [am_up_n _ _ _ _ (by decide), am_up_n _ _ _ _ (by decide), am_up_n _ _ _ _ (by decide)]; exact ⟨rfl, rfl, rfl⟩
          · rw [am_up_a _ _ _ _ (by omega), cf a (by omega), fa a (by omega)]
        have Wx := wS.u8 b1.1
        have W2 := Wx.days (lw := lw) (F := FT 0) hV FT_WF m (by omega)
        rw [B144_48]
        simp (disch := omega) only [KX, KC, HS (show isS 55 from Or.inr (Or.inl rfl)), s58 (show isS 55 from Or.inr (Or.inl rfl)) (show isS 51 from Or.inl rfl) (by decide), B144_75, GA, GR, GRc, GO, GI, GL, GV, am_w_i, am_ga, am_it, am_if, true_and, and_true, or_true, true_or, ne_eq, not_false_eq_true, not_true_eq_false, false_imp_iff, true_imp_iff, Int.reduceEq, Int.reduceLT, Int.reduceLE, Int.reduceAdd, Int.reduceSub, Int.reduceMul, Int.reduceNeg]
        refine CL.days l Wx (by omega) (fun I2 L2 l2 => ?_)
        simp (disch := omega) only [KX, KC, HS (show isS 55 from Or.inr (Or.inl rfl)), l2.2.2.1.2.2.2.2.2, GA, GR, GRc, GO, GI, GL, GV, am_w_i, am_ga, am_it, am_if, true_and, and_true, or_true, true_or, ne_eq, not_false_eq_true, not_true_eq_false, false_imp_iff, true_imp_iff, Int.reduceEq, Int.reduceLT, Int.reduceLE, Int.reduceAdd, Int.reduceSub, Int.reduceMul, Int.reduceNeg]
        refine CL.dist l2 W2 (fun L3 l3 => ?_)
        have z := ih (I2, L3) ⟨l3.2.1, l3.2.2.2.2.2.1, l3.2.2.2.2.2.2⟩
        · rw [px_ch] at z
          dsimp only at z
          simp (disch := omega) only [B144_114, GA, GR, GRc, GO, GI, GL, GV, am_w_i, am_ga, am_it, am_if, true_and, and_true, or_true, true_or, ne_eq, not_false_eq_true, not_true_eq_false, false_imp_iff, true_imp_iff, Int.reduceEq, Int.reduceLT, Int.reduceLE, Int.reduceAdd, Int.reduceSub, Int.reduceMul, Int.reduceNeg]
          by_cases c4 : px_dist V lw (FT 0) (px_days V lw (FT 0) m (am_up σ 0 8 (px_ch V lw σ x m p i).1)) (V 0 0).toNat ≤ p
          · rw [if_pos c4] at z
            exact ⟨fun h => absurd c4 (by omega), fun _ => z⟩
          · rw [if_neg c4] at z
            rw [Int.add_zero] at z
            exact ⟨fun _ => z, fun h => absurd (by omega) c4⟩
      · intro ⟨Ia, La⟩ ⟨Ca, fa, lfa⟩
        dsimp only at Ca fa lfa ⊢
        rw [B144_48]
        simp (disch := omega) only [GA, GR, GRc, GO, GI, GL, GV, am_w_i, am_ga, am_it, am_if, true_and, and_true, or_true, true_or, ne_eq, not_false_eq_true, not_true_eq_false, false_imp_iff, true_imp_iff, Int.reduceEq, Int.reduceLT, Int.reduceLE, Int.reduceAdd, Int.reduceSub, Int.reduceMul, Int.reduceNeg]
        refine q _ _ _ ⟨⟨rfl, rfl, rfl⟩, QF.cl (fun a ha => ?_), QL.lf lfa⟩
        rw [fa a (by omega)]
    · have G1 := G.t (v := 0)
      obtain ⟨⟨hw, hR, hL, hV, hM, hN⟩, rS, mS, wS, ny, ct⟩ := id G
      have bd := px_ch_b (lw := lw) (p := p) (n := m) hV wS ⟨c1, hx⟩ (by omega)
      rw [S271]
      simp (disch := omega) only [Kk, B271_5, s153, c2, c3, if_true, B271_44, GA, GR, GRc, GO, GI, GL, GV, am_w_i, am_ga, am_it, am_if, true_and, and_true, or_true, true_or, ne_eq, not_false_eq_true, not_true_eq_false, false_imp_iff, true_imp_iff, Int.reduceEq, Int.reduceLT, Int.reduceLE, Int.reduceAdd, Int.reduceSub, Int.reduceMul, Int.reduceNeg]
      refine am_loop (α := (Nat → Int → Int) × (Nat → Int → Int)) 10 (fun i z => am_WP (d + 20) 271 50 [some (vR (some 99)), some (vI x), some (vI (m : Int)), some (vI p), some (vL (L 99 59)), none, some (vI (px_ch V lw σ x m p i).2), some (vI (i : Int))] [] (mkH w z.1 z.2) Q) (fun i z => QF (am_up I 99 2 0) z.1 ∧ (∀ a, a ≠ 99 → a ≠ 125 → a ≠ 126 → z.2 a = L a) ∧ z.2 99 79 = L 99 79 ∧ z.2 99 59 = (px_ch V lw σ x m p i).1) ?_ ?_ 0 (am_up I 99 2 0, am_up L 99 59 x) (Nat.zero_le _) ⟨QF.rf, fun a h _ _ => am_up_a _ _ _ _ h, by show am_up L 99 59 x 99 79 = _; rw [am_up_n _ _ _ _ (by decide)], by show am_up L 99 59 x 99 59 = x; rw [am_up_s]⟩
      · intro i ⟨Ia, La⟩ hi ⟨fa, la, lb, lc⟩ ih
        dsimp only at fa la lb lc ⊢
        have b1 := bd i
        have b2 := bd (i + 1)
        have Ma : MW Ia V := G1.1.2.2.2.2.1.fr (fun q _ _ => fa.1 q (by omega) (by omega)) (fun j _ _ => fa.2.1 j (by omega) (by omega) (by omega))
        have Na : ML Ia lw := G1.1.2.2.2.2.2.fr (fun q _ _ => fa.1 q (by omega) (by omega))
        have Sa : MS Ia La 0 (am_up σ 0 8 (px_ch V lw σ x m p i).1) := by
          have := (G1.2.2.1.u8 (v := (px_ch V lw σ x m p i).1)).fb (L' := La) fa.2.2 (by rw [lc, am_up_s])
          exact this
        have l0 : MA V lw (FT 1) (am_up σ 0 8 (px_ch V lw σ x m p i).1) Ia La (cz_lt Ia) La := ⟨MC.lt Ma Na hV, Sa.lt, QF.lt, LM.rf⟩
        have l : MA V lw (FT 0) (am_up σ 0 8 (px_ch V lw σ x m p i).1) Ia La (am_up (cz_lt Ia) 99 60 1) La := by
          refine l0.fl (fun a h => am_up_a _ _ _ _ h) (fun j h => am_up_n _ _ _ _ (by omega)) ?_ FT_WF
          have := (cz_lt_at (I := Ia)).2.2.1
          unfold MFl FT am_up at *; simp_all
        have Wx := wS.u8 b1.1
        have W2 := Wx.days (lw := lw) (F := FT 0) hV FT_WF m (by omega)
        rw [B271_50]
        simp (disch := omega) only [Kk, s198, B271_66, GA, GR, GRc, GO, GI, GL, GV, am_w_i, am_ga, am_it, am_if, true_and, and_true, or_true, true_or, ne_eq, not_false_eq_true, not_true_eq_false, false_imp_iff, true_imp_iff, Int.reduceEq, Int.reduceLT, Int.reduceLE, Int.reduceAdd, Int.reduceSub, Int.reduceMul, Int.reduceNeg]
        refine MA.days l Wx (by omega) (fun I2 L2 l2 => ?_)
        simp (disch := omega) only [Kk, GA, GR, GRc, GO, GI, GL, GV, am_w_i, am_ga, am_it, am_if, true_and, and_true, or_true, true_or, ne_eq, not_false_eq_true, not_true_eq_false, false_imp_iff, true_imp_iff, Int.reduceEq, Int.reduceLT, Int.reduceLE, Int.reduceAdd, Int.reduceSub, Int.reduceMul, Int.reduceNeg]
        refine MA.dist l2 W2 (fun I3 L3 l3 => ?_)
        have z := ih (I3, L3) ⟨fa.tr l3.2.2.1, fun a h1 h2 h3 => (l3.2.2.2.1 a h1 h2 h3).trans (la a h1 h2 h3), (l3.2.2.2.2 79 (by decide)).trans lb, l3.2.1.2.2.2.2.2⟩
        rw [px_ch] at z
        dsimp only at z
        simp (disch := omega) only [B271_87, GA, GR, GRc, GO, GI, GL, GV, am_w_i, am_ga, am_it, am_if, true_and, and_true, or_true, true_or, ne_eq, not_false_eq_true, not_true_eq_false, false_imp_iff, true_imp_iff, Int.reduceEq, Int.reduceLT, Int.reduceLE, Int.reduceAdd, Int.reduceSub, Int.reduceMul, Int.reduceNeg]
        by_cases c4 : px_dist V lw (FT 0) (px_days V lw (FT 0) m (am_up σ 0 8 (px_ch V lw σ x m p i).1)) (V 0 0).toNat ≤ p
        · rw [if_pos c4] at z
          exact ⟨fun h => absurd c4 (by omega), fun _ => z⟩
        · rw [if_neg c4] at z
          exact ⟨fun _ => z, fun h => absurd (by omega) c4⟩
      · intro ⟨Ia, La⟩ ⟨fa, la, lb, lc⟩
        dsimp only at fa la lb lc ⊢
        rw [B271_50]
        simp (disch := omega) only [Kk, B271_101, B271_107, GA, GR, GRc, GO, GI, GL, GV, am_w_i, am_ga, am_it, am_if, true_and, and_true, or_true, true_or, ne_eq, not_false_eq_true, not_true_eq_false, false_imp_iff, true_imp_iff, Int.reduceEq, Int.reduceLT, Int.reduceLE, Int.reduceAdd, Int.reduceSub, Int.reduceMul, Int.reduceNeg]
        refine q _ _ ⟨⟨rfl, rfl, rfl⟩, (QF.f (Or.inl rfl)).tr (fa.tr (QF.f (Or.inr (Or.inr (by omega))))), fun a _ _ _ _ h5 h6 h7 => ?_, am_up_s _ _ _ _, ?_⟩
        · rw [am_up_a _ _ _ _ h7, la a h7 h5 h6]
        · rw [am_up_n _ _ _ _ (by decide), lb]
  · refine ⟨vI (-1), fun w I L G d Q q => ?_, fun w I L G d Q q => ?_⟩
    · have z := q _ _ _ QR.rf
      rw [S144]
      by_cases c1 : 0 ≤ x
      · by_cases c2 : 1 ≤ n ∧ n ≤ 99
        · have c3 : ¬ (0 ≤ p ∧ p ≤ 9999) := fun h => c ⟨c1, c2, h⟩
          simp (disch := omega) only [s96, c2, c3, if_true, if_false, B144_25, z, GA, GR, GRc, GO, GI, GL, GV, am_w_i, am_ga, am_it, am_if, true_and, and_true, or_true, true_or, ne_eq, not_false_eq_true, not_true_eq_false, false_imp_iff, true_imp_iff, Int.reduceEq, Int.reduceLT, Int.reduceLE, Int.reduceAdd, Int.reduceSub, Int.reduceMul, Int.reduceNeg]
        · simp (disch := omega) only [s96, c2, if_false, B144_25, z, GA, GR, GRc, GO, GI, GL, GV, am_w_i, am_ga, am_it, am_if, true_and, and_true, or_true, true_or, ne_eq, not_false_eq_true, not_true_eq_false, false_imp_iff, true_imp_iff, Int.reduceEq, Int.reduceLT, Int.reduceLE, Int.reduceAdd, Int.reduceSub, Int.reduceMul, Int.reduceNeg]
      · simp (disch := omega) only [B144_25, z, GA, GR, GRc, GO, GI, GL, GV, am_w_i, am_ga, am_it, am_if, true_and, and_true, or_true, true_or, ne_eq, not_false_eq_true, not_true_eq_false, false_imp_iff, true_imp_iff, Int.reduceEq, Int.reduceLT, Int.reduceLE, Int.reduceAdd, Int.reduceSub, Int.reduceMul, Int.reduceNeg]
    · have z := q _ _ (QR.t (v := 0))
      rw [S271]
      by_cases c1 : 0 ≤ x
      · by_cases c2 : 1 ≤ n ∧ n ≤ 99
        · have c3 : ¬ (0 ≤ p ∧ p ≤ 9999) := fun h => c ⟨c1, c2, h⟩
          simp (disch := omega) only [Kk, B271_5, s153, c2, c3, if_true, if_false, B271_30, z, GA, GR, GRc, GO, GI, GL, GV, am_w_i, am_ga, am_it, am_if, true_and, and_true, or_true, true_or, ne_eq, not_false_eq_true, not_true_eq_false, false_imp_iff, true_imp_iff, Int.reduceEq, Int.reduceLT, Int.reduceLE, Int.reduceAdd, Int.reduceSub, Int.reduceMul, Int.reduceNeg]
        · simp (disch := omega) only [Kk, B271_5, s153, c2, if_false, B271_30, z, GA, GR, GRc, GO, GI, GL, GV, am_w_i, am_ga, am_it, am_if, true_and, and_true, or_true, true_or, ne_eq, not_false_eq_true, not_true_eq_false, false_imp_iff, true_imp_iff, Int.reduceEq, Int.reduceLT, Int.reduceLE, Int.reduceAdd, Int.reduceSub, Int.reduceMul, Int.reduceNeg]
      · simp (disch := omega) only [Kk, B271_5, B271_30, z, GA, GR, GRc, GO, GI, GL, GV, am_w_i, am_ga, am_it, am_if, true_and, and_true, or_true, true_or, ne_eq, not_false_eq_true, not_true_eq_false, false_imp_iff, true_imp_iff, Int.reduceEq, Int.reduceLT, Int.reduceLE, Int.reduceAdd, Int.reduceSub, Int.reduceMul, Int.reduceNeg]
/-- the best doing of a twin: which, how far then -/
def px_best (V : (Nat → Int → Int)) (lw : (Int → (Int → Int) → Int)) (σ : (Nat → Int → Int)) (t : Int) : Nat → Int × Int
  | 0 => (-2, 0)
  | m + 1 => if (px_best V lw σ t m).1 < 0 ∨ px_dist V lw (FT 1) (px_add V σ t m) (V 0 0).toNat < (px_best V lw σ t m).2 ∨ (px_dist V lw (FT 1) (px_add V σ t m) (V 0 0).toNat = (px_best V lw σ t m).2 ∧ V 8 m < V 8 (px_best V lw σ t m).1) then ((m : Int), px_dist V lw (FT 1) (px_add V σ t m) (V 0 0).toNat) else px_best V lw σ t m
theorem px_best_b {V σ : (Nat → Int → Int)} {lw : (Int → (Int → Int) → Int)} {t : Int} : ∀ m : Nat, -2 ≤ (px_best V lw σ t m).1 ∧ (px_best V lw σ t m).1 < m ∧ ((px_best V lw σ t m).1 < 0 → (px_best V lw σ t m).1 = -2)
  | 0 => by simp [px_best]
  | m + 1 => by
    have ih := px_best_b (V := V) (σ := σ) (lw := lw) (t := t) m
    rw [px_best]
    split
    · dsimp only; omega
    · omega
theorem WS.add {V σ : (Nat → Int → Int)} {D t e : Int} (h : WS D σ) : WS D (px_add V σ t e) := h.u1 (px_cl_b _)
theorem NY.add {V σ : (Nat → Int → Int)} {t e : Int} (h : NY V σ) : NY V (px_add V σ t e) := by
  intro i a b c
  unfold px_add at c ⊢
  rw [am_up_a _ _ _ _ (by decide)] at c ⊢; exact h i a b c
theorem q_best {V σ : (Nat → Int → Int)} {lw : (Int → (Int → Int) → Int)} {t : Int} : P2 (GC V lw σ) 121 247 [vI t] := by
  by_cases c : t = 0 ∨ t = 1
  · have htw : 0 ≤ t ∧ t < 2 := by omega
    refine ⟨vI (px_best V lw σ t (V 0 1).toNat).1, fun w I L G d Q q => ?_, fun w I L G d Q q => ?_⟩
    · have G0 := G
      obtain ⟨⟨hw, hR, hL, hV, hM, hN⟩, rS, mS, wS, ny, ct⟩ := id G
      have h6 := hV.1.1
      have h8 := hV.1.2.1
      have h12 := hV.1.2.2
      obtain ⟨n, hn⟩ : ∃ n : Nat, V 0 1 = n := ⟨(V 0 1).toNat, by omega⟩
      have hn2 : (V 0 1).toNat = n := by omega
      rw [hn2] at q
      obtain ⟨C, R, T⟩ := G0.tk 1
      rw [S121]
      simp (disch := omega) only [s95, c, if_true, KX, KC, s1, GA, GR, GRc, GO, GI, GL, GV, am_w_i, am_ga, am_it, am_if, true_and, and_true, or_true, true_or, ne_eq, not_false_eq_true, not_true_eq_false, false_imp_iff, true_imp_iff, Int.reduceEq, Int.reduceLT, Int.reduceLE, Int.reduceAdd, Int.reduceSub, Int.reduceMul, Int.reduceNeg]
      refine am_loop (α := Option am_V × (Nat → Int → Int) × (Nat → Int → Int)) n (fun i z => am_WP (d + 20) 121 29 [some (vR (some 0)), some (vI t), some (vI (px_best V lw σ t i).1), some (vI (px_best V lw σ t i).2), some (vI (i : Int)), z.1] [] (mkH (w.1, w.2.1, w.2.2.1, w.1) z.2.1 z.2.2) Q) (fun i z => CC (w.1, w.2.1, w.2.2.1, w.1) z.2.1 V lw (FT 1) ∧ (∀ a, ¬ (55 ≤ a ∧ a ≤ 58 ∨ a = 63) → z.2.1 a = I a) ∧ LF L z.2.2) ?_ ?_ 0 (none, cz_tk I 1, L) (Nat.zero_le _) ⟨C, fun a ha => cz_tk_a (by omega), LF.rf⟩
      · intro i ⟨l5, Ia, La⟩ hi ⟨Ca, fa, lfa⟩ ih
        dsimp only at Ca fa lfa ⊢
        have bb := px_best_b (V := V) (σ := σ) (lw := lw) (t := t) i
        have Ra : RS Ia 51 σ := rS.fr (fun a _ _ => fa a (by omega))
        have Ta : CT Ia 51 (V 0 2).toNat := ct.fr (fa 54 (by decide)) ⟨by rw [fa 51 (by decide)], by rw [fa 51 (by decide)], by rw [fa 51 (by decide)]⟩
        have cf := (cz_copy_at (I := Ia) (s := 55) (t := 51) (by omega)).2.2.2.2
        have Rc : RS (cz_copy Ia 55 51) 55 σ := Ra.copy (by omega)
        have v := Ca.2.1.2.2.1 i (by omega) (by omega)
        have wv := hV.2.2.1 i (by omega) (by omega)
        have hwl := isW_le hw
        have v6 : cz_copy Ia 55 51 (w.1 + 6) i = V 6 i := by rw [cf _ (by omega)]; exact v.2.1
        have v7 : cz_copy Ia 55 51 (w.1 + 7) i = V 7 i := by rw [cf _ (by omega)]; exact v.2.2.1
        have a1 : cz_copy Ia 55 51 (55 + 1) (2 * V 6 i + t) = σ 1 (2 * V 6 i + t) := Rc.1 _ (by omega) (by omega)
        have l : CL V lw (FT 1) (px_add V σ t i) w I L (w.1, w.2.1, w.2.2.1, w.1) (am_up (cz_copy Ia 55 51) (55 + 1) (2 * V 6 i + t) (px_cl (σ 1 (2 * V 6 i + t) + V 7 i))) La := by
          refine ⟨rfl, Ca.fr (fun a ha => ?_), Rc.u1, (Ta.copy (by omega) (by omega)).fr ?_ ?_, ny.add, fun a ha => ?_, lfa⟩
          · rw [am_up_a _ _ _ _ (by omega), cf a (by omega)]
          · rw [am_up_a _ _ _ _ (by omega)]
          · rw [am_up_a _ _ _ _ (by omega)]; exact ⟨rfl, rfl, rfl⟩
          · rw [am_up_a _ _ _ _ (by omega), cf a (by omega), fa a (by omega)]
        have g1 : Ia w.1 5 = n := by have : Ia w.1 5 = V 0 1 := Ca.2.1.1.2.1; omega
        rw [B121_29]
        simp (disch := omega) only [KX, KC, HW hw, HS (show isS 55 from Or.inr (Or.inl rfl)), g1, s58 (show isS 55 from Or.inr (Or.inl rfl)) (show isS 51 from Or.inl rfl) (by decide), v6, v7, s61 (s := 55) (Or.inr (Or.inl rfl)) (k := V 6 i) (t := t) ⟨wv.1.1, by omega⟩ htw (Rc.bA wS.1) (v := V 7 i) ⟨by omega, by omega⟩, a1, GA, GR, GRc, GO, GI, GL, GV, am_w_i, am_ga, am_it, am_if, true_and, and_true, or_true, true_or, ne_eq, not_false_eq_true, not_true_eq_false, false_imp_iff, true_imp_iff, Int.reduceEq, Int.reduceLT, Int.reduceLE, Int.reduceAdd, Int.reduceSub, Int.reduceMul, Int.reduceNeg]
        refine CL.dist l wS.add (fun L3 l3 => ?_)
        have z := ih (some (vI (px_dist V lw (FT 1) (px_add V σ t i) (V 0 0).toNat)), _, L3) ⟨l3.2.1, l3.2.2.2.2.2.1, l3.2.2.2.2.2.2⟩
        rw [px_best] at z
        simp (disch := omega) only [B121_131, B121_137, GA, GR, GRc, GO, GI, GL, GV, am_w_i, am_ga, am_it, am_if, true_and, and_true, or_true, true_or, ne_eq, not_false_eq_true, not_true_eq_false, false_imp_iff, true_imp_iff, Int.reduceEq, Int.reduceLT, Int.reduceLE, Int.reduceAdd, Int.reduceSub, Int.reduceMul, Int.reduceNeg]
        by_cases c1 : (px_best V lw σ t i).1 < 0
        · rw [if_pos (Or.inl c1)] at z
          exact ⟨fun _ => z, fun h => absurd c1 h⟩
        · have k1 := (l3.2.1.2.1.2.2.1 i (by omega) (by omega)).2.2.2.1
          have k2 := (l3.2.1.2.1.2.2.1 (px_best V lw σ t i).1 (by omega) (by omega)).2.2.2.1
          refine ⟨fun h => absurd h c1, fun _ => ⟨fun c2 => ?_, fun c2 => ⟨fun c3 => ?_, fun c3 => ?_⟩⟩⟩
          · rw [if_pos (Or.inr (Or.inl c2))] at z; exact z
          · rw [if_neg (by omega)] at z; exact z
          · dsimp only at k1 k2
            simp (disch := omega) only [KX, HW hw, k1, k2, GA, GR, GRc, GO, GI, GL, GV, am_w_i, am_ga, am_it, am_if, true_and, and_true, or_true, true_or, ne_eq, not_false_eq_true, not_true_eq_false, false_imp_iff, true_imp_iff, Int.reduceEq, Int.reduceLT, Int.reduceLE, Int.reduceAdd, Int.reduceSub, Int.reduceMul, Int.reduceNeg]
            refine ⟨fun c4 => ?_, fun c4 => ?_⟩
            · rw [if_neg (by omega)] at z; exact z
            · rw [if_pos (by omega)] at z; exact z
      · intro ⟨l5, Ia, La⟩ ⟨Ca, fa, lfa⟩
        dsimp only at Ca fa lfa ⊢
        have g1 : Ia w.1 5 = n := by have : Ia w.1 5 = V 0 1 := Ca.2.1.1.2.1; omega
        rw [B121_29]
        simp (disch := omega) only [KX, HW hw, g1, GA, GR, GRc, GO, GI, GL, GV, am_w_i, am_ga, am_it, am_if, true_and, and_true, or_true, true_or, ne_eq, not_false_eq_true, not_true_eq_false, false_imp_iff, true_imp_iff, Int.reduceEq, Int.reduceLT, Int.reduceLE, Int.reduceAdd, Int.reduceSub, Int.reduceMul, Int.reduceNeg]
        refine q _ _ _ ⟨⟨rfl, rfl, rfl⟩, QF.cl (fun a ha => ?_), QL.lf lfa⟩
        rw [fa a (by omega)]
    · have G1 := G.t (v := 0)
      obtain ⟨⟨hw, hR, hL, hV, hM, hN⟩, rS, mS, wS, ny, ct⟩ := id G
      have h6 := hV.1.1
      have h8 := hV.1.2.1
      obtain ⟨n, hn⟩ : ∃ n : Nat, V 0 1 = n := ⟨(V 0 1).toNat, by omega⟩
      have hn2 : (V 0 1).toNat = n := by omega
      rw [hn2] at q
      rw [S247]
      simp (disch := omega) only [Kk, B247_5, s201, c, if_true, GA, GR, GRc, GO, GI, GL, GV, am_w_i, am_ga, am_it, am_if, true_and, and_true, or_true, true_or, ne_eq, not_false_eq_true, not_true_eq_false, false_imp_iff, true_imp_iff, Int.reduceEq, Int.reduceLT, Int.reduceLE, Int.reduceAdd, Int.reduceSub, Int.reduceMul, Int.reduceNeg]
      refine am_loop (α := Option am_V × (Nat → Int → Int) × (Nat → Int → Int)) n (fun i z => am_WP (d + 20) 247 22 [some (vR (some 99)), some (vI t), some (vI (px_best V lw σ t i).1), some (vI (px_best V lw σ t i).2), some (vI (i : Int)), z.1] [] (mkH w z.2.1 z.2.2) Q) (fun i z => QR w (am_up I 99 2 0) L w z.2.1 z.2.2) ?_ ?_ 0 (none, am_up I 99 2 0, L) (Nat.zero_le _) QR.rf
      · intro i ⟨l5, Ia, La⟩ hi r ih
        dsimp only at r ⊢
        have Ga := G1.q r
        have bb := px_best_b (V := V) (σ := σ) (lw := lw) (t := t) i
        rw [B247_22]
        simp (disch := omega) only [Kk, Ga.1.2.2.2.2.1.1.2.1, hn, s198, GA, GR, GRc, GO, GI, GL, GV, am_w_i, am_ga, am_it, am_if, true_and, and_true, or_true, true_or, ne_eq, not_false_eq_true, not_true_eq_false, false_imp_iff, true_imp_iff, Int.reduceEq, Int.reduceLT, Int.reduceLE, Int.reduceAdd, Int.reduceSub, Int.reduceMul, Int.reduceNeg]
        refine s214 Ga.lt.1 (Or.inr rfl) Ga.lt.2.1 wS htw (by omega) (by omega) (fun I2 R2 F2 => ?_)
        have l2 : MA V lw (FT 1) (px_add V σ t i) Ia La I2 La := ⟨Ga.lt.1.fr F2, R2, QF.lt.tr (QF.mf F2), LM.rf⟩
        simp (disch := omega) only [Kk, GA, GR, GRc, GO, GI, GL, GV, am_w_i, am_ga, am_it, am_if, true_and, and_true, or_true, true_or, ne_eq, not_false_eq_true, not_true_eq_false, false_imp_iff, true_imp_iff, Int.reduceEq, Int.reduceLT, Int.reduceLE, Int.reduceAdd, Int.reduceSub, Int.reduceMul, Int.reduceNeg]
        refine MA.dist l2 wS.add (fun I3 L3 l3 => ?_)
        have e8 : px_add V σ t i 0 8 = La 99 59 := by unfold px_add; rw [am_up_a _ _ _ _ (by decide)]; exact Ga.2.2.1.2.2.2.2.2.symm
        have z := ih (some (vI (px_dist V lw (FT 1) (px_add V σ t i) (V 0 0).toNat)), I3, L3) (r.tr (l3.qr e8))
        rw [px_best] at z
        simp (disch := omega) only [B247_85, B247_91, GA, GR, GRc, GO, GI, GL, GV, am_w_i, am_ga, am_it, am_if, true_and, and_true, or_true, true_or, ne_eq, not_false_eq_true, not_true_eq_false, false_imp_iff, true_imp_iff, Int.reduceEq, Int.reduceLT, Int.reduceLE, Int.reduceAdd, Int.reduceSub, Int.reduceMul, Int.reduceNeg]
        by_cases c1 : (px_best V lw σ t i).1 < 0
        · rw [if_pos (Or.inl c1)] at z
          exact ⟨fun _ => z, fun h => absurd c1 h⟩
        · have k1 := (l3.1.1.2.2.1 i (by omega) (by omega)).2.2.2.1
          have k2 := (l3.1.1.2.2.1 (px_best V lw σ t i).1 (by omega) (by omega)).2.2.2.1
          refine ⟨fun h => absurd h c1, fun _ => ⟨fun c2 => ?_, fun c2 => ⟨fun c3 => ?_, fun c3 => ?_⟩⟩⟩
          · rw [if_neg (by omega)] at z; exact z
          · rw [if_pos (by omega)] at z; exact z
          · simp (disch := omega) only [Kk, Kw, k1, k2, GA, GR, GRc, GO, GI, GL, GV, am_w_i, am_ga, am_it, am_if, true_and, and_true, or_true, true_or, ne_eq, not_false_eq_true, not_true_eq_false, false_imp_iff, true_imp_iff, Int.reduceEq, Int.reduceLT, Int.reduceLE, Int.reduceAdd, Int.reduceSub, Int.reduceMul, Int.reduceNeg]
            refine ⟨fun c4 => ?_, fun c4 => ?_⟩
            · rw [if_pos (by omega)] at z; exact z
            · rw [if_neg (by omega)] at z; exact z
      · intro ⟨l5, Ia, La⟩ r
        dsimp only at r ⊢
        have Ga := G1.q r
        rw [B247_22]
        simp (disch := omega) only [Kk, Ga.1.2.2.2.2.1.1.2.1, hn, GA, GR, GRc, GO, GI, GL, GV, am_w_i, am_ga, am_it, am_if, true_and, and_true, or_true, true_or, ne_eq, not_false_eq_true, not_true_eq_false, false_imp_iff, true_imp_iff, Int.reduceEq, Int.reduceLT, Int.reduceLE, Int.reduceAdd, Int.reduceSub, Int.reduceMul, Int.reduceNeg]
        exact q _ _ (QR.t.tr r)
  · refine ⟨vI (-1), fun w I L G d Q q => ?_, fun w I L G d Q q => ?_⟩
    · have z := q _ _ _ QR.rf
      rw [S121]
      simp (disch := omega) only [s95, c, if_false, z, GA, GR, GRc, GO, GI, GL, GV, am_w_i, am_ga, am_it, am_if, true_and, and_true, or_true, true_or, ne_eq, not_false_eq_true, not_true_eq_false, false_imp_iff, true_imp_iff, Int.reduceEq, Int.reduceLT, Int.reduceLE, Int.reduceAdd, Int.reduceSub, Int.reduceMul, Int.reduceNeg]
    · have z := q _ _ (QR.t (v := 0))
      rw [S247]
      simp (disch := omega) only [Kk, B247_5, s201, c, if_false, z, GA, GR, GRc, GO, GI, GL, GV, am_w_i, am_ga, am_it, am_if, true_and, and_true, or_true, true_or, ne_eq, not_false_eq_true, not_true_eq_false, false_imp_iff, true_imp_iff, Int.reduceEq, Int.reduceLT, Int.reduceLE, Int.reduceAdd, Int.reduceSub, Int.reduceMul, Int.reduceNeg]
