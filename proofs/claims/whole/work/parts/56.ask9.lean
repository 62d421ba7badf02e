/-! 56: law, fault, named -/
def px_lawv (V σ : (Nat → Int → Int)) (lw : (Int → (Int → Int) → Int)) (a i t : Int) : Int := lw a (px_nm V (FT 1) σ (if a = 2 then V 6 i else i) (if a = 0 then 0 else t))
theorem q_law {V σ : (Nat → Int → Int)} {lw : (Int → (Int → Int) → Int)} {a i t : Int} : P2 (GC V lw σ) 102 228 [vI a, vI i, vI t] := by
  by_cases c1 : 0 ≤ a ∧ a ≤ 2
  · by_cases c2 : (a = 2 → 0 ≤ i ∧ i < V 0 1) ∧ (a ≠ 2 → 0 ≤ i ∧ i < V 0 0)
    · by_cases c3 : a = 0 ∨ (t = 0 ∨ t = 1)
      · refine ⟨vL (px_lawv V σ lw a i t), fun w I L G d Q q => ?_, fun w I L G d Q q => ?_⟩
        · have G0 := G
          obtain ⟨C, R, T⟩ := G0.tk 1
          obtain ⟨⟨hw, hR, hL, hV, hM, hN⟩, rS, mS, wS, ny, ct⟩ := id G
          have h6 := hV.1.1
          have h8 := hV.1.2.1
          have fin : ∀ l4 : Int, (l4 = if a = 2 then 1 else 0) → am_WP (d + 20) 102 64 [some (vR (some 0)), some (vI a), some (vI i), some (vI t), some (vI l4)] [] (mkH w I L) Q := by
            intro l4 e4
            have go : ∀ k tt : Int, k = (if a = 2 then V 6 i else i) → tt = (if a = 0 then 0 else t) → am_WP (d + 20) 102 112 [some (vR (some 0)), some (vI a), some (vI i), some (vI t), some (vI l4)] [vI tt, vI k, vI a, vR (some 51), vR (some 63)] (mkH (w.1, w.2.1, w.2.2.1, w.1) (cz_tk I 1) L) Q := by
              intro k tt ek et
              rw [B102_112]
              simp (disch := omega) only [KC, GA, GR, GRc, GO, GI, GL, GV, am_w_i, am_ga, am_it, am_if, true_and, and_true, or_true, true_or, ne_eq, not_false_eq_true, not_true_eq_false, false_imp_iff, true_imp_iff, Int.reduceEq, Int.reduceLT, Int.reduceLE, Int.reduceAdd, Int.reduceSub, Int.reduceMul, Int.reduceNeg]
              have hk : 0 ≤ k ∧ k < V 0 0 := by
                rw [ek]; by_cases e : a = 2
                · rw [if_pos e]; exact (hV.2.2.1 i (c2.1 e).1 (c2.1 e).2).1
                · rw [if_neg e]; exact c2.2 e
              have ht : 0 ≤ tt ∧ tt < 2 := by
                rw [et]; by_cases e : a = 0
                · rw [if_pos e]; omega
                · rw [if_neg e]; omega
              refine s3 C (Or.inl rfl) R wS ⟨c1.1, by omega⟩ hk.1 hk.2 ht (fun L' l => ?_)
              simp (disch := omega) only [GA, GR, GRc, GO, GI, GL, GV, am_w_i, am_ga, am_it, am_if, true_and, and_true, or_true, true_or, ne_eq, not_false_eq_true, not_true_eq_false, false_imp_iff, true_imp_iff, Int.reduceEq, Int.reduceLT, Int.reduceLE, Int.reduceAdd, Int.reduceSub, Int.reduceMul, Int.reduceNeg]
              have := q _ _ _ (show QR w I L (w.1, w.2.1, w.2.2.1, w.1) (cz_tk I 1) L' from ⟨⟨rfl, rfl, rfl⟩, QF.cl (fun x hx => cz_tk_a (by omega)), QL.lf l⟩)
              unfold px_lawv at this
              rw [← ek, ← et] at this
              exact this
            rw [B102_64]
            simp (disch := omega) only [KX, KC, s1, GA, GR, GRc, GO, GI, GL, GV, am_w_i, am_ga, am_it, am_if, true_and, and_true, or_true, true_or, ne_eq, not_false_eq_true, not_true_eq_false, false_imp_iff, true_imp_iff, Int.reduceEq, Int.reduceLT, Int.reduceLE, Int.reduceAdd, Int.reduceSub, Int.reduceMul, Int.reduceNeg]
            by_cases e : a = 2
            · rw [if_pos e] at e4
              have v := C.2.1.2.2.1 i (c2.1 e).1 (c2.1 e).2
              have v6 : cz_tk I 1 (w.1 + 6) i = V 6 i := v.2.1
              simp (disch := omega) only [e4, HW hw, (c2.1 e), v6, GA, GR, GRc, GO, GI, GL, GV, am_w_i, am_ga, am_it, am_if, true_and, and_true, or_true, true_or, ne_eq, not_false_eq_true, not_true_eq_false, false_imp_iff, true_imp_iff, Int.reduceEq, Int.reduceLT, Int.reduceLE, Int.reduceAdd, Int.reduceSub, Int.reduceMul, Int.reduceNeg]
              rw [B102_103]
              simp (disch := omega) only [e, GA, GR, GRc, GO, GI, GL, GV, am_w_i, am_ga, am_it, am_if, true_and, and_true, or_true, true_or, ne_eq, not_false_eq_true, not_true_eq_false, false_imp_iff, true_imp_iff, Int.reduceEq, Int.reduceLT, Int.reduceLE, Int.reduceAdd, Int.reduceSub, Int.reduceMul, Int.reduceNeg]
              rw [e] at go
              have g := go (V 6 i) t rfl rfl
              rw [e4] at g
              first | exact g | exact ⟨⟨(c2.1 e).1, by have := c2.1 e; omega⟩, g⟩
            · rw [if_neg e] at e4
              simp (disch := omega) only [e4, GA, GR, GRc, GO, GI, GL, GV, am_w_i, am_ga, am_it, am_if, true_and, and_true, or_true, true_or, ne_eq, not_false_eq_true, not_true_eq_false, false_imp_iff, true_imp_iff, Int.reduceEq, Int.reduceLT, Int.reduceLE, Int.reduceAdd, Int.reduceSub, Int.reduceMul, Int.reduceNeg]
              rw [B102_103]
              by_cases e0 : a = 0
              · simp (disch := omega) only [e0, GA, GR, GRc, GO, GI, GL, GV, am_w_i, am_ga, am_it, am_if, true_and, and_true, or_true, true_or, ne_eq, not_false_eq_true, not_true_eq_false, false_imp_iff, true_imp_iff, Int.reduceEq, Int.reduceLT, Int.reduceLE, Int.reduceAdd, Int.reduceSub, Int.reduceMul, Int.reduceNeg]
                rw [e0] at go
                have g := go i 0 rfl rfl
                rw [e4] at g
                exact g
              · simp (disch := omega) only [e0, GA, GR, GRc, GO, GI, GL, GV, am_w_i, am_ga, am_it, am_if, true_and, and_true, or_true, true_or, ne_eq, not_false_eq_true, not_true_eq_false, false_imp_iff, true_imp_iff, Int.reduceEq, Int.reduceLT, Int.reduceLE, Int.reduceAdd, Int.reduceSub, Int.reduceMul, Int.reduceNeg]
                have g := go i t (by rw [if_neg e]) (by rw [if_neg e0])
                rw [e4] at g
                exact g
          have f49 : ∀ l4 : Int, (l4 = if a = 2 then 1 else 0) → am_WP (d + 20) 102 49 [some (vR (some 0)), some (vI a), some (vI i), some (vI t), some (vI l4)] [] (mkH w I L) Q := by
            intro l4 e4
            have f := fin l4 e4
            rw [B102_49]
            by_cases e0 : a = 0
            · rw [e0] at f ⊢
              simp (disch := omega) only [f, GA, GR, GRc, GO, GI, GL, GV, am_w_i, am_ga, am_it, am_if, true_and, and_true, or_true, true_or, ne_eq, not_false_eq_true, not_true_eq_false, false_imp_iff, true_imp_iff, Int.reduceEq, Int.reduceLT, Int.reduceLE, Int.reduceAdd, Int.reduceSub, Int.reduceMul, Int.reduceNeg]
            · have e5 : t = 0 ∨ t = 1 := by omega
              simp (disch := omega) only [e0, s95, e5, if_true, f, GA, GR, GRc, GO, GI, GL, GV, am_w_i, am_ga, am_it, am_if, true_and, and_true, or_true, true_or, ne_eq, not_false_eq_true, not_true_eq_false, false_imp_iff, true_imp_iff, Int.reduceEq, Int.reduceLT, Int.reduceLE, Int.reduceAdd, Int.reduceSub, Int.reduceMul, Int.reduceNeg]
          rw [S102]
          by_cases e : a = 2
          · have f := f49 1 (by rw [if_pos e])
            have c4 := c2.1 e
            simp (disch := omega) only [KX, e, B102_10, s94 hw hR, c4, if_true, GA, GR, GRc, GO, GI, GL, GV, am_w_i, am_ga, am_it, am_if, true_and, and_true, or_true, true_or, ne_eq, not_false_eq_true, not_true_eq_false, false_imp_iff, true_imp_iff, Int.reduceEq, Int.reduceLT, Int.reduceLE, Int.reduceAdd, Int.reduceSub, Int.reduceMul, Int.reduceNeg]
            rw [e] at f; exact f
          · have f := f49 0 (by rw [if_neg e])
            have c4 := c2.2 e
            simp (disch := omega) only [KX, e, B102_10, s93 hw hR, c4, if_true, f, GA, GR, GRc, GO, GI, GL, GV, am_w_i, am_ga, am_it, am_if, true_and, and_true, or_true, true_or, ne_eq, not_false_eq_true, not_true_eq_false, false_imp_iff, true_imp_iff, Int.reduceEq, Int.reduceLT, Int.reduceLE, Int.reduceAdd, Int.reduceSub, Int.reduceMul, Int.reduceNeg]
        · have G1 := G.t (v := 0)
          obtain ⟨⟨hw, hR, hL, hV, hM, hN⟩, rS, mS, wS, ny, ct⟩ := id G
          have h6 := hV.1.1
          have h8 := hV.1.2.1
          have hk : 0 ≤ (if a = 2 then V 6 i else i) ∧ (if a = 2 then V 6 i else i) < V 0 0 := by
            by_cases e : a = 2
            · rw [if_pos e]; exact (hV.2.2.1 i (c2.1 e).1 (c2.1 e).2).1
            · rw [if_neg e]; exact c2.2 e
          have ht : 0 ≤ (if a = 0 then 0 else t) ∧ (if a = 0 then 0 else t) < 2 := by
            by_cases e : a = 0
            · rw [if_pos e]; omega
            · rw [if_neg e]; omega
          have C := MC.pl (G1.1.2.2.2.2.1) (G1.1.2.2.2.2.2) hV
          have Rm := G1.2.2.1.pl
          have q117 : ∀ (l4 x : Int) (J M : (Nat → Int → Int)), am_WP (d + 20) 228 117 [some (vR (some 99)), some (vI a), some (vI i), some (vI t), some (vL l4), none] [vL x] (mkH w J M) Q ↔ Q (some (vL x)) (mkH w J M) := fun l4 x J M => B228_117 _ _ _ _ _ _ _ _ _
          rcases hN a c1.1 (by omega) with ⟨u1, u2⟩ | ⟨u1, m, u2, u3, u4, u5, u6, u7⟩
          · have z := q _ _ (QR.t (v := 0))
            unfold px_lawv at z
            rw [u2] at z
            rw [S228]
            simp (disch := omega) only [Kk, B228_5, s153, c1, if_true, Kl, am_up_a, u1, B228_58, GA, GR, GRc, GO, GI, GL, GV, am_w_i, am_ga, am_it, am_if, true_and, and_true, or_true, true_or, ne_eq, not_false_eq_true, not_true_eq_false, false_imp_iff, true_imp_iff, Int.reduceEq, Int.reduceLT, Int.reduceLE, Int.reduceAdd, Int.reduceSub, Int.reduceMul, Int.reduceNeg]
            exact z
          · have told : am_up I 99 2 0 117 a = 1 := by rw [am_up_a _ _ _ _ (by decide)]; exact u1
            have fin : am_WP (d + 20) 228 92 [some (vR (some 99)), some (vI a), some (vI i), some (vI t), none, none] [vI (if a = 0 then 0 else t), vI (if a = 2 then V 6 i else i), vI 0, vR (some 99)] (mkH w (cz_pl (am_up I 99 2 0)) L) Q := by
              rw [B228_92]
              simp (disch := omega) only [Kk, GA, GR, GRc, GO, GI, GL, GV, am_w_i, am_ga, am_it, am_if, true_and, and_true, or_true, true_or, ne_eq, not_false_eq_true, not_true_eq_false, false_imp_iff, true_imp_iff, Int.reduceEq, Int.reduceLT, Int.reduceLE, Int.reduceAdd, Int.reduceSub, Int.reduceMul, Int.reduceNeg]
              refine s207 C (Or.inl rfl) Rm wS hk.1 hk.2 ht (fun L2 l2 n2 => ?_)
              have nb := px_nm_b (t := (if a = 0 then 0 else t)) hV (FT_WF (x := 1)) wS hk.1 hk.2 ht
              have u8 := u7 _ nb
              unfold px_mval at u8
              simp (disch := omega) only [Kk, GA, GR, GRc, GO, GI, GL, GV, am_w_i, am_ga, am_it, am_if, true_and, and_true, or_true, true_or, ne_eq, not_false_eq_true, not_true_eq_false, false_imp_iff, true_imp_iff, Int.reduceEq, Int.reduceLT, Int.reduceLE, Int.reduceAdd, Int.reduceSub, Int.reduceMul, Int.reduceNeg]
              have ef : ∀ x, 100 ≤ x → x ≠ 99 → cz_pl (am_up I 99 2 0) x = I x := fun x _ hx => by rw [(cz_pl_at (I := am_up I 99 2 0)).1 x hx, am_up_a _ _ _ _ hx]
              have e118 := ef 118 (by omega) (by omega)
              have e119 := ef 119 (by omega) (by omega)
              have e120 := ef 120 (by omega) (by omega)
              have e121 := ef 121 (by omega) (by omega)
              have e122 := ef 122 (by omega) (by omega)
              have qq : ∀ J L3, (∃ v, J = am_up (cz_pl (am_up I 99 2 0)) 99 53 v) → LN L2 L3 → Q (some (vL (px_lawv V σ lw a i t))) (mkH w J L3) := by
                intro J L3 hJ hL3
                obtain ⟨v, rfl⟩ := hJ
                exact q _ _ (QR.t.tr ⟨⟨rfl, rfl, rfl⟩, QF.pl.tr (QF.f (Or.inr (Or.inl rfl))), QL.ln (l2.tr hL3)⟩)
              refine s208 ⟨c1.1, by omega⟩ u2 (by rw [e118]; exact u3) (by rw [e118, e119]; exact u4) (by rw [e119]; exact u5) (by rw [e118, e119, e120, e121, e122]; exact u6) n2 nb (fun L3 f v z e b => ?_) (fun L3 f z => ?_)
              · rw [e118, e120, e121, e122] at z e
                rw [z, if_neg (by decide), ← e] at u8
                simp (disch := omega) only [Kk, am_up_s, q117, GA, GR, GRc, GO, GI, GL, GV, am_w_i, am_ga, am_it, am_if, true_and, and_true, or_true, true_or, ne_eq, not_false_eq_true, not_true_eq_false, false_imp_iff, true_imp_iff, Int.reduceEq, Int.reduceLT, Int.reduceLE, Int.reduceAdd, Int.reduceSub, Int.reduceMul, Int.reduceNeg]
                have := qq _ L3 ⟨0, rfl⟩ (fun x y k => f x k)
                unfold px_lawv at this
                rw [← u8] at this
                exact this
              · rw [e118, e120, e121, e122] at z
                rw [z, if_pos rfl] at u8
                simp (disch := omega) only [Kk, am_up_s, q117, GA, GR, GRc, GO, GI, GL, GV, am_w_i, am_ga, am_it, am_if, true_and, and_true, or_true, true_or, ne_eq, not_false_eq_true, not_true_eq_false, false_imp_iff, true_imp_iff, Int.reduceEq, Int.reduceLT, Int.reduceLE, Int.reduceAdd, Int.reduceSub, Int.reduceMul, Int.reduceNeg]
                have := qq _ L3 ⟨1, rfl⟩ (fun x y k => f x k)
                unfold px_lawv at this
                rw [← u8] at this
                exact this
            have f62 : am_WP (d + 20) 228 62 [some (vR (some 99)), some (vI a), some (vI i), some (vI t), none, none] [] (mkH w (am_up I 99 2 0) L) Q := by
              rw [B228_62]
              simp (disch := omega) only [Kk, s197, GA, GR, GRc, GO, GI, GL, GV, am_w_i, am_ga, am_it, am_if, true_and, and_true, or_true, true_or, ne_eq, not_false_eq_true, not_true_eq_false, false_imp_iff, true_imp_iff, Int.reduceEq, Int.reduceLT, Int.reduceLE, Int.reduceAdd, Int.reduceSub, Int.reduceMul, Int.reduceNeg]
              by_cases e : a = 2
              · have v6 : cz_pl (am_up I 99 2 0) 108 i = V 6 i := (C.1.2.2.1 i (c2.1 e).1 (c2.1 e).2).2.1
                have c4 := c2.1 e
                rw [e] at fin ⊢
                simp (disch := omega) only [Kw, v6, B228_83, GA, GR, GRc, GO, GI, GL, GV, am_w_i, am_ga, am_it, am_if, true_and, and_true, or_true, true_or, ne_eq, not_false_eq_true, not_true_eq_false, false_imp_iff, true_imp_iff, Int.reduceEq, Int.reduceLT, Int.reduceLE, Int.reduceAdd, Int.reduceSub, Int.reduceMul, Int.reduceNeg]
                exact fin
              · rw [if_neg e] at fin
                simp (disch := omega) only [e, B228_83, GA, GR, GRc, GO, GI, GL, GV, am_w_i, am_ga, am_it, am_if, true_and, and_true, or_true, true_or, ne_eq, not_false_eq_true, not_true_eq_false, false_imp_iff, true_imp_iff, Int.reduceEq, Int.reduceLT, Int.reduceLE, Int.reduceAdd, Int.reduceSub, Int.reduceMul, Int.reduceNeg]
                by_cases e0 : a = 0
                · rw [e0] at fin ⊢
                  simp (disch := omega) only [GA, GR, GRc, GO, GI, GL, GV, am_w_i, am_ga, am_it, am_if, true_and, and_true, or_true, true_or, ne_eq, not_false_eq_true, not_true_eq_false, false_imp_iff, true_imp_iff, Int.reduceEq, Int.reduceLT, Int.reduceLE, Int.reduceAdd, Int.reduceSub, Int.reduceMul, Int.reduceNeg]
                  exact fin
                · rw [if_neg e0] at fin
                  simp (disch := omega) only [e0, fin, GA, GR, GRc, GO, GI, GL, GV, am_w_i, am_ga, am_it, am_if, true_and, and_true, or_true, true_or, ne_eq, not_false_eq_true, not_true_eq_false, false_imp_iff, true_imp_iff, Int.reduceEq, Int.reduceLT, Int.reduceLE, Int.reduceAdd, Int.reduceSub, Int.reduceMul, Int.reduceNeg]
            have f47 : am_WP (d + 20) 228 47 [some (vR (some 99)), some (vI a), some (vI i), some (vI t), none, none] [] (mkH w (am_up I 99 2 0) L) Q := by
              rw [B228_47]
              by_cases e0 : a = 0
              · rw [e0] at f62 ⊢
                simp (disch := omega) only [f62, GA, GR, GRc, GO, GI, GL, GV, am_w_i, am_ga, am_it, am_if, true_and, and_true, or_true, true_or, ne_eq, not_false_eq_true, not_true_eq_false, false_imp_iff, true_imp_iff, Int.reduceEq, Int.reduceLT, Int.reduceLE, Int.reduceAdd, Int.reduceSub, Int.reduceMul, Int.reduceNeg]
              · have e5 : t = 0 ∨ t = 1 := by omega
                simp (disch := omega) only [e0, s201, e5, if_true, f62, GA, GR, GRc, GO, GI, GL, GV, am_w_i, am_ga, am_it, am_if, true_and, and_true, or_true, true_or, ne_eq, not_false_eq_true, not_true_eq_false, false_imp_iff, true_imp_iff, Int.reduceEq, Int.reduceLT, Int.reduceLE, Int.reduceAdd, Int.reduceSub, Int.reduceMul, Int.reduceNeg]
            rw [S228]
            by_cases e : a = 2
            · have c4 := c2.1 e
              rw [e] at f47 told ⊢
              first | (simp (disch := omega) only [Kk, B228_5, s153, if_true, Kl, told, s200 hM.t, c4, GA, GR, GRc, GO, GI, GL, GV, am_w_i, am_ga, am_it, am_if, true_and, and_true, or_true, true_or, ne_eq, not_false_eq_true, not_true_eq_false, false_imp_iff, true_imp_iff, Int.reduceEq, Int.reduceLT, Int.reduceLE, Int.reduceAdd, Int.reduceSub, Int.reduceMul, Int.reduceNeg]; done) | (simp (disch := omega) only [Kk, B228_5, s153, if_true, Kl, told, s200 hM.t, c4, GA, GR, GRc, GO, GI, GL, GV, am_w_i, am_ga, am_it, am_if, true_and, and_true, or_true, true_or, ne_eq, not_false_eq_true, not_true_eq_false, false_imp_iff, true_imp_iff, Int.reduceEq, Int.reduceLT, Int.reduceLE, Int.reduceAdd, Int.reduceSub, Int.reduceMul, Int.reduceNeg]; exact f47) | simp (disch := omega) only [Kk, B228_5, s153, if_true, Kl, told, s200 hM.t, c4, f47, GA, GR, GRc, GO, GI, GL, GV, am_w_i, am_ga, am_it, am_if, true_and, and_true, or_true, true_or, ne_eq, not_false_eq_true, not_true_eq_false, false_imp_iff, true_imp_iff, Int.reduceEq, Int.reduceLT, Int.reduceLE, Int.reduceAdd, Int.reduceSub, Int.reduceMul, Int.reduceNeg]
            · have c4 := c2.2 e
              first | (simp (disch := omega) only [Kk, B228_5, s153, c1, if_true, Kl, told, e, s199 hM.t, c4, GA, GR, GRc, GO, GI, GL, GV, am_w_i, am_ga, am_it, am_if, true_and, and_true, or_true, true_or, ne_eq, not_false_eq_true, not_true_eq_false, false_imp_iff, true_imp_iff, Int.reduceEq, Int.reduceLT, Int.reduceLE, Int.reduceAdd, Int.reduceSub, Int.reduceMul, Int.reduceNeg]; exact f47) | simp (disch := omega) only [Kk, B228_5, s153, c1, if_true, Kl, told, e, s199 hM.t, c4, f47, GA, GR, GRc, GO, GI, GL, GV, am_w_i, am_ga, am_it, am_if, true_and, and_true, or_true, true_or, ne_eq, not_false_eq_true, not_true_eq_false, false_imp_iff, true_imp_iff, Int.reduceEq, Int.reduceLT, Int.reduceLE, Int.reduceAdd, Int.reduceSub, Int.reduceMul, Int.reduceNeg]
      · refine ⟨vL (-9223372036854775808), fun w I L G d Q q => ?_, fun w I L G d Q q => ?_⟩
        · obtain ⟨⟨hw, hR, hL, hV, hM, hN⟩, rS, mS, wS, ny, ct⟩ := id G
          have z := q _ _ _ QR.rf
          have e0 : ¬ a = 0 := by omega
          have e5 : ¬ (t = 0 ∨ t = 1) := by omega
          rw [S102]
          by_cases e : a = 2
          · have c4 := c2.1 e
            simp (disch := omega) only [KX, e, B102_10, s94 hw hR, c4, if_true, B102_49, s95, e5, if_false, z, GA, GR, GRc, GO, GI, GL, GV, am_w_i, am_ga, am_it, am_if, true_and, and_true, or_true, true_or, ne_eq, not_false_eq_true, not_true_eq_false, false_imp_iff, true_imp_iff, Int.reduceEq, Int.reduceLT, Int.reduceLE, Int.reduceAdd, Int.reduceSub, Int.reduceMul, Int.reduceNeg]
          · have c4 := c2.2 e
            simp (disch := omega) only [KX, e, e0, B102_10, s93 hw hR, c4, if_true, B102_49, s95, e5, if_false, z, GA, GR, GRc, GO, GI, GL, GV, am_w_i, am_ga, am_it, am_if, true_and, and_true, or_true, true_or, ne_eq, not_false_eq_true, not_true_eq_false, false_imp_iff, true_imp_iff, Int.reduceEq, Int.reduceLT, Int.reduceLE, Int.reduceAdd, Int.reduceSub, Int.reduceMul, Int.reduceNeg]
        · obtain ⟨⟨hw, hR, hL, hV, hM, hN⟩, rS, mS, wS, ny, ct⟩ := id G
          have z := q _ _ (QR.t (v := 0))
          have e0 : ¬ a = 0 := by omega
          have e5 : ¬ (t = 0 ∨ t = 1) := by omega
          rw [S228]
          by_cases e : a = 2
          · have c4 := c2.1 e
            rw [e]
            simp (disch := omega) only [Kk, B228_5, s153, if_true, Kl, s200 hM.t, c4, B228_47, s201, e5, if_false, B228_58, z, implies_true, GA, GR, GRc, GO, GI, GL, GV, am_w_i, am_ga, am_it, am_if, true_and, and_true, or_true, true_or, ne_eq, not_false_eq_true, not_true_eq_false, false_imp_iff, true_imp_iff, Int.reduceEq, Int.reduceLT, Int.reduceLE, Int.reduceAdd, Int.reduceSub, Int.reduceMul, Int.reduceNeg]
          · have c4 := c2.2 e
            simp (disch := omega) only [Kk, B228_5, s153, c1, if_true, Kl, e, e0, s199 hM.t, c4, B228_47, s201, e5, if_false, B228_58, z, implies_true, GA, GR, GRc, GO, GI, GL, GV, am_w_i, am_ga, am_it, am_if, true_and, and_true, or_true, true_or, ne_eq, not_false_eq_true, not_true_eq_false, false_imp_iff, true_imp_iff, Int.reduceEq, Int.reduceLT, Int.reduceLE, Int.reduceAdd, Int.reduceSub, Int.reduceMul, Int.reduceNeg]
            omega
    · refine ⟨vL (-9223372036854775808), fun w I L G d Q q => ?_, fun w I L G d Q q => ?_⟩
      · obtain ⟨⟨hw, hR, hL, hV, hM, hN⟩, rS, mS, wS, ny, ct⟩ := id G
        have z := q _ _ _ QR.rf
        rw [S102]
        by_cases e : a = 2
        · have c4 : ¬ (0 ≤ i ∧ i < V 0 1) := fun h => c2 ⟨fun _ => h, fun y => absurd e y⟩
          simp (disch := omega) only [KX, e, B102_10, s94 hw hR, c4, if_false, B102_45, z, GA, GR, GRc, GO, GI, GL, GV, am_w_i, am_ga, am_it, am_if, true_and, and_true, or_true, true_or, ne_eq, not_false_eq_true, not_true_eq_false, false_imp_iff, true_imp_iff, Int.reduceEq, Int.reduceLT, Int.reduceLE, Int.reduceAdd, Int.reduceSub, Int.reduceMul, Int.reduceNeg]
        · have c4 : ¬ (0 ≤ i ∧ i < V 0 0) := fun h => c2 ⟨fun y => absurd y e, fun _ => h⟩
          simp (disch := omega) only [KX, e, B102_10, s93 hw hR, c4, if_false, B102_45, z, GA, GR, GRc, GO, GI, GL, GV, am_w_i, am_ga, am_it, am_if, true_and, and_true, or_true, true_or, ne_eq, not_false_eq_true, not_true_eq_false, false_imp_iff, true_imp_iff, Int.reduceEq, Int.reduceLT, Int.reduceLE, Int.reduceAdd, Int.reduceSub, Int.reduceMul, Int.reduceNeg]
      · obtain ⟨⟨hw, hR, hL, hV, hM, hN⟩, rS, mS, wS, ny, ct⟩ := id G
        have z := q _ _ (QR.t (v := 0))
        rw [S228]
        by_cases e : a = 2
        · have c4 : ¬ (0 ≤ i ∧ i < V 0 1) := fun h => c2 ⟨fun _ => h, fun y => absurd e y⟩
          rw [e]
          simp (disch := omega) only [Kk, B228_5, s153, if_true, Kl, s200 hM.t, c4, if_false, B228_58, z, implies_true, GA, GR, GRc, GO, GI, GL, GV, am_w_i, am_ga, am_it, am_if, true_and, and_true, or_true, true_or, ne_eq, not_false_eq_true, not_true_eq_false, false_imp_iff, true_imp_iff, Int.reduceEq, Int.reduceLT, Int.reduceLE, Int.reduceAdd, Int.reduceSub, Int.reduceMul, Int.reduceNeg]
        · have c4 : ¬ (0 ≤ i ∧ i < V 0 0) := fun h => c2 ⟨fun y => absurd y e, fun _ => h⟩
          simp (disch := omega) only [Kk, B228_5, s153, c1, if_true, Kl, e, s199 hM.t, c4, if_false, B228_58, z, implies_true, GA, GR, GRc, GO, GI, GL, GV, am_w_i, am_ga, am_it, am_if, true_and, and_true, or_true, true_or, ne_eq, not_false_eq_true, not_true_eq_false, false_imp_iff, true_imp_iff, Int.reduceEq, Int.reduceLT, Int.reduceLE, Int.reduceAdd, Int.reduceSub, Int.reduceMul, Int.reduceNeg]
          omega
  · refine ⟨vL (-9223372036854775808), fun w I L G d Q q => ?_, fun w I L G d Q q => ?_⟩
    · have z := q _ _ _ QR.rf
      rw [S102]
      by_cases e : a = 2
      · omega
      · by_cases e1 : a < 0
        · simp (disch := omega) only [KX, e, B102_10, B102_45, z, GA, GR, GRc, GO, GI, GL, GV, am_w_i, am_ga, am_it, am_if, true_and, and_true, or_true, true_or, ne_eq, not_false_eq_true, not_true_eq_false, false_imp_iff, true_imp_iff, Int.reduceEq, Int.reduceLT, Int.reduceLE, Int.reduceAdd, Int.reduceSub, Int.reduceMul, Int.reduceNeg]
        · simp (disch := omega) only [KX, e, B102_10, B102_45, z, GA, GR, GRc, GO, GI, GL, GV, am_w_i, am_ga, am_it, am_if, true_and, and_true, or_true, true_or, ne_eq, not_false_eq_true, not_true_eq_false, false_imp_iff, true_imp_iff, Int.reduceEq, Int.reduceLT, Int.reduceLE, Int.reduceAdd, Int.reduceSub, Int.reduceMul, Int.reduceNeg]
    · have z := q _ _ (QR.t (v := 0))
      rw [S228]
      simp (disch := omega) only [Kk, B228_5, s153, c1, if_false, B228_58, z, implies_true, GA, GR, GRc, GO, GI, GL, GV, am_w_i, am_ga, am_it, am_if, true_and, and_true, or_true, true_or, ne_eq, not_false_eq_true, not_true_eq_false, false_imp_iff, true_imp_iff, Int.reduceEq, Int.reduceLT, Int.reduceLE, Int.reduceAdd, Int.reduceSub, Int.reduceMul, Int.reduceNeg]
theorem q_fault {f g b : Int} : P2 (fun _ I _ => I 0 2 = f ∧ I 0 3 = g ∧ I 99 4 = f ∧ I 99 5 = g) 90 179 [vI b] := by
  rcases (show b = 0 ∨ b = 1 ∨ (b ≠ 0 ∧ b ≠ 1) by omega) with e | e | e
  · refine ⟨vI f, fun w I L ⟨h1, h2, h3, h4⟩ d Q q => ?_, fun w I L ⟨h1, h2, h3, h4⟩ d Q q => ?_⟩
    · have z := q _ _ _ QR.rf
      rw [S90]
      simp (disch := omega) only [KX, e, h1, z, GA, GR, GRc, GO, GI, GL, GV, am_w_i, am_ga, am_it, am_if, true_and, and_true, or_true, true_or, ne_eq, not_false_eq_true, not_true_eq_false, false_imp_iff, true_imp_iff, Int.reduceEq, Int.reduceLT, Int.reduceLE, Int.reduceAdd, Int.reduceSub, Int.reduceMul, Int.reduceNeg]
    · have z := q _ _ (QR.t (v := 0))
      rw [S179]
      simp (disch := omega) only [Kk, B179_5, e, am_up_n, h3, B179_29, z, GA, GR, GRc, GO, GI, GL, GV, am_w_i, am_ga, am_it, am_if, true_and, and_true, or_true, true_or, ne_eq, not_false_eq_true, not_true_eq_false, false_imp_iff, true_imp_iff, Int.reduceEq, Int.reduceLT, Int.reduceLE, Int.reduceAdd, Int.reduceSub, Int.reduceMul, Int.reduceNeg]
  · refine ⟨vI g, fun w I L ⟨h1, h2, h3, h4⟩ d Q q => ?_, fun w I L ⟨h1, h2, h3, h4⟩ d Q q => ?_⟩
    · have z := q _ _ _ QR.rf
      rw [S90]
      simp (disch := omega) only [KX, e, h2, B90_22, z, GA, GR, GRc, GO, GI, GL, GV, am_w_i, am_ga, am_it, am_if, true_and, and_true, or_true, true_or, ne_eq, not_false_eq_true, not_true_eq_false, false_imp_iff, true_imp_iff, Int.reduceEq, Int.reduceLT, Int.reduceLE, Int.reduceAdd, Int.reduceSub, Int.reduceMul, Int.reduceNeg]
    · have z := q _ _ (QR.t (v := 0))
      rw [S179]
      simp (disch := omega) only [Kk, B179_5, e, am_up_n, h4, B179_29, z, GA, GR, GRc, GO, GI, GL, GV, am_w_i, am_ga, am_it, am_if, true_and, and_true, or_true, true_or, ne_eq, not_false_eq_true, not_true_eq_false, false_imp_iff, true_imp_iff, Int.reduceEq, Int.reduceLT, Int.reduceLE, Int.reduceAdd, Int.reduceSub, Int.reduceMul, Int.reduceNeg]
  · refine ⟨vI (-1), fun w I L ⟨h1, h2, h3, h4⟩ d Q q => ?_, fun w I L ⟨h1, h2, h3, h4⟩ d Q q => ?_⟩
    · have z := q _ _ _ QR.rf
      rw [S90]
      simp (disch := omega) only [e, B90_22, z, GA, GR, GRc, GO, GI, GL, GV, am_w_i, am_ga, am_it, am_if, true_and, and_true, or_true, true_or, ne_eq, not_false_eq_true, not_true_eq_false, false_imp_iff, true_imp_iff, Int.reduceEq, Int.reduceLT, Int.reduceLE, Int.reduceAdd, Int.reduceSub, Int.reduceMul, Int.reduceNeg]
    · have z := q _ _ (QR.t (v := 0))
      rw [S179]
      simp (disch := omega) only [Kk, B179_5, e, B179_29, z, GA, GR, GRc, GO, GI, GL, GV, am_w_i, am_ga, am_it, am_if, true_and, and_true, or_true, true_or, ne_eq, not_false_eq_true, not_true_eq_false, false_imp_iff, true_imp_iff, Int.reduceEq, Int.reduceLT, Int.reduceLE, Int.reduceAdd, Int.reduceSub, Int.reduceMul, Int.reduceNeg]
/-- the first place with a value -/
def px_find (f : Int → Int) (x : Int) : Nat → Nat → Int
  | 0, _ => -1
  | m + 1, i => if f i = x then (i : Int) else px_find f x m (i + 1)
theorem px_find_c {f g : Int → Int} {x : Int} : ∀ (m i : Nat), (∀ j : Nat, i ≤ j → j < i + m → f j = g j) → px_find f x m i = px_find g x m i
  | 0, _, _ => rfl
  | m + 1, i, h => by rw [px_find, px_find, h i (by omega) (by omega), px_find_c m (i + 1) (fun j a b => h j (by omega) (by omega))]
theorem s92 {d : Nat} {w : Nat × Nat × Nat × Nat} {I L : Nat → Int → Int} {a n ln : Nat} {x : Int} (hk : am_kd (mkH w I L) a = 13) (hl : am_ln (mkH w I L) a = ln) (hn : n ≤ ln) (h4 : ln ≤ 4096) (Q : Option am_V → am_H → Prop) : am_Sp d 92 [vI x, vR (some a), vI (n : Int)] (mkH w I L) Q ↔ Q (some (vI (px_find (I a) x n 0))) (mkH w I L) := by
  refine am_det ?_ Q
  rw [S92]
  have loop : ∀ (m i : Nat), i + m = n → px_find (I a) x n 0 = px_find (I a) x m i → am_WP d 92 2 [some (vI x), some (vR (some a)), some (vI (n : Int)), some (vI (i : Int))] [] (mkH w I L) (fun r' h' => r' = some (vI (px_find (I a) x n 0)) ∧ h' = mkH w I L) := by
    intro m
    induction m with
    | zero =>
      intro i hi e
      rw [B92_2]
      simp (disch := omega) only [B92_28, GA, GR, GRc, GO, GI, GL, GV, am_w_i, am_ga, am_it, am_if, true_and, and_true, or_true, true_or, ne_eq, not_false_eq_true, not_true_eq_false, false_imp_iff, true_imp_iff, Int.reduceEq, Int.reduceLT, Int.reduceLE, Int.reduceAdd, Int.reduceSub, Int.reduceMul, Int.reduceNeg]
      rw [e]; rfl
    | succ m ih =>
      intro i hi e
      replace e : px_find (I a) x n 0 = (if I a i = x then (i : Int) else px_find (I a) x m (i + 1)) := e
      rw [B92_2]
      simp (disch := omega) only [hk, hl, GA, GR, GRc, GO, GI, GL, GV, am_w_i, am_ga, am_it, am_if, true_and, and_true, or_true, true_or, ne_eq, not_false_eq_true, not_true_eq_false, false_imp_iff, true_imp_iff, Int.reduceEq, Int.reduceLT, Int.reduceLE, Int.reduceAdd, Int.reduceSub, Int.reduceMul, Int.reduceNeg]
      by_cases c : I a i = x
      · rw [if_pos c] at e
        refine ⟨fun h => absurd c h, fun _ => by rw [e]⟩
      · rw [if_neg c] at e
        refine ⟨fun _ => ih (i + 1) (by omega) e, fun h => absurd c h⟩
  exact loop n 0 (by omega) rfl
theorem s168 {d : Nat} {w : Nat × Nat × Nat × Nat} {I L : Nat → Int → Int} {a n ln : Nat} {x b : Int} (hk : am_kd (mkH w I L) a = 13) (hl : am_ln (mkH w I L) a = ln) (hb : 0 ≤ b) (hn : b + n ≤ ln) (h4 : ln ≤ 4096) (Q : Option am_V → am_H → Prop) : am_Sp d 168 [vR (some a), vI b, vI (n : Int), vI x] (mkH w I L) Q ↔ Q (some (vI (px_find (fun j => I a (b + j)) x n 0))) (mkH w I L) := by
  refine am_det ?_ Q
  rw [S168]
  have loop : ∀ (m i : Nat), i + m = n → px_find (fun j => I a (b + j)) x n 0 = px_find (fun j => I a (b + j)) x m i → am_WP d 168 3 [some (vR (some a)), some (vI b), some (vI (n : Int)), some (vI x), some (vI (i : Int))] [] (mkH w I L) (fun r' h' => r' = some (vI (px_find (fun j => I a (b + j)) x n 0)) ∧ h' = mkH w I L) := by
    intro m
    induction m with
    | zero =>
      intro i hi e
      rw [B168_3]
      simp (disch := omega) only [GA, GR, GRc, GO, GI, GL, GV, am_w_i, am_ga, am_it, am_if, true_and, and_true, or_true, true_or, ne_eq, not_false_eq_true, not_true_eq_false, false_imp_iff, true_imp_iff, Int.reduceEq, Int.reduceLT, Int.reduceLE, Int.reduceAdd, Int.reduceSub, Int.reduceMul, Int.reduceNeg]
      rw [e]; rfl
    | succ m ih =>
      intro i hi e
      replace e : px_find (fun j => I a (b + j)) x n 0 = (if I a (b + i) = x then (i : Int) else px_find (fun j => I a (b + j)) x m (i + 1)) := e
      rw [B168_3]
      simp (disch := omega) only [hk, hl, GA, GR, GRc, GO, GI, GL, GV, am_w_i, am_ga, am_it, am_if, true_and, and_true, or_true, true_or, ne_eq, not_false_eq_true, not_true_eq_false, false_imp_iff, true_imp_iff, Int.reduceEq, Int.reduceLT, Int.reduceLE, Int.reduceAdd, Int.reduceSub, Int.reduceMul, Int.reduceNeg]
      by_cases c : I a (b + i) = x
      · rw [if_pos c] at e
        refine ⟨fun h => absurd c h, fun _ => by rw [e]⟩
      · rw [if_neg c] at e
        refine ⟨fun _ => ih (i + 1) (by omega) e, fun h => absurd c h⟩
  exact loop n 0 (by omega) rfl
theorem q_named {V σ : (Nat → Int → Int)} {lw : (Int → (Int → Int) → Int)} {b x : Int} : P2 (GC V lw σ) 91 180 [vI b, vI x] := by
  rcases (show b = 0 ∨ b = 1 ∨ (b ≠ 0 ∧ b ≠ 1) by omega) with e | e | e
  · refine ⟨vI (px_find (V 1) x (V 0 0).toNat 0), fun w I L G d Q q => ?_, fun w I L G d Q q => ?_⟩
    · obtain ⟨⟨hw, hR, hL, hV, hM, hN⟩, rS, mS, wS, ny, ct⟩ := id G
      have h6 := hV.1.1
      obtain ⟨n, hn⟩ : ∃ n : Nat, V 0 0 = n := ⟨(V 0 0).toNat, by omega⟩
      have hn2 : (V 0 0).toNat = n := by omega
      have fc : px_find (I (w.1 + 1)) x n 0 = px_find (V 1) x n 0 := px_find_c n 0 (fun j _ hj => (hR.2.1 j (by omega) (by omega)).1)
      have z := q _ _ _ QR.rf
      rw [hn2] at z
      have k1 := (HW hw w I L)
      rw [S91]
      simp (disch := omega) only [KX, e, HW hw, hR.1.1, hn, s92 (a := w.1 + 1) (n := n) (ln := 6) (by simp only [HW hw]) (by simp only [HW hw]; rfl) (by omega) (by omega), fc, z, GA, GR, GRc, GO, GI, GL, GV, am_w_i, am_ga, am_it, am_if, true_and, and_true, or_true, true_or, ne_eq, not_false_eq_true, not_true_eq_false, false_imp_iff, true_imp_iff, Int.reduceEq, Int.reduceLT, Int.reduceLE, Int.reduceAdd, Int.reduceSub, Int.reduceMul, Int.reduceNeg]
    · obtain ⟨⟨hw, hR, hL, hV, hM, hN⟩, rS, mS, wS, ny, ct⟩ := id G
      have h6 := hV.1.1
      obtain ⟨n, hn⟩ : ∃ n : Nat, V 0 0 = n := ⟨(V 0 0).toNat, by omega⟩
      have hn2 : (V 0 0).toNat = n := by omega
      have fc : px_find (fun j => am_up I 99 2 0 103 (0 + j)) x n 0 = px_find (V 1) x n 0 := px_find_c n 0 (fun j _ hj => by rw [am_up_a _ _ _ _ (by decide), Int.zero_add]; exact (hM.2.1 j (by omega) (by omega)).1)
      have z := q _ _ (QR.t (v := 0))
      rw [hn2] at z
      rw [S180]
      simp (disch := omega) only [Kk, B180_5, e, Kw, am_up_n, hM.1.1, hn, s168 (a := 103) (n := n) (ln := 12) (b := 0) (by simp only [Kw]) (by simp only [Kw]; rfl) (by omega) (by omega) (by omega), fc, B180_47, z, GA, GR, GRc, GO, GI, GL, GV, am_w_i, am_ga, am_it, am_if, true_and, and_true, or_true, true_or, ne_eq, not_false_eq_true, not_true_eq_false, false_imp_iff, true_imp_iff, Int.reduceEq, Int.reduceLT, Int.reduceLE, Int.reduceAdd, Int.reduceSub, Int.reduceMul, Int.reduceNeg]
  · refine ⟨vI (px_find (V 5) x (V 0 1).toNat 0), fun w I L G d Q q => ?_, fun w I L G d Q q => ?_⟩
    · obtain ⟨⟨hw, hR, hL, hV, hM, hN⟩, rS, mS, wS, ny, ct⟩ := id G
      have h6 := hV.1.2.1
      obtain ⟨n, hn⟩ : ∃ n : Nat, V 0 1 = n := ⟨(V 0 1).toNat, by omega⟩
      have hn2 : (V 0 1).toNat = n := by omega
      have fc : px_find (I (w.1 + 5)) x n 0 = px_find (V 5) x n 0 := px_find_c n 0 (fun j _ hj => (hR.2.2.1 j (by omega) (by omega)).1)
      have z := q _ _ _ QR.rf
      rw [hn2] at z
      rw [S91]
      simp (disch := omega) only [KX, e, HW hw, hR.1.2.1, hn, s92 (a := w.1 + 5) (n := n) (ln := 8) (by simp only [HW hw]) (by simp only [HW hw]; rfl) (by omega) (by omega), fc, B91_50, z, GA, GR, GRc, GO, GI, GL, GV, am_w_i, am_ga, am_it, am_if, true_and, and_true, or_true, true_or, ne_eq, not_false_eq_true, not_true_eq_false, false_imp_iff, true_imp_iff, Int.reduceEq, Int.reduceLT, Int.reduceLE, Int.reduceAdd, Int.reduceSub, Int.reduceMul, Int.reduceNeg]
    · obtain ⟨⟨hw, hR, hL, hV, hM, hN⟩, rS, mS, wS, ny, ct⟩ := id G
      have h6 := hV.1.2.1
      obtain ⟨n, hn⟩ : ∃ n : Nat, V 0 1 = n := ⟨(V 0 1).toNat, by omega⟩
      have hn2 : (V 0 1).toNat = n := by omega
      have fc : px_find (fun j => am_up I 99 2 0 107 (0 + j)) x n 0 = px_find (V 5) x n 0 := px_find_c n 0 (fun j _ hj => by rw [am_up_a _ _ _ _ (by decide), Int.zero_add]; exact (hM.2.2.1 j (by omega) (by omega)).1)
      have z := q _ _ (QR.t (v := 0))
      rw [hn2] at z
      rw [S180]
      simp (disch := omega) only [Kk, B180_5, e, Kw, am_up_n, hM.1.2.1, hn, s168 (a := 107) (n := n) (ln := 16) (b := 0) (by simp only [Kw]) (by simp only [Kw]; rfl) (by omega) (by omega) (by omega), fc, B180_47, z, GA, GR, GRc, GO, GI, GL, GV, am_w_i, am_ga, am_it, am_if, true_and, and_true, or_true, true_or, ne_eq, not_false_eq_true, not_true_eq_false, false_imp_iff, true_imp_iff, Int.reduceEq, Int.reduceLT, Int.reduceLE, Int.reduceAdd, Int.reduceSub, Int.reduceMul, Int.reduceNeg]
  · refine ⟨vI (-1), fun w I L G d Q q => ?_, fun w I L G d Q q => ?_⟩
    · have z := q _ _ _ QR.rf
      rw [S91]
      simp (disch := omega) only [e, B91_50, z, GA, GR, GRc, GO, GI, GL, GV, am_w_i, am_ga, am_it, am_if, true_and, and_true, or_true, true_or, ne_eq, not_false_eq_true, not_true_eq_false, false_imp_iff, true_imp_iff, Int.reduceEq, Int.reduceLT, Int.reduceLE, Int.reduceAdd, Int.reduceSub, Int.reduceMul, Int.reduceNeg]
    · have z := q _ _ (QR.t (v := 0))
      rw [S180]
      simp (disch := omega) only [Kk, B180_5, e, B180_47, z, GA, GR, GRc, GO, GI, GL, GV, am_w_i, am_ga, am_it, am_if, true_and, and_true, or_true, true_or, ne_eq, not_false_eq_true, not_true_eq_false, false_imp_iff, true_imp_iff, Int.reduceEq, Int.reduceLT, Int.reduceLE, Int.reduceAdd, Int.reduceSub, Int.reduceMul, Int.reduceNeg]
