/-! a8: text -/
theorem DN.beg {V : (Nat → Int → Int)} (h : WV V) : DN V (px_beg V) := fun i i0 i1 i2 => by
  have := (h.2.2.2.1 i i0 i1).2.2.1
  have e : px_beg V 0 3 = 0 := rfl
  rw [e] at i2; omega
theorem TB.gt {n a : Int} {I : (Nat → Int → Int)} (h : GT n I) (ha : 0 ≤ a ∧ a ≤ n) : TB a (I 100) I := by
  obtain ⟨n0, -, -, n3⟩ := h
  refine ⟨by omega, fun j j0 j1 => ?_⟩
  obtain ⟨b, e⟩ := n3 j j0 (by omega)
  refine ⟨b, ?_⟩
  rw [e]; unfold am_wb
  omega
theorem wPr.i {w : (Nat × Nat × Nat × Nat)} (h : wPr w) : isW w.1 ∧ isW w.2.1 := by
  rcases h with ⟨a, b⟩ | ⟨a, b⟩ <;> exact ⟨by rw [a]; unfold isW; decide, by rw [b]; unfold isW; decide⟩
theorem txF_m {s u : Nat → Int} {K : Nat} : ∀ {f : Nat} {X : (Nat → Int → Int)} {k : Nat} {n : Int}, n ≤ (txF s u K f X k n).2
  | 0, X, k, n => by rw [txF]; exact Int.le_refl _
  | f + 1, X, k, n => by
    rw [txF]
    by_cases c : s k = 0
    · rw [if_pos c]; exact Int.le_refl _
    · rw [if_neg c]
      by_cases c1 : (lnF s u K X k).1 = 0
      · rw [if_pos c1]
        have := txF_m (s := s) (u := u) (K := K) (f := f) (X := (lnF s u K X k).2.2) (k := (lnF s u K X k).2.1) (n := n + 1)
        omega
      · rw [if_neg c1]; exact Int.le_refl _
/-- all that is so behind a text that is kept -/
theorem GR0.tx {X I1 I5 I6 J L : (Nat → Int → Int)} {w : (Nat × Nat × Nat × Nat)} {q : Nat} (hs : wPr w) (px : PX (w.1, w.2.1, w.2.1, q) I1 X) (xw : WXx X) (f5 : ∀ a, a ≠ 0 → a ≠ 64 → a ≠ 90 → a ≠ 92 → ¬ (51 ≤ a ∧ a ≤ 54) → I5 a = I1 a) (s5 : RS I5 51 (px_beg X) ∧ CT I5 51 (X 0 2).toNat) (g5 : (I5 0 1 = 0 ∧ I5 0 2 = 0 ∧ I5 0 3 = -1 ∧ I5 0 10 = 0) ∧ I5 64 0 = 0 ∧ I5 90 0 = 0 ∧ I5 92 0 = 0 ∧ I5 92 1 = -1) (mz : MZ I5 I6) (nx : NX I6 X) (kt : KTx I6 J) (gx : GX I5) : GR0 X (lwX X) (px_beg X) 0 0 (-1) (w.2.1, w.1, w.2.1, q) (cz_bn J) (am_up L 99 59 (J 102 0)) := by
  have wi := hs.i
  obtain ⟨bx, wv, lv⟩ := xw
  have b6 := bx.2.1.2.2
  have mw := kt.mw nx bx
  have ml := kt.ml nx lv b6
  have hl := isW_le wi.2
  obtain ⟨c1, c2, c3, c4⟩ := cz_bn_at (I := J)
  have fin : ∀ a, a ≠ 99 → ¬ (102 ≤ a ∧ a ≤ 124) → ¬ (127 ≤ a ∧ a ≤ 131) → cz_bn J a = I5 a := fun a h1 h2 h3 => by rw [c1 a h1 h3, kt.1 a h1 (by omega), mz.1 a h1 h2]
  have fw : ∀ a, w.2.1 ≤ a → a ≤ w.2.1 + 20 → cz_bn J a = I1 a := fun a h1 h2 => by rw [fin a (by omega) (by omega) (by omega), f5 a (by omega) (by omega) (by omega) (by omega) (by omega)]
  have fg : ∀ x, x ≠ 70 → x ≠ 71 → x ≠ 74 → x ≠ 76 → (x < 60 ∨ 68 ≤ x) → ¬ (12 ≤ x ∧ x ≤ 15) → cz_bn J 99 x = I6 99 x := fun x h1 h2 h3 h4 h5 h6 => by rw [c3 x h1 h2 h3 h4 h5, kt.2.1 x h6]
  have n4 := nx.2.2.2.2.2.2.2.2.2
  refine ⟨⟨⟨wi.2, (px.rw rfl).fr fw, (px.rl rfl lv b6).fr fw, wv, mw.fr (fun a x y => c1 a (by omega) (by omega)) (fun j x y => c3 j (by omega) (by omega) (by omega) (by omega) (by omega)), ml.fr (fun a x y => c1 a (by omega) (by omega))⟩, s5.1.fr (fun a x y => fin a (by omega) (by omega) (by omega)), MS.bn mw, (WS.beg wv).mo (by decide) (by decide), NY.beg, s5.2.fr (fin 54 (by decide) (by decide) (by decide)) ?_⟩, DN.beg wv, ?_, ⟨by decide, ?_, ?_, fun j j0 j1 => by omega⟩, ⟨?_, ?_, ?_, ?_⟩, ⟨?_, ?_, fun z => ?_⟩, ⟨0, by decide, ?_, ?_, fun i hi => by omega⟩, ⟨fun _ _ => 0, 0, -1, ⟨?_, ?_, fun i i0 i1 => by omega⟩, ⟨?_, ?_, fun i i0 i1 => by omega⟩, by decide, by decide, fun i i0 i1 => by omega⟩, GPl.no ?_, ?_⟩
  · rw [fin 51 (by decide) (by decide) (by decide)]; exact ⟨rfl, rfl, rfl⟩
  · unfold wPr at hs ⊢; dsimp only; omega
  · rw [fin 0 (by decide) (by decide) (by decide)]; exact g5.1.1
  · rw [fg 1 (by decide) (by decide) (by decide) (by decide) (by decide) (by decide)]; exact mz.2.2.2
  · rw [fin 0 (by decide) (by decide) (by decide)]; exact g5.1.2.1
  · rw [fin 0 (by decide) (by decide) (by decide)]; exact g5.1.2.2.1
  · rw [fg 4 (by decide) (by decide) (by decide) (by decide) (by decide) (by decide), n4.1]; exact lv.1.1
  · rw [fg 5 (by decide) (by decide) (by decide) (by decide) (by decide) (by decide), n4.2]; exact lv.1.2
  · rw [fin 0 (by decide) (by decide) (by decide), c4.2.2.2]; exact g5.1.2.2.2
  · rw [fin 0 (by decide) (by decide) (by decide)]; exact Or.inl g5.1.2.2.2
  · rw [fin 0 (by decide) (by decide) (by decide), g5.1.2.2.2] at z; omega
  · rw [fin 90 (by decide) (by decide) (by decide)]; exact g5.2.2.1
  · exact c4.2.2.1
  · rw [fin 92 (by decide) (by decide) (by decide)]; exact g5.2.2.2.1
  · rw [fin 92 (by decide) (by decide) (by decide)]; exact g5.2.2.2.2
  · exact c4.1
  · exact c4.2.1
  · rw [fin 64 (by decide) (by decide) (by decide)]; exact g5.2.1
  · unfold GX at gx ⊢; rw [fin 49 (by decide) (by decide) (by decide), fin 101 (by decide) (by decide) (by decide)]; exact gx
set_option maxHeartbeats 4000000 in
theorem p_text {a : Int} : PM 89 178 [vI a] := by
  intro d w I L hG
  have no := fun r => PM.no (d := d) (j1 := 89) (j2 := 178) (as := [vI a]) r hG
  obtain ⟨V, lw, σ, n, f, g, G⟩ := hG
  have gt := G.2.2.2.1
  obtain ⟨n0, n1, n2, n3⟩ := G.2.2.2.1
  have n2t : am_up I 99 2 0 99 1 = n := by rw [am_up_n _ _ _ _ (by decide)]; exact n2
  by_cases c : 0 ≤ a ∧ a ≤ n
  · obtain ⟨c1, c2⟩ := c
    have c1' : ¬ a < 0 := by omega
    have wi := G.2.2.1.i
    have gx := G.2.2.2.2.2.2.2.2.2
    have tb : TB a (I 100) (am_up I 0 1 0) := (TB.gt gt ⟨c1, c2⟩).fr (am_up_a _ _ _ _ (by decide))
    have gx0 : GX (am_up I 0 1 0) := by unfold GX at gx ⊢; rw [am_up_a _ _ _ _ (by decide), am_up_a _ _ _ _ (by decide)]; exact gx
    rw [S89]
    simp (disch := omega) only [KX, n1, c1', c2, GA, GR, GRc, GO, GI, GL, GV, am_w_i, am_ga, am_it, am_if, true_and, and_true, or_true, true_or, ne_eq, not_false_eq_true, not_true_eq_false, false_imp_iff, true_imp_iff, Int.reduceEq, Int.reduceLT, Int.reduceLE, Int.reduceAdd, Int.reduceSub, Int.reduceMul, Int.reduceNeg]
    rw [B89_20]
    simp (disch := omega) only [KX, KP, GA, GR, GRc, GO, GI, GL, GV, am_w_i, am_ga, am_it, am_if, true_and, and_true, or_true, true_or, ne_eq, not_false_eq_true, not_true_eq_false, false_imp_iff, true_imp_iff, Int.reduceEq, Int.reduceLT, Int.reduceLE, Int.reduceAdd, Int.reduceSub, Int.reduceMul, Int.reduceNeg]
    refine s26 (d := d + 13) tb gx0 ⟨c1, by omega⟩ wi.2 (fun s u pl P K X tc P0 x0 => ?_)
    have rf := fun (w : (Nat × Nat × Nat × Nat)) (J L : (Nat → Int → Int)) (hX : GX J) (hT : J 100 = I 100) (h1 : a ≤ J 99 1) (Q : Option am_V → am_H → Prop) => s178 (d := d + 12) (w := w) (I := J) (L := L) (Q := Q) (X := X) tc P0 x0 hX hT h1
    have xm := txF_m (s := s) (u := u) (K := K) (f := K + 1) (X := X) (k := 0) (n := 0)
    have xw := fun z => txF_w (f := K + 1) (X := X) (k := 0) (n := 0) tc.tu tc.2.2.1 (Nat.zero_le _) x0.w z
    generalize txF s u K (K + 1) X 0 0 = r at rf xw xm ⊢
    refine ⟨fun I1 cz r0 px => ?_, fun I1 cz r0 e0 e1 => ?_⟩
    · have xw := xw r0
      have lv := xw.2.2
      have e0 : I1 44 0 = 0 := px.2.2.2.2.2.2.1.trans lv.1.1
      have e1 : I1 44 1 = -1 := px.2.2.2.2.2.2.2.trans lv.1.2
      have hl := isW_le wi.2
      obtain ⟨I5, e5⟩ : ∃ I5, I5 = am_up (am_up (am_up (am_up (am_up (cz_beg (am_up (am_up I1 0 2 0) 0 3 (-1)) 51 w.2.1) 0 10 0) 90 0 0) 92 0 0) 92 1 (-1)) 64 0 0 := ⟨_, rfl⟩
      obtain ⟨b1, b2, b3, b4, b5⟩ := cz_beg_at (I := am_up (am_up I1 0 2 0) 0 3 (-1)) (s := 51) (t := w.2.1) (by omega)
      have rb := RS.beg (I := am_up (am_up I1 0 2 0) 0 3 (-1)) (s := 51) (t := w.2.1) (by omega) ((px.rw (sp := w.2.1) rfl).fr (fun a x y => by rw [am_up_a _ _ _ _ (by omega), am_up_a _ _ _ _ (by omega)]))
      have cb := CT.beg (I := am_up (am_up I1 0 2 0) 0 3 (-1)) (s := 51) (t := w.2.1) (n := (r.1.2.2 0 2).toNat) (by omega) (by have := xw.2.1.1.2.2; omega)
      have f5 : ∀ a, a ≠ 0 → a ≠ 64 → a ≠ 90 → a ≠ 92 → ¬ (51 ≤ a ∧ a ≤ 54) → I5 a = I1 a := fun a h1 h2 h3 h4 h5 => by
        rw [e5, am_up_a _ _ _ _ h2, am_up_a _ _ _ _ h4, am_up_a _ _ _ _ h4, am_up_a _ _ _ _ h3, am_up_a _ _ _ _ h1, b5 a (by omega), am_up_a _ _ _ _ h1, am_up_a _ _ _ _ h1]
      have s5 : ∀ a, 51 ≤ a → a ≤ 54 → I5 a = cz_beg (am_up (am_up I1 0 2 0) 0 3 (-1)) 51 w.2.1 a := fun a h1 h2 => by
        rw [e5, am_up_a _ _ _ _ (by omega), am_up_a _ _ _ _ (by omega), am_up_a _ _ _ _ (by omega), am_up_a _ _ _ _ (by omega), am_up_a _ _ _ _ (by omega)]
      have i01 : I1 0 1 = 0 := by rw [cz 0 (by omega) (by omega), am_up_s]
      have c0 : ∀ j, cz_beg (am_up (am_up I1 0 2 0) 0 3 (-1)) 51 w.2.1 0 j = am_up (am_up I1 0 2 0) 0 3 (-1) 0 j := fun j => by rw [b5 0 (by omega)]
      have g5 : (I5 0 1 = 0 ∧ I5 0 2 = 0 ∧ I5 0 3 = -1 ∧ I5 0 10 = 0) ∧ I5 64 0 = 0 ∧ I5 90 0 = 0 ∧ I5 92 0 = 0 ∧ I5 92 1 = -1 := by
        rw [e5]
        simp (disch := decide) only [am_up_a, am_up_n, am_up_s, c0, i01, and_self]
      have gx1 : GX I5 := by unfold GX at gx0 ⊢; rw [f5 49 (by decide) (by decide) (by decide) (by decide) (by decide), f5 101 (by decide) (by decide) (by decide) (by decide) (by decide), cz 49 (by omega) (by omega), cz 101 (by omega) (by omega)]; exact gx0
      have t5 : I5 100 = I 100 := by rw [f5 100 (by decide) (by decide) (by decide) (by decide) (by decide), cz 100 (by omega) (by omega), am_up_a _ _ _ _ (by decide)]
      have n5 : I5 99 1 = n := by rw [f5 99 (by decide) (by decide) (by decide) (by decide) (by decide), cz 99 (by omega) (by omega), am_up_a _ _ _ _ (by decide)]; exact n2
      have z := rf (w.2.1, w.1, w.2.1, w.2.2.2) I5 L gx1 t5 (by omega) (fun r' h2 => r' = some (vI r.2) ∧ some (vI r.2) ≠ none ∧ ∃ w2 I2 L2, h2 = mkH w2 I2 L2 ∧ GG w2 I2 L2) ⟨fun I6 mz _ nx => by
        refine s167 (d := d + 17) (fun l l0 l1 => ?_) (fun J kt => ?_)
        · rcases nx.2.2.2.2.2.2.2.1 l l0 l1 with z | z
          · exact Or.inl z.1
          · exact Or.inr z.1
        · rw [GV]
          exact ⟨rfl, by simp, _, _, _, rfl, r.1.2.2, lwX r.1.2.2, px_beg r.1.2.2, 0, 0, -1, GR0.tx (I1 := I1) (I5 := I5) (I6 := I6) G.2.2.1 px xw f5 ⟨rb.fr (fun a x y => s5 a (by omega) (by omega)), cb.fr (s5 54 (by decide) (by decide)) ⟨by rw [s5 51 (by decide) (by decide)], by rw [s5 51 (by decide) (by decide)], by rw [s5 51 (by decide) (by decide)]⟩⟩ g5 mz nx kt gx1⟩, fun _ _ r1 => absurd r0 r1⟩
      rw [e5] at z
      clear rf rb cb f5 s5 c0 g5 b1 b2 b3 b4 b5 px xw lv
      first | (simp (disch := omega) only [KX, KP, e0, e1, am_up_a, B89_48, B89_59, xm, mk_w1, mk_w2, B89_78, B89_83, HS is51, HW wi.2, s57 is51 wi.2, B89_99, KG, S18, KT, S67, B67_5, KN, B89_121, GA, GR, GRc, GO, GI, GL, GV, am_w_i, am_ga, am_it, am_if, true_and, and_true, or_true, true_or, ne_eq, not_false_eq_true, not_true_eq_false, false_imp_iff, true_imp_iff, Int.reduceEq, Int.reduceLT, Int.reduceLE, Int.reduceAdd, Int.reduceSub, Int.reduceMul, Int.reduceNeg]; exact z) | simp (disch := omega) only [KX, KP, e0, e1, am_up_a, B89_48, B89_59, xm, mk_w1, mk_w2, B89_78, B89_83, HS is51, HW wi.2, s57 is51 wi.2, B89_99, KG, S18, KT, S67, B67_5, KN, B89_121, z, GA, GR, GRc, GO, GI, GL, GV, am_w_i, am_ga, am_it, am_if, true_and, and_true, or_true, true_or, ne_eq, not_false_eq_true, not_true_eq_false, false_imp_iff, true_imp_iff, Int.reduceEq, Int.reduceLT, Int.reduceLE, Int.reduceAdd, Int.reduceSub, Int.reduceMul, Int.reduceNeg]
    · obtain ⟨I5, e5⟩ : ∃ I5, I5 = am_up (am_up I1 0 2 r.1.1) 0 3 (pl r.1.2.1) := ⟨_, rfl⟩
      have f5 : ∀ a, a ≠ 0 → I5 a = I1 a := fun a h1 => by rw [e5, am_up_a _ _ _ _ h1, am_up_a _ _ _ _ h1]
      have h5 : ∀ j, j ≠ 2 → j ≠ 3 → I5 0 j = I1 0 j := fun j x y => by rw [e5, am_up_n _ _ _ _ y, am_up_n _ _ _ _ x]
      have g5 : I5 0 2 = r.1.1 ∧ I5 0 3 = pl r.1.2.1 := by rw [e5]; simp (disch := decide) only [am_up_n, am_up_s, and_self]
      have hl := isW_le wi.2
      have k1 : ∀ a, a ≠ 0 → ¬ (44 ≤ a ∧ a ≤ 50 ∧ a ≠ 49) → ¬ (w.2.1 ≤ a ∧ a ≤ w.2.1 + 20) → I5 a = I a := fun a x y z => by rw [f5 a x, cz a y z, am_up_a _ _ _ _ x]
      have gx1 : GX I5 := by unfold GX at gx ⊢; rw [k1 49 (by decide) (by decide) (by omega), k1 101 (by decide) (by decide) (by omega)]; exact gx
      have n5 : I5 99 1 = n := by rw [k1 99 (by decide) (by decide) (by omega)]; exact n2
      have z := rf (w.1, w.2.1, w.2.1, w.2.2.2) I5 L gx1 (k1 100 (by decide) (by decide) (by omega)) (by omega) (fun r' h2 => r' = some (vI (-1)) ∧ some (vI (-1)) ≠ none ∧ ∃ w2 I2 L2, h2 = mkH w2 I2 L2 ∧ GG w2 I2 L2) ⟨fun _ _ r1 => absurd r1 r0, fun I6 mz _ e4 e6 => by
        have m0 : I6 0 = I5 0 := mz.1 0 (by decide) (by decide)
        refine ⟨rfl, by simp, _, _, _, rfl, V, lw, σ, 0, r.1.1, pl r.1.2.1, G.fx (w' := (w.1, w.2.1, w.2.1, w.2.2.2)) ⟨rfl, rfl⟩ (fun a h1 h2 h3 h4 h6 => by rw [mz.1 a h2 h6, k1 a h1 h3 h4]) (fun j h1 h2 h3 => by rw [m0, h5 j h2 h3, cz 0 (by omega) (by omega), am_up_n _ _ _ _ h1]) (fun a j h1 h2 h3 => by rw [mz.2.1 a j h1 h2 h3, k1 a (by omega) (by omega) (by omega)]) (fun x h1 h2 h3 h4 h6 => by rw [mz.2.2.1 x h1 h2 h3 h4 h6, k1 99 (by decide) (by decide) (by omega)]) ⟨by rw [m0, h5 1 (by decide) (by decide), cz 0 (by omega) (by omega), am_up_s], mz.2.2.2⟩ ⟨by rw [m0]; exact g5.1, by rw [m0]; exact g5.2, e4, e6⟩⟩⟩
      rw [e5] at z
      clear rf f5 h5 g5 k1 xw
      first | (simp (disch := omega) only [KX, KP, e0, e1, am_up_a, B89_48, B89_59, GA, GR, GRc, GO, GI, GL, GV, am_w_i, am_ga, am_it, am_if, true_and, and_true, or_true, true_or, ne_eq, not_false_eq_true, not_true_eq_false, false_imp_iff, true_imp_iff, Int.reduceEq, Int.reduceLT, Int.reduceLE, Int.reduceAdd, Int.reduceSub, Int.reduceMul, Int.reduceNeg]; exact z) | simp (disch := omega) only [KX, KP, e0, e1, am_up_a, B89_48, B89_59, z, GA, GR, GRc, GO, GI, GL, GV, am_w_i, am_ga, am_it, am_if, true_and, and_true, or_true, true_or, ne_eq, not_false_eq_true, not_true_eq_false, false_imp_iff, true_imp_iff, Int.reduceEq, Int.reduceLT, Int.reduceLE, Int.reduceAdd, Int.reduceSub, Int.reduceMul, Int.reduceNeg]
  · have z := no (-2) (by
      rw [S89]
      by_cases c1 : a < 0
      · simp (disch := omega) only [KX, c1, B89_12, GA, GR, GRc, GO, GI, GL, GV, am_w_i, am_ga, am_it, am_if, true_and, and_true, or_true, true_or, ne_eq, not_false_eq_true, not_true_eq_false, false_imp_iff, true_imp_iff, Int.reduceEq, Int.reduceLT, Int.reduceLE, Int.reduceAdd, Int.reduceSub, Int.reduceMul, Int.reduceNeg]
      · have c2 : ¬ a ≤ n := by omega
        simp (disch := omega) only [KX, c1, n1, c2, B89_12, GA, GR, GRc, GO, GI, GL, GV, am_w_i, am_ga, am_it, am_if, true_and, and_true, or_true, true_or, ne_eq, not_false_eq_true, not_true_eq_false, false_imp_iff, true_imp_iff, Int.reduceEq, Int.reduceLT, Int.reduceLE, Int.reduceAdd, Int.reduceSub, Int.reduceMul, Int.reduceNeg]) (by
      rw [S178]
      by_cases c1 : a < 0
      · simp (disch := omega) only [Kk, B178_5, c1, B178_17, GA, GR, GRc, GO, GI, GL, GV, am_w_i, am_ga, am_it, am_if, true_and, and_true, or_true, true_or, ne_eq, not_false_eq_true, not_true_eq_false, false_imp_iff, true_imp_iff, Int.reduceEq, Int.reduceLT, Int.reduceLE, Int.reduceAdd, Int.reduceSub, Int.reduceMul, Int.reduceNeg]
      · have c2 : ¬ a ≤ n := by omega
        simp (disch := omega) only [Kk, B178_5, c1, n2t, c2, B178_17, GA, GR, GRc, GO, GI, GL, GV, am_w_i, am_ga, am_it, am_if, true_and, and_true, or_true, true_or, ne_eq, not_false_eq_true, not_true_eq_false, false_imp_iff, true_imp_iff, Int.reduceEq, Int.reduceLT, Int.reduceLE, Int.reduceAdd, Int.reduceSub, Int.reduceMul, Int.reduceNeg])
    exact z
