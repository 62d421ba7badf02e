/-! 79: a healing under which every sight is so: reference -/
theorem px_fs_x {T : (Nat → Int → Int)} {c : Int → Int} {σ : (Nat → Int → Int)} {dy x : Int} : ∀ n, px_fs T c (am_up σ 0 8 x) dy n = px_fs T c σ dy n
  | 0 => rfl
  | n + 1 => by
    rw [px_fs, px_fs, px_fs_x n]
    unfold px_gap
    rw [am_up_a σ 0 8 x (show (1 : Nat) ≠ 0 by decide)]
set_option maxHeartbeats 1000000 in
theorem s269 {d : Nat} {w : Nat × Nat × Nat × Nat} {I L : Nat → Int → Int} {V T σ : (Nat → Int → Int)} {lw : (Int → (Int → Int) → Int)} {m : Nat} {kb k h : Int} {c : Int → Int} (G : GC V lw σ w I L) (hT : GDm T m kb I) (hw : WT V T m kb) (hc : ∀ j, 0 ≤ j → j < (px_rc m kb : Int) → I 135 j = c j) (hh : 0 ≤ h ∧ h ≤ 9) {Q : Option am_V → am_H → Prop} (q : ∀ I' L', QR w I L w I' L' → I' 134 = I 134 → I' 135 = I 135 → Q (some (vI (if px_sa V lw (FH k h) T c (px_rc m kb) 60 = true then 1 else 0))) (mkH w I' L')) : am_Sp (d + 10) 269 [vR (some 99), vI k, vI h] (mkH w I L) Q := by
  obtain ⟨⟨hW, hR, hL, hV, hM, hN⟩, rS, mS, wS, ny, ct⟩ := G
  have af := cz_af_at (I := I) (b := 1)
  have cp := cz_pl_at (I := cz_af I 1)
  have x8 : L 99 59 = σ 0 8 := mS.2.2.2.2.2
  have xb := wS.2.2.2.2.1
  have f7 : FH k h 7 ≠ 0 := by unfold FH FT; simp
  have MA0 : MA V lw (FH k h) (am_up (px_beg V) 0 8 (L 99 59)) I L (am_up (am_up (cz_pl (cz_af I 1)) 99 66 k) 99 67 h) L := by
    have hM1 : MW (cz_af I 1) V := hM.fr (fun a _ _ => af.1 a (by omega)) (fun j _ _ => by rw [af.1 99 (by omega)])
    have hN1 : ML (cz_af I 1) lw := hN.fr (fun a _ _ => af.1 a (by omega))
    have b0 : MA V lw (FT 1) (am_up (px_beg V) 0 8 (L 99 59)) I L (cz_pl (cz_af I 1)) L := by
      refine ⟨MC.pl hM1 hN1 hV, (MS.af hM).pl, ⟨fun a x y => ?_, fun j x y z => ?_, ?_⟩, LM.rf⟩
      · rw [cp.1 a x, af.1 a (by omega)]
      · rw [cp.2.1 j z, af.1 99 (by omega)]
      · have fb := af.2 rfl
        obtain ⟨g1, g2, g3, g4, g5⟩ := fb
        exact ⟨fun j a b => by rw [cp.1 127 (by decide)]; exact g1 j a b, fun j a b => by rw [cp.1 128 (by decide)]; exact g2 j a b, fun j a b => by rw [cp.1 129 (by decide)]; exact g3 j a b, by rw [cp.1 130 (by decide)]; exact g4, by rw [cp.1 131 (by decide)]; exact g5⟩
    refine b0.fl (fun a ha => ?_) (fun j hj => ?_) ?_ (FH_WF hh)
    · rw [am_up_a _ _ _ _ ha, am_up_a _ _ _ _ ha]
    · rw [am_up_n _ _ _ _ (by omega), am_up_n _ _ _ _ (by omega)]
    · unfold MFl cz_pl FH FT am_up; simp
  have W0 : ∀ i : Nat, i ≤ 60 → WS i (px_days V lw (FH k h) i (am_up (px_beg V) 0 8 (L 99 59))) := by
    intro i hi
    have := ((WS.beg hV).u8 (v := L 99 59) (by rw [x8]; exact xb)).days (lw := lw) (F := FH k h) hV (FH_WF hh) i (by omega)
    rw [show (0 : Int) + (i : Int) = i by omega] at this; exact this
  rw [S269]
  simp (disch := omega) only [Kk, s196 (b := 1) (Or.inr rfl), s197, B269_14, B269_19, GA, GR, GRc, GO, GI, GL, GV, am_w_i, am_ga, am_it, am_if, true_and, and_true, or_true, true_or, ne_eq, not_false_eq_true, not_true_eq_false, false_imp_iff, true_imp_iff, Int.reduceEq, Int.reduceLT, Int.reduceLE, Int.reduceAdd, Int.reduceSub, Int.reduceMul, Int.reduceNeg]
  have J5 : am_up (am_up (cz_pl (cz_af I 1)) 99 66 k) 99 67 h 135 = I 135 := by rw [am_up_a _ _ _ _ (by decide), am_up_a _ _ _ _ (by decide), cp.1 135 (by decide), af.1 135 (by decide)]
  generalize am_up (am_up (cz_pl (cz_af I 1)) 99 66 k) 99 67 h = J at *
  refine am_loop (α := (Nat → Int → Int) × (Nat → Int → Int)) 60 (fun i x => am_WP (d + 10) 269 21 [some (vR (some 99)), some (vI k), some (vI h), some (vI ((i : Int) + 1))] [] (mkH w x.1 x.2) Q) (fun i x => MA V lw (FH k h) (px_days V lw (FH k h) i (am_up (px_beg V) 0 8 (L 99 59))) I L x.1 x.2 ∧ x.1 135 = I 135 ∧ px_sa V lw (FH k h) T c (px_rc m kb) i = true) ?_ ?_ 0 (J, L) (Nat.zero_le _) ⟨MA0, ?_, rfl⟩
  · intro i ⟨Ia, La⟩ hi ⟨la, i5, inv⟩ ih
    dsimp only at la i5 ⊢
    rw [B269_21]
    simp (disch := omega) only [Kk, GA, GR, GRc, GO, GI, GL, GV, am_w_i, am_ga, am_it, am_if, true_and, and_true, or_true, true_or, ne_eq, not_false_eq_true, not_true_eq_false, false_imp_iff, true_imp_iff, Int.reduceEq, Int.reduceLT, Int.reduceLE, Int.reduceAdd, Int.reduceSub, Int.reduceMul, Int.reduceNeg]
    refine s217 la.1 (Or.inr rfl) la.2.1 (W0 i (by omega)) (fun Ib Lb rb fb lb2 => ?_)
    have rb2 : MS Ib Lb 1 (px_days V lw (FH k h) (i + 1) (am_up (px_beg V) 0 8 (L 99 59))) := rb
    have lb : MA V lw (FH k h) (px_days V lw (FH k h) (i + 1) (am_up (px_beg V) 0 8 (L 99 59))) I L Ib Lb := ⟨la.1.fr fb, rb2, la.2.2.1.tr (QF.mf fb), la.2.2.2.tr lb2⟩
    have b5 : Ib 135 = I 135 := by rw [fb.1 135 (by decide) (by decide), i5]
    have tb : GDm T m kb Ib := hT.fr (lb.2.2.1.2.1 70 (by decide) (by decide) (by decide)) (lb.2.2.1.2.1 71 (by decide) (by decide) (by decide)) (lb.2.2.1.1 134 (by decide) (by omega))
    have cb : ∀ j, 0 ≤ j → j < (px_rc m kb : Int) → Ib 135 j = c j := fun j x y => by rw [b5]; exact hc j x y
    have e268 := fun (d : Nat) (dy : Int) (Q : Option am_V → am_H → Prop) => s268 (d := d) (w := w) (L := Lb) (dy := dy) tb hw hV rb2 (W0 (i + 1) (by omega)) cb (Q := Q)
    simp only [px_days_x f7, px_fs_x] at e268
    have ec : (i : Int) + 1 = ((i + 1 : Nat) : Int) := by omega
    cases hf : px_fs T c (px_days V lw (FH k h) (i + 1) (px_beg V)) ((i + 1 : Nat) : Int) (px_rc m kb) with
    | true =>
      have z := ih (Ib, Lb) ⟨lb, b5, by rw [px_sa, inv, hf]; rfl⟩
      dsimp only at z
      rw [ec] at *
      first | (simp (disch := omega) only [Kk, e268, hf, if_true, GA, GR, GRc, GO, GI, GL, GV, am_w_i, am_ga, am_it, am_if, true_and, and_true, or_true, true_or, ne_eq, not_false_eq_true, not_true_eq_false, false_imp_iff, true_imp_iff, Int.reduceEq, Int.reduceLT, Int.reduceLE, Int.reduceAdd, Int.reduceSub, Int.reduceMul, Int.reduceNeg]; exact z) | simp (disch := omega) only [Kk, e268, hf, if_true, z, GA, GR, GRc, GO, GI, GL, GV, am_w_i, am_ga, am_it, am_if, true_and, and_true, or_true, true_or, ne_eq, not_false_eq_true, not_true_eq_false, false_imp_iff, true_imp_iff, Int.reduceEq, Int.reduceLT, Int.reduceLE, Int.reduceAdd, Int.reduceSub, Int.reduceMul, Int.reduceNeg]
    | false =>
      have f : px_sa V lw (FH k h) T c (px_rc m kb) 60 = false := px_sa_m (i := i + 1) (by rw [px_sa, inv, hf]; rfl) 60 (by omega)
      have z := q Ib Lb (lb.qr (by rw [px_days_8 f7, am_up_s])) (lb.2.2.1.1 134 (by decide) (by omega)) b5
      rw [f] at z
      simp only [Bool.false_eq_true, if_false] at z
      rw [ec]
      first | (simp (disch := omega) only [Kk, e268, hf, if_false, Bool.false_eq_true, GA, GR, GRc, GO, GI, GL, GV, am_w_i, am_ga, am_it, am_if, true_and, and_true, or_true, true_or, ne_eq, not_false_eq_true, not_true_eq_false, false_imp_iff, true_imp_iff, Int.reduceEq, Int.reduceLT, Int.reduceLE, Int.reduceAdd, Int.reduceSub, Int.reduceMul, Int.reduceNeg]; exact z) | simp (disch := omega) only [Kk, e268, hf, if_false, Bool.false_eq_true, z, GA, GR, GRc, GO, GI, GL, GV, am_w_i, am_ga, am_it, am_if, true_and, and_true, or_true, true_or, ne_eq, not_false_eq_true, not_true_eq_false, false_imp_iff, true_imp_iff, Int.reduceEq, Int.reduceLT, Int.reduceLE, Int.reduceAdd, Int.reduceSub, Int.reduceMul, Int.reduceNeg]
  · intro ⟨Ia, La⟩ ⟨la, i5, inv⟩
    dsimp only at la i5 ⊢
    have z := q Ia La (la.qr (by rw [px_days_8 f7, am_up_s])) (la.2.2.1.1 134 (by decide) (by omega)) i5
    rw [inv] at z
    simp only [if_true] at z
    rw [B269_21]
    first | (simp (disch := omega) only [GA, GR, GRc, GO, GI, GL, GV, am_w_i, am_ga, am_it, am_if, true_and, and_true, or_true, true_or, ne_eq, not_false_eq_true, not_true_eq_false, false_imp_iff, true_imp_iff, Int.reduceEq, Int.reduceLT, Int.reduceLE, Int.reduceAdd, Int.reduceSub, Int.reduceMul, Int.reduceNeg]; exact z) | simp (disch := omega) only [z, GA, GR, GRc, GO, GI, GL, GV, am_w_i, am_ga, am_it, am_if, true_and, and_true, or_true, true_or, ne_eq, not_false_eq_true, not_true_eq_false, false_imp_iff, true_imp_iff, Int.reduceEq, Int.reduceLT, Int.reduceLE, Int.reduceAdd, Int.reduceSub, Int.reduceMul, Int.reduceNeg]
  · exact J5
