/-! 51: tried, chance, best -/
theorem px_nm_f {V σ : (Nat → Int → Int)} {F F' : Int → Int} (h5 : F 5 = F' 5) (h6 : F 6 = F' 6) (k t : Int) : px_nm V F σ k t = px_nm V F' σ k t := by
  funext j; unfold px_nm px_hl; rw [h5, h6]
theorem px_dist_f {V σ : (Nat → Int → Int)} {lw : (Int → (Int → Int) → Int)} {F F' : Int → Int} {n : Nat} (h5 : F 5 = F' 5) (h6 : F 6 = F' 6) : px_dist V lw F σ n = px_dist V lw F' σ n := px_sum_c (fun k _ => by rw [px_nm_f h5 h6])
theorem CC.fl {w : (Nat × Nat × Nat × Nat)} {I I' V : (Nat → Int → Int)} {lw : (Int → (Int → Int) → Int)} {F F' : Int → Int} (h : CC w I V lw F) (hf : ∀ a, a ≠ 63 → I' a = I a) (hF : I' 63 1 = F' 1 ∧ I' 63 2 = F' 2 ∧ I' 63 3 = F' 3 ∧ I' 63 4 = F' 4 ∧ I' 63 5 = F' 5 ∧ (F' 5 = -1 ∨ I' 63 6 = F' 6) ∧ I' 63 7 = F' 7) (hW : WF F') : CC w I' V lw F' := by
  obtain ⟨a, b, c, e, -, -⟩ := h
  have := isW_le a
  exact ⟨a, b.fr (fun q _ x => hf q (by omega)), c.fr (fun q _ x => hf q (by omega)), e, hF, hW⟩
theorem MC.fl {I I' V : (Nat → Int → Int)} {lw : (Int → (Int → Int) → Int)} {F F' : Int → Int} (h : MC I V lw F) (hf : ∀ a, a ≠ 99 → I' a = I a) (hg : ∀ j, j < 60 → I' 99 j = I 99 j) (hF : MFl I' F') (hW : WF F') : MC I' V lw F' := by
  obtain ⟨a, b, c, -, -⟩ := h
  exact ⟨a.fr (fun q _ _ => hf q (by omega)) (fun j _ _ => hg j (by omega)), b.fr (fun q _ _ => hf q (by omega)), c, hF, hW⟩
theorem MS.f {I I' L σ : (Nat → Int → Int)} {b : Int} (h : MS I L b σ) (hf : ∀ a, a ≠ 99 → I' a = I a) : MS I' L b σ := by
  unfold MS at h ⊢; rw [hf 127 (by decide), hf 128 (by decide), hf 129 (by decide), hf 130 (by decide), hf 131 (by decide)]; exact h
theorem QF.fl {I I' : (Nat → Int → Int)} (hf : ∀ a, a ≠ 99 → I' a = I a) (hg : ∀ j, (j < 60 ∨ 68 ≤ j) → I' 99 j = I 99 j) : QF I I' := ⟨fun a x _ => hf a x, fun j _ _ z => hg j z, ⟨fun _ _ _ => by rw [hf 127 (by decide)], fun _ _ _ => by rw [hf 128 (by decide)], fun _ _ _ => by rw [hf 129 (by decide)], by rw [hf 130 (by decide)], by rw [hf 131 (by decide)]⟩⟩
theorem MA.fl {V σ : (Nat → Int → Int)} {lw : (Int → (Int → Int) → Int)} {F F' : Int → Int} {I L I' L' I2 : (Nat → Int → Int)} (h : MA V lw F σ I L I' L') (hf : ∀ a, a ≠ 99 → I2 a = I' a) (hg : ∀ j, (j < 60 ∨ 68 ≤ j) → I2 99 j = I' 99 j) (hF : MFl I2 F') (hW : WF F') : MA V lw F' σ I L I2 L' := by
  obtain ⟨a, b, c, e⟩ := h
  exact ⟨a.fl hf (fun j hj => hg j (Or.inl hj)) hF hW, b.f hf, c.tr (QF.fl hf hg), e⟩
theorem MA.pl {V σ : (Nat → Int → Int)} {lw : (Int → (Int → Int) → Int)} {F : Int → Int} {I L I' L' : (Nat → Int → Int)} (h : MA V lw F σ I L I' L') : MA V lw (FT 1) σ I L (cz_pl I') L' := by
  obtain ⟨a, b, c⟩ := cz_pl_at (I := I')
  exact h.fl a b c FT_WF
def FX (a i : Int) : Int → Int := fun j => if j = 1 then (if a = 0 then 0 else 1) else if j = 2 then (if a = 3 then 0 else 1) else if j = 3 then (if a = 4 then 0 else 1) else if j = 4 then (if a = 2 then i else -1) else if j = 5 then -1 else if j = 7 then (if a = 1 then 2 else 1) else 0
theorem FX_WF {a i : Int} : WF (FX a i) := by unfold WF FX; simp
set_option maxHeartbeats 1000000 in
theorem q_tried {V σ : (Nat → Int → Int)} {lw : (Int → (Int → Int) → Int)} {a i n : Int} : P2 (GC V lw σ) 145 272 [vI a, vI i, vI n] := by
  by_cases c : (0 ≤ a ∧ a ≤ 4) ∧ (0 ≤ i ∧ i ≤ (if a = 2 then 1 else 0)) ∧ (0 ≤ n ∧ n ≤ 200)
  · obtain ⟨c1, c2, c3⟩ := c
    obtain ⟨m, hm⟩ : ∃ m : Nat, n = m := ⟨n.toNat, by omega⟩
    subst hm
    refine ⟨vI (px_dist V lw (FT 1) (px_days V lw (FX a i) m σ) (V 0 0).toNat), fun w I L G d Q q => ?_, fun w I L G d Q q => ?_⟩
    · have G0 := G
      obtain ⟨⟨hw, hR, hL, hV, hM, hN⟩, rS, mS, wS, ny, ct⟩ := id G
      have h12 := hV.1.2.2
      have W2 := wS.days (lw := lw) (F := FX a i) hV FX_WF m (by omega)
      have fin : ∀ J, (∀ x, x ≠ 63 → J x = I x) → (J 63 1 = FX a i 1 ∧ J 63 2 = FX a i 2 ∧ J 63 3 = FX a i 3 ∧ J 63 4 = FX a i 4 ∧ J 63 5 = FX a i 5 ∧ (FX a i 5 = -1 ∨ J 63 6 = FX a i 6) ∧ J 63 7 = FX a i 7) → am_WP (d + 20) 145 128 [some (vR (some 0)), some (vI a), some (vI i), some (vI (m : Int))] [] (mkH (w.1, w.2.1, w.2.2.1, w.1) J L) Q := by
        intro J j1 j2
        have C : CC (w.1, w.2.1, w.2.2.1, w.1) J V lw (FX a i) := (G0.tk 1).1.fl (fun x hx => by rw [j1 x hx, cz_tk_a hx]) j2 FX_WF
        have R : RS J 51 σ := rS.fr (fun x _ _ => j1 x (by omega))
        have T : CT J 51 (V 0 2).toNat := ct.fr (j1 54 (by decide)) ⟨by rw [j1 51 (by decide)], by rw [j1 51 (by decide)], by rw [j1 51 (by decide)]⟩
        have cf := (cz_copy_at (I := J) (s := 55) (t := 51) (by omega)).2.2.2.2
        have l : CL V lw (FX a i) σ w I L (w.1, w.2.1, w.2.2.1, w.1) (cz_copy J 55 51) L := ⟨rfl, C.fr (fun a ha => cf a (by omega)), R.copy (by omega), T.copy (by omega) (by omega), ny, fun x hx => by rw [cf x (by omega), j1 x (by omega)], LF.rf⟩
        rw [B145_128]
        simp (disch := omega) only [KX, KC, HS (show isS 55 from Or.inr (Or.inl rfl)), s58 (show isS 55 from Or.inr (Or.inl rfl)) (show isS 51 from Or.inl rfl) (by decide), GA, GR, GRc, GO, GI, GL, GV, am_w_i, am_ga, am_it, am_if, true_and, and_true, or_true, true_or, ne_eq, not_false_eq_true, not_true_eq_false, false_imp_iff, true_imp_iff, Int.reduceEq, Int.reduceLT, Int.reduceLE, Int.reduceAdd, Int.reduceSub, Int.reduceMul, Int.reduceNeg]
        refine CL.days l wS (by omega) (fun I2 L2 l2 => ?_)
        simp (disch := omega) only [KX, KC, GA, GR, GRc, GO, GI, GL, GV, am_w_i, am_ga, am_it, am_if, true_and, and_true, or_true, true_or, ne_eq, not_false_eq_true, not_true_eq_false, false_imp_iff, true_imp_iff, Int.reduceEq, Int.reduceLT, Int.reduceLE, Int.reduceAdd, Int.reduceSub, Int.reduceMul, Int.reduceNeg]
        refine CL.dist l2 W2 (fun L3 l3 => ?_)
        simp (disch := omega) only [GA, GR, GRc, GO, GI, GL, GV, am_w_i, am_ga, am_it, am_if, true_and, and_true, or_true, true_or, ne_eq, not_false_eq_true, not_true_eq_false, false_imp_iff, true_imp_iff, Int.reduceEq, Int.reduceLT, Int.reduceLE, Int.reduceAdd, Int.reduceSub, Int.reduceMul, Int.reduceNeg]
        rw [px_dist_f (F' := FT 1) (by unfold FX FT; simp) (by unfold FX FT; simp)]
        exact q _ _ _ l3.qr
      rw [S145]
      rcases (show a = 0 ∨ a = 1 ∨ a = 2 ∨ a = 3 ∨ a = 4 by omega) with e | e | e | e | e <;>
      · subst e
        simp only [reduceIte, show ((0 : Int) = 2) = False by simp, show ((1 : Int) = 2) = False by simp, show ((3 : Int) = 2) = False by simp, show ((4 : Int) = 2) = False by simp] at c2
        simp (disch := omega) only [s96, B145_21, c2, c3, if_true, KX, KC, B145_58, s1, B145_74, B145_77, B145_91, B145_94, B145_108, B145_111, B145_125, GA, GR, GRc, GO, GI, GL, GV, am_w_i, am_ga, am_it, am_if, true_and, and_true, or_true, true_or, ne_eq, not_false_eq_true, not_true_eq_false, false_imp_iff, true_imp_iff, Int.reduceEq, Int.reduceLT, Int.reduceLE, Int.reduceAdd, Int.reduceSub, Int.reduceMul, Int.reduceNeg]
        refine fin _ (fun x hx => ?_) ?_
        · simp only [am_up_a _ _ _ _ hx, cz_tk_a hx]
        · unfold cz_tk FX am_up; simp
    · have G1 := G.t (v := 0)
      obtain ⟨⟨hw, hR, hL, hV, hM, hN⟩, rS, mS, wS, ny, ct⟩ := id G
      have W2 := wS.days (lw := lw) (F := FX a i) hV FX_WF m (by omega)
      have fin : ∀ J, (∀ x, x ≠ 99 → J x = cz_lt (am_up I 99 2 0) x) → (∀ j, (j < 60 ∨ 68 ≤ j) → J 99 j = cz_lt (am_up I 99 2 0) 99 j) → MFl J (FX a i) → am_WP (d + 20) 272 119 [some (vR (some 99)), some (vI a), some (vI i), some (vI (m : Int))] [] (mkH w J L) Q := by
        intro J j1 j2 j3
        have l := G1.lt.fl j1 j2 j3 FX_WF
        rw [B272_119]
        simp (disch := omega) only [Kk, GA, GR, GRc, GO, GI, GL, GV, am_w_i, am_ga, am_it, am_if, true_and, and_true, or_true, true_or, ne_eq, not_false_eq_true, not_true_eq_false, false_imp_iff, true_imp_iff, Int.reduceEq, Int.reduceLT, Int.reduceLE, Int.reduceAdd, Int.reduceSub, Int.reduceMul, Int.reduceNeg]
        refine MA.days l wS (by omega) (fun I2 L2 l2 => ?_)
        simp (disch := omega) only [Kk, s197, GA, GR, GRc, GO, GI, GL, GV, am_w_i, am_ga, am_it, am_if, true_and, and_true, or_true, true_or, ne_eq, not_false_eq_true, not_true_eq_false, false_imp_iff, true_imp_iff, Int.reduceEq, Int.reduceLT, Int.reduceLE, Int.reduceAdd, Int.reduceSub, Int.reduceMul, Int.reduceNeg]
        refine MA.dist l2.pl W2 (fun I3 L3 l3 => ?_)
        simp (disch := omega) only [GA, GR, GRc, GO, GI, GL, GV, am_w_i, am_ga, am_it, am_if, true_and, and_true, or_true, true_or, ne_eq, not_false_eq_true, not_true_eq_false, false_imp_iff, true_imp_iff, Int.reduceEq, Int.reduceLT, Int.reduceLE, Int.reduceAdd, Int.reduceSub, Int.reduceMul, Int.reduceNeg]
        refine q _ _ (QR.t.tr (l3.qr ?_))
        rw [px_days_8 (by unfold FX; simp; split <;> omega)]; exact mS.2.2.2.2.2.symm
      rw [S272]
      rcases (show a = 0 ∨ a = 1 ∨ a = 2 ∨ a = 3 ∨ a = 4 by omega) with e | e | e | e | e
      · subst e
        have i0 : i = 0 := by simp at c2; omega
        simp (disch := omega) only [Kk, B272_5, s153, c3, i0, if_true, B272_46, s198, B272_60, B272_63, B272_74, B272_77, B272_88, B272_91, B272_102, B272_105, B272_116, GA, GR, GRc, GO, GI, GL, GV, am_w_i, am_ga, am_it, am_if, true_and, and_true, or_true, true_or, ne_eq, not_false_eq_true, not_true_eq_false, false_imp_iff, true_imp_iff, Int.reduceEq, Int.reduceLT, Int.reduceLE, Int.reduceAdd, Int.reduceSub, Int.reduceMul, Int.reduceNeg]
        rw [i0] at fin
        refine fin _ (fun x hx => ?_) (fun j hj => ?_) ?_
        · simp only [am_up_a _ _ _ _ hx]
        · simp (disch := omega) only [am_up_n]
        · have := (cz_lt_at (I := am_up I 99 2 0)).2.2.1
          unfold MFl FX am_up at *; simp_all [FT]
      · subst e
        have i0 : i = 0 := by simp at c2; omega
        simp (disch := omega) only [Kk, B272_5, s153, c3, i0, if_true, B272_46, s198, B272_60, B272_63, B272_74, B272_77, B272_88, B272_91, B272_102, B272_105, B272_116, GA, GR, GRc, GO, GI, GL, GV, am_w_i, am_ga, am_it, am_if, true_and, and_true, or_true, true_or, ne_eq, not_false_eq_true, not_true_eq_false, false_imp_iff, true_imp_iff, Int.reduceEq, Int.reduceLT, Int.reduceLE, Int.reduceAdd, Int.reduceSub, Int.reduceMul, Int.reduceNeg]
        rw [i0] at fin
        refine fin _ (fun x hx => ?_) (fun j hj => ?_) ?_
        · simp only [am_up_a _ _ _ _ hx]
        · simp (disch := omega) only [am_up_n]
        · have := (cz_lt_at (I := am_up I 99 2 0)).2.2.1
          unfold MFl FX am_up at *; simp_all [FT]
      · subst e
        have i0 : i = 0 ∨ i = 1 := by simp at c2; omega
        simp (disch := omega) only [Kk, B272_5, s153, c3, s201, i0, if_true, B272_46, s198, B272_60, B272_63, B272_74, B272_77, B272_88, B272_91, B272_102, B272_105, B272_116, GA, GR, GRc, GO, GI, GL, GV, am_w_i, am_ga, am_it, am_if, true_and, and_true, or_true, true_or, ne_eq, not_false_eq_true, not_true_eq_false, false_imp_iff, true_imp_iff, Int.reduceEq, Int.reduceLT, Int.reduceLE, Int.reduceAdd, Int.reduceSub, Int.reduceMul, Int.reduceNeg]
        refine fin _ (fun x hx => ?_) (fun j hj => ?_) ?_
        · simp only [am_up_a _ _ _ _ hx]
        · simp (disch := omega) only [am_up_n]
        · have := (cz_lt_at (I := am_up I 99 2 0)).2.2.1
          unfold MFl FX am_up at *; simp_all [FT]
      · subst e
        have i0 : i = 0 := by simp at c2; omega
        simp (disch := omega) only [Kk, B272_5, s153, c3, i0, if_true, B272_46, s198, B272_60, B272_63, B272_74, B272_77, B272_88, B272_91, B272_102, B272_105, B272_116, GA, GR, GRc, GO, GI, GL, GV, am_w_i, am_ga, am_it, am_if, true_and, and_true, or_true, true_or, ne_eq, not_false_eq_true, not_true_eq_false, false_imp_iff, true_imp_iff, Int.reduceEq, Int.reduceLT, Int.reduceLE, Int.reduceAdd, Int.reduceSub, Int.reduceMul, Int.reduceNeg]
        rw [i0] at fin
        refine fin _ (fun x hx => ?_) (fun j hj => ?_) ?_
        · simp only [am_up_a _ _ _ _ hx]
        · simp (disch := omega) only [am_up_n]
        · have := (cz_lt_at (I := am_up I 99 2 0)).2.2.1
          unfold MFl FX am_up at *; simp_all [FT]
      · subst e
        have i0 : i = 0 := by simp at c2; omega
        simp (disch := omega) only [Kk, B272_5, s153, c3, i0, if_true, B272_46, s198, B272_60, B272_63, B272_74, B272_77, B272_88, B272_91, B272_102, B272_105, B272_116, GA, GR, GRc, GO, GI, GL, GV, am_w_i, am_ga, am_it, am_if, true_and, and_true, or_true, true_or, ne_eq, not_false_eq_true, not_true_eq_false, false_imp_iff, true_imp_iff, Int.reduceEq, Int.reduceLT, Int.reduceLE, Int.reduceAdd, Int.reduceSub, Int.reduceMul, Int.reduceNeg]
        rw [i0] at fin
        refine fin _ (fun x hx => ?_) (fun j hj => ?_) ?_
        · simp only [am_up_a _ _ _ _ hx]
        · simp (disch := omega) only [am_up_n]
        · have := (cz_lt_at (I := am_up I 99 2 0)).2.2.1
          unfold MFl FX am_up at *; simp_all [FT]
  · refine ⟨vI (-1), fun w I L G d Q q => ?_, fun w I L G d Q q => ?_⟩
    · have z := q _ _ _ QR.rf
      rw [S145]
      by_cases c1 : 0 ≤ a ∧ a ≤ 4
      · by_cases e : a = 2
        · rw [if_pos e] at c
          by_cases c2 : 0 ≤ i ∧ i ≤ 1
          · have c3 : ¬ (0 ≤ n ∧ n ≤ 200) := fun h => c ⟨c1, c2, h⟩
            simp (disch := omega) only [s96, c1, e, B145_21, c2, c3, if_true, if_false, B145_38, z, GA, GR, GRc, GO, GI, GL, GV, am_w_i, am_ga, am_it, am_if, true_and, and_true, or_true, true_or, ne_eq, not_false_eq_true, not_true_eq_false, false_imp_iff, true_imp_iff, Int.reduceEq, Int.reduceLT, Int.reduceLE, Int.reduceAdd, Int.reduceSub, Int.reduceMul, Int.reduceNeg]
          · simp (disch := omega) only [s96, c1, e, B145_21, c2, if_true, if_false, B145_38, z, GA, GR, GRc, GO, GI, GL, GV, am_w_i, am_ga, am_it, am_if, true_and, and_true, or_true, true_or, ne_eq, not_false_eq_true, not_true_eq_false, false_imp_iff, true_imp_iff, Int.reduceEq, Int.reduceLT, Int.reduceLE, Int.reduceAdd, Int.reduceSub, Int.reduceMul, Int.reduceNeg]
        · rw [if_neg e] at c
          by_cases c2 : 0 ≤ i ∧ i ≤ 0
          · have c3 : ¬ (0 ≤ n ∧ n ≤ 200) := fun h => c ⟨c1, c2, h⟩
            simp (disch := omega) only [s96, c1, e, B145_21, c2, c3, if_true, if_false, B145_38, z, GA, GR, GRc, GO, GI, GL, GV, am_w_i, am_ga, am_it, am_if, true_and, and_true, or_true, true_or, ne_eq, not_false_eq_true, not_true_eq_false, false_imp_iff, true_imp_iff, Int.reduceEq, Int.reduceLT, Int.reduceLE, Int.reduceAdd, Int.reduceSub, Int.reduceMul, Int.reduceNeg]
          · simp (disch := omega) only [s96, c1, e, B145_21, c2, if_true, if_false, B145_38, z, GA, GR, GRc, GO, GI, GL, GV, am_w_i, am_ga, am_it, am_if, true_and, and_true, or_true, true_or, ne_eq, not_false_eq_true, not_true_eq_false, false_imp_iff, true_imp_iff, Int.reduceEq, Int.reduceLT, Int.reduceLE, Int.reduceAdd, Int.reduceSub, Int.reduceMul, Int.reduceNeg]
      · simp (disch := omega) only [s96, c1, if_false, B145_38, z, GA, GR, GRc, GO, GI, GL, GV, am_w_i, am_ga, am_it, am_if, true_and, and_true, or_true, true_or, ne_eq, not_false_eq_true, not_true_eq_false, false_imp_iff, true_imp_iff, Int.reduceEq, Int.reduceLT, Int.reduceLE, Int.reduceAdd, Int.reduceSub, Int.reduceMul, Int.reduceNeg]
    · have z := q _ _ (QR.t (v := 0))
      rw [S272]
      by_cases c1 : 0 ≤ a ∧ a ≤ 4
      · by_cases c3 : 0 ≤ n ∧ n ≤ 200
        · by_cases e : a = 2
          · rw [if_pos e] at c
            have c2 : ¬ (i = 0 ∨ i = 1) := fun h => c ⟨c1, by omega, c3⟩
            simp (disch := omega) only [Kk, B272_5, s153, s201, c1, c3, e, c2, if_true, if_false, B272_44, z, GA, GR, GRc, GO, GI, GL, GV, am_w_i, am_ga, am_it, am_if, true_and, and_true, or_true, true_or, ne_eq, not_false_eq_true, not_true_eq_false, false_imp_iff, true_imp_iff, Int.reduceEq, Int.reduceLT, Int.reduceLE, Int.reduceAdd, Int.reduceSub, Int.reduceMul, Int.reduceNeg]
          · rw [if_neg e] at c
            have c2 : ¬ i = 0 := fun h => c ⟨c1, by omega, c3⟩
            simp (disch := omega) only [Kk, B272_5, s153, c1, c3, e, c2, if_true, if_false, B272_44, z, GA, GR, GRc, GO, GI, GL, GV, am_w_i, am_ga, am_it, am_if, true_and, and_true, or_true, true_or, ne_eq, not_false_eq_true, not_true_eq_false, false_imp_iff, true_imp_iff, Int.reduceEq, Int.reduceLT, Int.reduceLE, Int.reduceAdd, Int.reduceSub, Int.reduceMul, Int.reduceNeg]
        · simp (disch := omega) only [Kk, B272_5, s153, c1, c3, if_true, if_false, B272_44, z, GA, GR, GRc, GO, GI, GL, GV, am_w_i, am_ga, am_it, am_if, true_and, and_true, or_true, true_or, ne_eq, not_false_eq_true, not_true_eq_false, false_imp_iff, true_imp_iff, Int.reduceEq, Int.reduceLT, Int.reduceLE, Int.reduceAdd, Int.reduceSub, Int.reduceMul, Int.reduceNeg]
      · simp (disch := omega) only [Kk, B272_5, s153, c1, if_false, B272_44, z, GA, GR, GRc, GO, GI, GL, GV, am_w_i, am_ga, am_it, am_if, true_and, and_true, or_true, true_or, ne_eq, not_false_eq_true, not_true_eq_false, false_imp_iff, true_imp_iff, Int.reduceEq, Int.reduceLT, Int.reduceLE, Int.reduceAdd, Int.reduceSub, Int.reduceMul, Int.reduceNeg]
