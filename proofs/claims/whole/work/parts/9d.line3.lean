/-! 9d: lines has, deed, do (class) -/
set_option maxHeartbeats 1000000 in
theorem s36 {d : Nat} {w : Nat × Nat × Nat × Nat} {I L : Nat → Int → Int} {s u pl : Nat → Int} {K k : Nat} {X : (Nat → Int → Int)} (hT : cT s u pl K I) (hu : TU s u K) (hW : isW w.2.2.1) (hX : PX w I X) (hb : (0 ≤ X 0 0 ∧ X 0 0 ≤ 6) ∧ (0 ≤ X 0 1 ∧ X 0 1 ≤ 8) ∧ (0 ≤ X 0 2 ∧ X 0 2 ≤ 12) ∧ (0 ≤ X 0 5 ∧ X 0 5 ≤ 12)) (h3 : I 44 3 = k) (hk : k < K) {Q : Option am_V → am_H → Prop} (q : LCo w I pl L (hsF s u X k) Q) : am_Sp (d + 4) 36 [vR (some 44)] (mkH w I L) Q := by
  have hl := isW_le hW
  have hK := hu.2.1
  obtain ⟨ck, hck⟩ : ∃ c : Nat, X 0 0 = c := ⟨(X 0 0).toNat, by omega⟩
  have eck : (X 0 0).toNat = ck := by omega
  obtain ⟨cd, hcd⟩ : ∃ c : Nat, X 0 1 = c := ⟨(X 0 1).toNat, by omega⟩
  have ecd : (X 0 1).toNat = cd := by omega
  obtain ⟨ct, hct⟩ : ∃ c : Nat, X 0 2 = c := ⟨(X 0 2).toNat, by omega⟩
  have ect : (X 0 2).toNat = ct := by omega
  have e0 : ∀ J, PX w J X → J w.2.2.1 0 = (ck : Int) ∧ J w.2.2.1 5 = (cd : Int) ∧ J w.2.2.1 11 = (ct : Int) ∧ J 44 5 = X 0 5 := fun J h => ⟨h.1.1.trans hck, h.1.2.1.trans hcd, h.1.2.2.1.trans hct, h.2.1.1⟩
  unfold hsF at q
  simp only [hck, hcd, hct, Int.toNat_natCast] at q
  rw [S36]
  simp (disch := omega) only [KP, HW hW, e0 I hX, GA, GR, GRc, GO, GI, GL, GV, am_w_i, am_ga, am_it, am_if, true_and, and_true, or_true, true_or, ne_eq, not_false_eq_true, not_true_eq_false, false_imp_iff, true_imp_iff, Int.reduceEq, Int.reduceLT, Int.reduceLE, Int.reduceAdd, Int.reduceSub, Int.reduceMul, Int.reduceNeg]
  refine s29 hT h3 (by omega) hK (fun y => ?_) (fun y => ?_)
  · rw [if_pos y] at q
    have F0 : CS I (am_up I 44 3 ((k : Int) + 1)) := CS.rf.up (by decide)
    have at0 : am_up I 44 3 ((k : Int) + 1) 44 3 = ((k + 1 : Nat) : Int) := by rw [am_up_s]; omega
    generalize am_up I 44 3 ((k : Int) + 1) = I0 at F0 at0 ⊢
    have X0 := hX.cf hW F0
    simp (disch := omega) only [KP, HW hW, e0 I0 X0, GA, GR, GRc, GO, GI, GL, GV, am_w_i, am_ga, am_it, am_if, true_and, and_true, or_true, true_or, ne_eq, not_false_eq_true, not_true_eq_false, false_imp_iff, true_imp_iff, Int.reduceEq, Int.reduceLT, Int.reduceLE, Int.reduceAdd, Int.reduceSub, Int.reduceMul, Int.reduceNeg]
    refine s31 (k := (k + 1)) (hT.cf F0) at0 hk hK (fun I1 f1 x1 y1 => ?_) (fun I1 f1 x1 y1 z1 => ?_)
    · skip
      have v1 := nmF_v hu hk x1
      have q := q.ok x1
      generalize nmF s u (k + 1) 1 = r1 at x1 y1 v1 q ⊢
      have F1 := F0.tr f1
      have X1 := hX.cf hW F1
      have g1 := v1.1
      simp (disch := omega) only [KP, HW hW, g1, e0 I1 X1, GA, GR, GRc, GO, GI, GL, GV, am_w_i, am_ga, am_it, am_if, true_and, and_true, or_true, true_or, ne_eq, not_false_eq_true, not_true_eq_false, false_imp_iff, true_imp_iff, Int.reduceEq, Int.reduceLT, Int.reduceLE, Int.reduceAdd, Int.reduceSub, Int.reduceMul, Int.reduceNeg]
      have n2 : I1 (w.2.2.1 + 1) = X 1 := X1.2.2.1 1 (by omega) (by omega)
      refine s34 (a := w.2.2.1 + 1) (c := ck) (k := r1.2.1) (ln := 6) (hT.cf F1) y1 v1.2.2 hK (by omega) (fun J => by simp (disch := omega) only [HW hW, GA, GR, GRc, GO, GI, GL, GV, am_w_i, am_ga, am_it, am_if, true_and, and_true, or_true, true_or, ne_eq, not_false_eq_true, not_true_eq_false, false_imp_iff, true_imp_iff, Int.reduceEq, Int.reduceLT, Int.reduceLE, Int.reduceAdd, Int.reduceSub, Int.reduceMul, Int.reduceNeg]) (fun J => by simp (disch := omega) only [HW hW, GA, GR, GRc, GO, GI, GL, GV, am_w_i, am_ga, am_it, am_if, true_and, and_true, or_true, true_or, ne_eq, not_false_eq_true, not_true_eq_false, false_imp_iff, true_imp_iff, Int.reduceEq, Int.reduceLT, Int.reduceLE, Int.reduceAdd, Int.reduceSub, Int.reduceMul, Int.reduceNeg]; rfl) (by omega) (by omega) ⟨fun I2 f2 x2 y2 => ?_, fun I2 f2 x2 y2 z2 => ?_⟩
      · rw [n2] at x2 y2 ⊢
        have v2 := onF_v hu v1.2.2 x2
        have q := q.ok x2
        generalize onF s u (X 1) ck r1.2.1 = r2 at x2 y2 v2 q ⊢
        have F2 := F1.tr f2
        have X2 := hX.cf hW F2
        have g2 := v2.1.1
        simp (disch := omega) only [GA, GR, GRc, GO, GI, GL, GV, am_w_i, am_ga, am_it, am_if, true_and, and_true, or_true, true_or, ne_eq, not_false_eq_true, not_true_eq_false, false_imp_iff, true_imp_iff, Int.reduceEq, Int.reduceLT, Int.reduceLE, Int.reduceAdd, Int.reduceSub, Int.reduceMul, Int.reduceNeg]
        rw [B36_47]
        simp (disch := omega) only [KP, HW hW, g2, e0 I2 X2, GA, GR, GRc, GO, GI, GL, GV, am_w_i, am_ga, am_it, am_if, true_and, and_true, or_true, true_or, ne_eq, not_false_eq_true, not_true_eq_false, false_imp_iff, true_imp_iff, Int.reduceEq, Int.reduceLT, Int.reduceLE, Int.reduceAdd, Int.reduceSub, Int.reduceMul, Int.reduceNeg]
        refine s32 (k := r2.2.1) (hT.cf F2) hu.2.2.1 hu.1 y2 v2.2 hK ⟨fun I3 f3 x3 y3 => ?_, fun I3 f3 x3 y3 z3 => ?_⟩
        · skip
          have v3 := sgF_v hu v2.2 x3
          have q := q.ok x3
          generalize sgF s u r2.2.1 99 = r3 at x3 y3 v3 q ⊢
          have F3 := F2.tr f3
          have X3 := hX.cf hW F3
          have g3 : ¬ r3.2.2 = -2147483648 := by omega
          have XE := (X3.u (a := 4) (j := 2 * r2.2.2 + r1.2.2) (v := r3.2.2) hW (by omega) (by omega)).p (i := 5) (j := 5) (v := X 0 5 + 1) hW (Or.inl ⟨rfl, rfl⟩)
          have WE : CW w I (am_up (am_up I3 (w.2.2.1 + 4) (2 * r2.2.2 + r1.2.2) r3.2.2) 44 5 (X 0 5 + 1)) := (((CW.cs F3).up (by omega)).up (by omega))
          have atE : (am_up (am_up I3 (w.2.2.1 + 4) (2 * r2.2.2 + r1.2.2) r3.2.2) 44 5 (X 0 5 + 1)) 44 3 = (r3.2.1 : Int) := by
            rw [am_up_n _ _ _ _ (by decide), am_up_a _ _ _ _ (by omega)]; exact y3
          have q := (q.tr WE).gi
          simp (disch := omega) only [GA, GR, GRc, GO, GI, GL, GV, am_w_i, am_ga, am_it, am_if, true_and, and_true, or_true, true_or, ne_eq, not_false_eq_true, not_true_eq_false, false_imp_iff, true_imp_iff, Int.reduceEq, Int.reduceLT, Int.reduceLE, Int.reduceAdd, Int.reduceSub, Int.reduceMul, Int.reduceNeg]
          rw [B36_63]
          simp (disch := omega) only [KP, HW hW, g3, B36_86, am_up_a, am_x2, e0 I3 X3, GA, GR, GRc, GO, GI, GL, GV, am_w_i, am_ga, am_it, am_if, true_and, and_true, or_true, true_or, ne_eq, not_false_eq_true, not_true_eq_false, false_imp_iff, true_imp_iff, Int.reduceEq, Int.reduceLT, Int.reduceLE, Int.reduceAdd, Int.reduceSub, Int.reduceMul, Int.reduceNeg]
          rw [B36_96]
          simp (disch := omega) only [KP, GA, GR, GRc, GO, GI, GL, GV, am_w_i, am_ga, am_it, am_if, true_and, and_true, or_true, true_or, ne_eq, not_false_eq_true, not_true_eq_false, false_imp_iff, true_imp_iff, Int.reduceEq, Int.reduceLT, Int.reduceLE, Int.reduceAdd, Int.reduceSub, Int.reduceMul, Int.reduceNeg]
          exact c_end (hT.cw hW WE) hW XE atE v3.2 hK q
        · skip
          have z := q.bad x3 (CW.cf (F2.w.tr f3)) y3 z3
          clear q
          first | (simp (disch := omega) only [B36_47, B36_63, GA, GR, GRc, GO, GI, GL, GV, am_w_i, am_ga, am_it, am_if, true_and, and_true, or_true, true_or, ne_eq, not_false_eq_true, not_true_eq_false, false_imp_iff, true_imp_iff, Int.reduceEq, Int.reduceLT, Int.reduceLE, Int.reduceAdd, Int.reduceSub, Int.reduceMul, Int.reduceNeg]; exact z) | simp (disch := omega) only [B36_47, B36_63, z, GA, GR, GRc, GO, GI, GL, GV, am_w_i, am_ga, am_it, am_if, true_and, and_true, or_true, true_or, ne_eq, not_false_eq_true, not_true_eq_false, false_imp_iff, true_imp_iff, Int.reduceEq, Int.reduceLT, Int.reduceLE, Int.reduceAdd, Int.reduceSub, Int.reduceMul, Int.reduceNeg]
      · rw [n2] at x2 y2 z2
        have z := q.bad x2 (CW.cf (F1.w.tr f2)) y2 z2
        clear q
        first | (simp (disch := omega) only [B36_47, B36_63, GA, GR, GRc, GO, GI, GL, GV, am_w_i, am_ga, am_it, am_if, true_and, and_true, or_true, true_or, ne_eq, not_false_eq_true, not_true_eq_false, false_imp_iff, true_imp_iff, Int.reduceEq, Int.reduceLT, Int.reduceLE, Int.reduceAdd, Int.reduceSub, Int.reduceMul, Int.reduceNeg]; exact z) | simp (disch := omega) only [B36_47, B36_63, z, GA, GR, GRc, GO, GI, GL, GV, am_w_i, am_ga, am_it, am_if, true_and, and_true, or_true, true_or, ne_eq, not_false_eq_true, not_true_eq_false, false_imp_iff, true_imp_iff, Int.reduceEq, Int.reduceLT, Int.reduceLE, Int.reduceAdd, Int.reduceSub, Int.reduceMul, Int.reduceNeg]
    · skip
      have z := q.bad x1 (CW.cf (F0.w.tr f1)) y1 z1
      clear q
      first | (simp (disch := omega) only [B36_47, B36_63, GA, GR, GRc, GO, GI, GL, GV, am_w_i, am_ga, am_it, am_if, true_and, and_true, or_true, true_or, ne_eq, not_false_eq_true, not_true_eq_false, false_imp_iff, true_imp_iff, Int.reduceEq, Int.reduceLT, Int.reduceLE, Int.reduceAdd, Int.reduceSub, Int.reduceMul, Int.reduceNeg]; exact z) | simp (disch := omega) only [B36_47, B36_63, z, GA, GR, GRc, GO, GI, GL, GV, am_w_i, am_ga, am_it, am_if, true_and, and_true, or_true, true_or, ne_eq, not_false_eq_true, not_true_eq_false, false_imp_iff, true_imp_iff, Int.reduceEq, Int.reduceLT, Int.reduceLE, Int.reduceAdd, Int.reduceSub, Int.reduceMul, Int.reduceNeg]
  · rw [if_neg y] at q
    have z := q.2 _ ((CW.rf.up (Or.inl rfl)).up (Or.inl rfl)) (by simp) (by rw [am_up_n _ _ _ _ (by decide), am_up_s]) (am_up_s _ _ _ _)
    clear q
    first | (simp (disch := omega) only [GA, GR, GRc, GO, GI, GL, GV, am_w_i, am_ga, am_it, am_if, true_and, and_true, or_true, true_or, ne_eq, not_false_eq_true, not_true_eq_false, false_imp_iff, true_imp_iff, Int.reduceEq, Int.reduceLT, Int.reduceLE, Int.reduceAdd, Int.reduceSub, Int.reduceMul, Int.reduceNeg]; exact z) | simp (disch := omega) only [z, GA, GR, GRc, GO, GI, GL, GV, am_w_i, am_ga, am_it, am_if, true_and, and_true, or_true, true_or, ne_eq, not_false_eq_true, not_true_eq_false, false_imp_iff, true_imp_iff, Int.reduceEq, Int.reduceLT, Int.reduceLE, Int.reduceAdd, Int.reduceSub, Int.reduceMul, Int.reduceNeg]
set_option maxHeartbeats 1000000 in
theorem s37 {d : Nat} {w : Nat × Nat × Nat × Nat} {I L : Nat → Int → Int} {s u pl : Nat → Int} {K k : Nat} {X : (Nat → Int → Int)} (hT : cT s u pl K I) (hu : TU s u K) (hW : isW w.2.2.1) (hX : PX w I X) (hb : (0 ≤ X 0 0 ∧ X 0 0 ≤ 6) ∧ (0 ≤ X 0 1 ∧ X 0 1 ≤ 8) ∧ (0 ≤ X 0 2 ∧ X 0 2 ≤ 12) ∧ (0 ≤ X 0 5 ∧ X 0 5 ≤ 12)) (h3 : I 44 3 = k) (hk : k < K) {Q : Option am_V → am_H → Prop} (q : LCo w I pl L (ddF s u X k) Q) : am_Sp (d + 4) 37 [vR (some 44)] (mkH w I L) Q := by
  have hl := isW_le hW
  have hK := hu.2.1
  obtain ⟨ck, hck⟩ : ∃ c : Nat, X 0 0 = c := ⟨(X 0 0).toNat, by omega⟩
  have eck : (X 0 0).toNat = ck := by omega
  obtain ⟨cd, hcd⟩ : ∃ c : Nat, X 0 1 = c := ⟨(X 0 1).toNat, by omega⟩
  have ecd : (X 0 1).toNat = cd := by omega
  obtain ⟨ct, hct⟩ : ∃ c : Nat, X 0 2 = c := ⟨(X 0 2).toNat, by omega⟩
  have ect : (X 0 2).toNat = ct := by omega
  have e0 : ∀ J, PX w J X → J w.2.2.1 0 = (ck : Int) ∧ J w.2.2.1 5 = (cd : Int) ∧ J w.2.2.1 11 = (ct : Int) ∧ J 44 5 = X 0 5 := fun J h => ⟨h.1.1.trans hck, h.1.2.1.trans hcd, h.1.2.2.1.trans hct, h.2.1.1⟩
  unfold ddF at q
  simp only [hck, hcd, hct, Int.toNat_natCast] at q
  rw [S37]
  simp (disch := omega) only [KP, HW hW, e0 I hX, GA, GR, GRc, GO, GI, GL, GV, am_w_i, am_ga, am_it, am_if, true_and, and_true, or_true, true_or, ne_eq, not_false_eq_true, not_true_eq_false, false_imp_iff, true_imp_iff, Int.reduceEq, Int.reduceLT, Int.reduceLE, Int.reduceAdd, Int.reduceSub, Int.reduceMul, Int.reduceNeg]
  refine s29 hT h3 (by omega) hK (fun y => ?_) (fun y => ?_)
  · rw [if_pos y] at q
    have F0 : CS I (am_up I 44 3 ((k : Int) + 1)) := CS.rf.up (by decide)
    have at0 : am_up I 44 3 ((k : Int) + 1) 44 3 = ((k + 1 : Nat) : Int) := by rw [am_up_s]; omega
    generalize am_up I 44 3 ((k : Int) + 1) = I0 at F0 at0 ⊢
    have X0 := hX.cf hW F0
    simp (disch := omega) only [KP, HW hW, e0 I0 X0, GA, GR, GRc, GO, GI, GL, GV, am_w_i, am_ga, am_it, am_if, true_and, and_true, or_true, true_or, ne_eq, not_false_eq_true, not_true_eq_false, false_imp_iff, true_imp_iff, Int.reduceEq, Int.reduceLT, Int.reduceLE, Int.reduceAdd, Int.reduceSub, Int.reduceMul, Int.reduceNeg]
    have n1 : I0 (w.2.2.1 + 5) = X 5 := X0.2.2.1 5 (by omega) (by omega)
    refine s33 (a := w.2.2.1 + 5) (c := cd) (k := (k + 1)) (ln := 8) (hT.cf F0) at0 hk hK (by omega) (fun J => by simp (disch := omega) only [HW hW, GA, GR, GRc, GO, GI, GL, GV, am_w_i, am_ga, am_it, am_if, true_and, and_true, or_true, true_or, ne_eq, not_false_eq_true, not_true_eq_false, false_imp_iff, true_imp_iff, Int.reduceEq, Int.reduceLT, Int.reduceLE, Int.reduceAdd, Int.reduceSub, Int.reduceMul, Int.reduceNeg]) (fun J => by simp (disch := omega) only [HW hW, GA, GR, GRc, GO, GI, GL, GV, am_w_i, am_ga, am_it, am_if, true_and, and_true, or_true, true_or, ne_eq, not_false_eq_true, not_true_eq_false, false_imp_iff, true_imp_iff, Int.reduceEq, Int.reduceLT, Int.reduceLE, Int.reduceAdd, Int.reduceSub, Int.reduceMul, Int.reduceNeg]; rfl) (by omega) (by omega) ⟨fun I1 f1 x1 y1 => ?_, fun I1 f1 x1 y1 z1 => ?_⟩
    · rw [n1] at x1 y1 ⊢
      have v1 := nnF_v hu hk x1
      have q := q.ok x1
      generalize nnF s u (X 5) cd (k + 1) = r1 at x1 y1 v1 q ⊢
      have F1 := F0.tr f1
      have X1 := hX.cf hW F1
      have g1 := v1.1
      simp (disch := omega) only [KP, HW hW, g1, e0 I1 X1, GA, GR, GRc, GO, GI, GL, GV, am_w_i, am_ga, am_it, am_if, true_and, and_true, or_true, true_or, ne_eq, not_false_eq_true, not_true_eq_false, false_imp_iff, true_imp_iff, Int.reduceEq, Int.reduceLT, Int.reduceLE, Int.reduceAdd, Int.reduceSub, Int.reduceMul, Int.reduceNeg]
      have n2 : I1 (w.2.2.1 + 1) = X 1 := X1.2.2.1 1 (by omega) (by omega)
      refine s34 (a := w.2.2.1 + 1) (c := ck) (k := r1.2.1) (ln := 6) (hT.cf F1) y1 v1.2 hK (by omega) (fun J => by simp (disch := omega) only [HW hW, GA, GR, GRc, GO, GI, GL, GV, am_w_i, am_ga, am_it, am_if, true_and, and_true, or_true, true_or, ne_eq, not_false_eq_true, not_true_eq_false, false_imp_iff, true_imp_iff, Int.reduceEq, Int.reduceLT, Int.reduceLE, Int.reduceAdd, Int.reduceSub, Int.reduceMul, Int.reduceNeg]) (fun J => by simp (disch := omega) only [HW hW, GA, GR, GRc, GO, GI, GL, GV, am_w_i, am_ga, am_it, am_if, true_and, and_true, or_true, true_or, ne_eq, not_false_eq_true, not_true_eq_false, false_imp_iff, true_imp_iff, Int.reduceEq, Int.reduceLT, Int.reduceLE, Int.reduceAdd, Int.reduceSub, Int.reduceMul, Int.reduceNeg]; rfl) (by omega) (by omega) ⟨fun I2 f2 x2 y2 => ?_, fun I2 f2 x2 y2 z2 => ?_⟩
      · rw [n2] at x2 y2 ⊢
        have v2 := onF_v hu v1.2 x2
        have q := q.ok x2
        generalize onF s u (X 1) ck r1.2.1 = r2 at x2 y2 v2 q ⊢
        have F2 := F1.tr f2
        have X2 := hX.cf hW F2
        have g2 := v2.1.1
        simp (disch := omega) only [GA, GR, GRc, GO, GI, GL, GV, am_w_i, am_ga, am_it, am_if, true_and, and_true, or_true, true_or, ne_eq, not_false_eq_true, not_true_eq_false, false_imp_iff, true_imp_iff, Int.reduceEq, Int.reduceLT, Int.reduceLE, Int.reduceAdd, Int.reduceSub, Int.reduceMul, Int.reduceNeg]
        rw [B37_59]
        simp (disch := omega) only [KP, HW hW, g2, e0 I2 X2, GA, GR, GRc, GO, GI, GL, GV, am_w_i, am_ga, am_it, am_if, true_and, and_true, or_true, true_or, ne_eq, not_false_eq_true, not_true_eq_false, false_imp_iff, true_imp_iff, Int.reduceEq, Int.reduceLT, Int.reduceLE, Int.reduceAdd, Int.reduceSub, Int.reduceMul, Int.reduceNeg]
        refine s32 (k := r2.2.1) (hT.cf F2) hu.2.2.1 hu.1 y2 v2.2 hK ⟨fun I3 f3 x3 y3 => ?_, fun I3 f3 x3 y3 z3 => ?_⟩
        · skip
          have v3 := sgF_v hu v2.2 x3
          have q := q.ok x3
          generalize sgF s u r2.2.1 9 = r3 at x3 y3 v3 q ⊢
          have F3 := F2.tr f3
          have X3 := hX.cf hW F3
          have g3 : ¬ r3.2.2 = -2147483648 := by omega
          simp (disch := omega) only [GA, GR, GRc, GO, GI, GL, GV, am_w_i, am_ga, am_it, am_if, true_and, and_true, or_true, true_or, ne_eq, not_false_eq_true, not_true_eq_false, false_imp_iff, true_imp_iff, Int.reduceEq, Int.reduceLT, Int.reduceLE, Int.reduceAdd, Int.reduceSub, Int.reduceMul, Int.reduceNeg]
          rw [B37_75]
          simp (disch := omega) only [KP, HW hW, g3, e0 I3 X3, GA, GR, GRc, GO, GI, GL, GV, am_w_i, am_ga, am_it, am_if, true_and, and_true, or_true, true_or, ne_eq, not_false_eq_true, not_true_eq_false, false_imp_iff, true_imp_iff, Int.reduceEq, Int.reduceLT, Int.reduceLE, Int.reduceAdd, Int.reduceSub, Int.reduceMul, Int.reduceNeg]
          refine s31 (k := r3.2.1) (hT.cf F3) y3 v3.2 hK (fun I4 f4 x4 y4 => ?_) (fun I4 f4 x4 y4 z4 => ?_)
          · skip
            have v4 := nmF_v hu v3.2 x4
            have q := q.ok x4
            generalize nmF s u r3.2.1 99 = r4 at x4 y4 v4 q ⊢
            have F4 := F3.tr f4
            have X4 := hX.cf hW F4
            have g4 := v4.1
            simp (disch := omega) only [GA, GR, GRc, GO, GI, GL, GV, am_w_i, am_ga, am_it, am_if, true_and, and_true, or_true, true_or, ne_eq, not_false_eq_true, not_true_eq_false, false_imp_iff, true_imp_iff, Int.reduceEq, Int.reduceLT, Int.reduceLE, Int.reduceAdd, Int.reduceSub, Int.reduceMul, Int.reduceNeg]
            rw [B37_94]
            simp (disch := omega) only [KP, HW hW, g4, e0 I4 X4, GA, GR, GRc, GO, GI, GL, GV, am_w_i, am_ga, am_it, am_if, true_and, and_true, or_true, true_or, ne_eq, not_false_eq_true, not_true_eq_false, false_imp_iff, true_imp_iff, Int.reduceEq, Int.reduceLT, Int.reduceLE, Int.reduceAdd, Int.reduceSub, Int.reduceMul, Int.reduceNeg]
            refine s31 (k := r4.2.1) (hT.cf F4) y4 v4.2.2 hK (fun I5 f5 x5 y5 => ?_) (fun I5 f5 x5 y5 z5 => ?_)
            · skip
              have v5 := nmF_v hu v4.2.2 x5
              have q := q.ok x5
              generalize nmF s u r4.2.1 100 = r5 at x5 y5 v5 q ⊢
              have F5 := F4.tr f5
              have X5 := hX.cf hW F5
              have g5 := v5.1
              have XE := ((((((X5.u (a := 5) (j := cd) (v := r1.2.2) hW (by omega) (by omega)).u (a := 6) (j := cd) (v := r2.2.2) hW (by omega) (by omega)).u (a := 7) (j := cd) (v := r3.2.2) hW (by omega) (by omega)).u (a := 8) (j := cd) (v := r4.2.2) hW (by omega) (by omega)).u (a := 9) (j := cd) (v := r5.2.2) hW (by omega) (by omega))).c (i := 5) (j := 1) (v := (cd : Int) + 1) hW (Or.inr (Or.inl ⟨rfl, rfl⟩))
              have WE : CW w I (am_up (am_up (am_up (am_up (am_up (am_up I5 (w.2.2.1 + 5) cd r1.2.2) (w.2.2.1 + 6) cd r2.2.2) (w.2.2.1 + 7) cd r3.2.2) (w.2.2.1 + 8) cd r4.2.2) (w.2.2.1 + 9) cd r5.2.2) w.2.2.1 5 ((cd : Int) + 1)) := (((((((CW.cs F5).up (by omega)).up (by omega)).up (by omega)).up (by omega)).up (by omega)).up (by omega))
              have atE : (am_up (am_up (am_up (am_up (am_up (am_up I5 (w.2.2.1 + 5) cd r1.2.2) (w.2.2.1 + 6) cd r2.2.2) (w.2.2.1 + 7) cd r3.2.2) (w.2.2.1 + 8) cd r4.2.2) (w.2.2.1 + 9) cd r5.2.2) w.2.2.1 5 ((cd : Int) + 1)) 44 3 = (r5.2.1 : Int) := by
                rw [am_up_a _ _ _ _ (by omega), am_up_a _ _ _ _ (by omega), am_up_a _ _ _ _ (by omega), am_up_a _ _ _ _ (by omega), am_up_a _ _ _ _ (by omega), am_up_a _ _ _ _ (by omega)]; exact y5
              have q := (q.tr WE).gi
              simp (disch := omega) only [GA, GR, GRc, GO, GI, GL, GV, am_w_i, am_ga, am_it, am_if, true_and, and_true, or_true, true_or, ne_eq, not_false_eq_true, not_true_eq_false, false_imp_iff, true_imp_iff, Int.reduceEq, Int.reduceLT, Int.reduceLE, Int.reduceAdd, Int.reduceSub, Int.reduceMul, Int.reduceNeg]
              rw [B37_111]
              simp (disch := omega) only [KP, HW hW, g5, B37_130, B37_140, B37_151, B37_162, B37_173, am_up_a, am_x2, e0 I5 X5, GA, GR, GRc, GO, GI, GL, GV, am_w_i, am_ga, am_it, am_if, true_and, and_true, or_true, true_or, ne_eq, not_false_eq_true, not_true_eq_false, false_imp_iff, true_imp_iff, Int.reduceEq, Int.reduceLT, Int.reduceLE, Int.reduceAdd, Int.reduceSub, Int.reduceMul, Int.reduceNeg]
              rw [B37_186]
              simp (disch := omega) only [KP, GA, GR, GRc, GO, GI, GL, GV, am_w_i, am_ga, am_it, am_if, true_and, and_true, or_true, true_or, ne_eq, not_false_eq_true, not_true_eq_false, false_imp_iff, true_imp_iff, Int.reduceEq, Int.reduceLT, Int.reduceLE, Int.reduceAdd, Int.reduceSub, Int.reduceMul, Int.reduceNeg]
              exact c_end (hT.cw hW WE) hW XE atE v5.2.2 hK q
            · skip
              have z := q.bad x5 (CW.cf (F4.w.tr f5)) y5 z5
              clear q
              first | (simp (disch := omega) only [B37_59, B37_75, B37_94, B37_111, GA, GR, GRc, GO, GI, GL, GV, am_w_i, am_ga, am_it, am_if, true_and, and_true, or_true, true_or, ne_eq, not_false_eq_true, not_true_eq_false, false_imp_iff, true_imp_iff, Int.reduceEq, Int.reduceLT, Int.reduceLE, Int.reduceAdd, Int.reduceSub, Int.reduceMul, Int.reduceNeg]; exact z) | simp (disch := omega) only [B37_59, B37_75, B37_94, B37_111, z, GA, GR, GRc, GO, GI, GL, GV, am_w_i, am_ga, am_it, am_if, true_and, and_true, or_true, true_or, ne_eq, not_false_eq_true, not_true_eq_false, false_imp_iff, true_imp_iff, Int.reduceEq, Int.reduceLT, Int.reduceLE, Int.reduceAdd, Int.reduceSub, Int.reduceMul, Int.reduceNeg]
          · skip
            have z := q.bad x4 (CW.cf (F3.w.tr f4)) y4 z4
            clear q
            first | (simp (disch := omega) only [B37_59, B37_75, B37_94, B37_111, GA, GR, GRc, GO, GI, GL, GV, am_w_i, am_ga, am_it, am_if, true_and, and_true, or_true, true_or, ne_eq, not_false_eq_true, not_true_eq_false, false_imp_iff, true_imp_iff, Int.reduceEq, Int.reduceLT, Int.reduceLE, Int.reduceAdd, Int.reduceSub, Int.reduceMul, Int.reduceNeg]; exact z) | simp (disch := omega) only [B37_59, B37_75, B37_94, B37_111, z, GA, GR, GRc, GO, GI, GL, GV, am_w_i, am_ga, am_it, am_if, true_and, and_true, or_true, true_or, ne_eq, not_false_eq_true, not_true_eq_false, false_imp_iff, true_imp_iff, Int.reduceEq, Int.reduceLT, Int.reduceLE, Int.reduceAdd, Int.reduceSub, Int.reduceMul, Int.reduceNeg]
        · skip
          have z := q.bad x3 (CW.cf (F2.w.tr f3)) y3 z3
          clear q
          first | (simp (disch := omega) only [B37_59, B37_75, B37_94, B37_111, GA, GR, GRc, GO, GI, GL, GV, am_w_i, am_ga, am_it, am_if, true_and, and_true, or_true, true_or, ne_eq, not_false_eq_true, not_true_eq_false, false_imp_iff, true_imp_iff, Int.reduceEq, Int.reduceLT, Int.reduceLE, Int.reduceAdd, Int.reduceSub, Int.reduceMul, Int.reduceNeg]; exact z) | simp (disch := omega) only [B37_59, B37_75, B37_94, B37_111, z, GA, GR, GRc, GO, GI, GL, GV, am_w_i, am_ga, am_it, am_if, true_and, and_true, or_true, true_or, ne_eq, not_false_eq_true, not_true_eq_false, false_imp_iff, true_imp_iff, Int.reduceEq, Int.reduceLT, Int.reduceLE, Int.reduceAdd, Int.reduceSub, Int.reduceMul, Int.reduceNeg]
      · rw [n2] at x2 y2 z2
        have z := q.bad x2 (CW.cf (F1.w.tr f2)) y2 z2
        clear q
        first | (simp (disch := omega) only [B37_59, B37_75, B37_94, B37_111, GA, GR, GRc, GO, GI, GL, GV, am_w_i, am_ga, am_it, am_if, true_and, and_true, or_true, true_or, ne_eq, not_false_eq_true, not_true_eq_false, false_imp_iff, true_imp_iff, Int.reduceEq, Int.reduceLT, Int.reduceLE, Int.reduceAdd, Int.reduceSub, Int.reduceMul, Int.reduceNeg]; exact z) | simp (disch := omega) only [B37_59, B37_75, B37_94, B37_111, z, GA, GR, GRc, GO, GI, GL, GV, am_w_i, am_ga, am_it, am_if, true_and, and_true, or_true, true_or, ne_eq, not_false_eq_true, not_true_eq_false, false_imp_iff, true_imp_iff, Int.reduceEq, Int.reduceLT, Int.reduceLE, Int.reduceAdd, Int.reduceSub, Int.reduceMul, Int.reduceNeg]
    · rw [n1] at x1 y1 z1
      have z := q.bad x1 (CW.cf (F0.w.tr f1)) y1 z1
      clear q
      first | (simp (disch := omega) only [B37_59, B37_75, B37_94, B37_111, GA, GR, GRc, GO, GI, GL, GV, am_w_i, am_ga, am_it, am_if, true_and, and_true, or_true, true_or, ne_eq, not_false_eq_true, not_true_eq_false, false_imp_iff, true_imp_iff, Int.reduceEq, Int.reduceLT, Int.reduceLE, Int.reduceAdd, Int.reduceSub, Int.reduceMul, Int.reduceNeg]; exact z) | simp (disch := omega) only [B37_59, B37_75, B37_94, B37_111, z, GA, GR, GRc, GO, GI, GL, GV, am_w_i, am_ga, am_it, am_if, true_and, and_true, or_true, true_or, ne_eq, not_false_eq_true, not_true_eq_false, false_imp_iff, true_imp_iff, Int.reduceEq, Int.reduceLT, Int.reduceLE, Int.reduceAdd, Int.reduceSub, Int.reduceMul, Int.reduceNeg]
  · rw [if_neg y] at q
    have z := q.2 _ ((CW.rf.up (Or.inl rfl)).up (Or.inl rfl)) (by simp) (by rw [am_up_n _ _ _ _ (by decide), am_up_s]) (am_up_s _ _ _ _)
    clear q
    first | (simp (disch := omega) only [GA, GR, GRc, GO, GI, GL, GV, am_w_i, am_ga, am_it, am_if, true_and, and_true, or_true, true_or, ne_eq, not_false_eq_true, not_true_eq_false, false_imp_iff, true_imp_iff, Int.reduceEq, Int.reduceLT, Int.reduceLE, Int.reduceAdd, Int.reduceSub, Int.reduceMul, Int.reduceNeg]; exact z) | simp (disch := omega) only [z, GA, GR, GRc, GO, GI, GL, GV, am_w_i, am_ga, am_it, am_if, true_and, and_true, or_true, true_or, ne_eq, not_false_eq_true, not_true_eq_false, false_imp_iff, true_imp_iff, Int.reduceEq, Int.reduceLT, Int.reduceLE, Int.reduceAdd, Int.reduceSub, Int.reduceMul, Int.reduceNeg]
set_option maxHeartbeats 1000000 in
theorem s38 {d : Nat} {w : Nat × Nat × Nat × Nat} {I L : Nat → Int → Int} {s u pl : Nat → Int} {K k : Nat} {X : (Nat → Int → Int)} (hT : cT s u pl K I) (hu : TU s u K) (hW : isW w.2.2.1) (hX : PX w I X) (hb : (0 ≤ X 0 0 ∧ X 0 0 ≤ 6) ∧ (0 ≤ X 0 1 ∧ X 0 1 ≤ 8) ∧ (0 ≤ X 0 2 ∧ X 0 2 ≤ 12) ∧ (0 ≤ X 0 5 ∧ X 0 5 ≤ 12)) (h3 : I 44 3 = k) (hk : k < K) {Q : Option am_V → am_H → Prop} (q : LCo w I pl L (doF s u X k) Q) : am_Sp (d + 4) 38 [vR (some 44)] (mkH w I L) Q := by
  have hl := isW_le hW
  have hK := hu.2.1
  obtain ⟨ck, hck⟩ : ∃ c : Nat, X 0 0 = c := ⟨(X 0 0).toNat, by omega⟩
  have eck : (X 0 0).toNat = ck := by omega
  obtain ⟨cd, hcd⟩ : ∃ c : Nat, X 0 1 = c := ⟨(X 0 1).toNat, by omega⟩
  have ecd : (X 0 1).toNat = cd := by omega
  obtain ⟨ct, hct⟩ : ∃ c : Nat, X 0 2 = c := ⟨(X 0 2).toNat, by omega⟩
  have ect : (X 0 2).toNat = ct := by omega
  have e0 : ∀ J, PX w J X → J w.2.2.1 0 = (ck : Int) ∧ J w.2.2.1 5 = (cd : Int) ∧ J w.2.2.1 11 = (ct : Int) ∧ J 44 5 = X 0 5 := fun J h => ⟨h.1.1.trans hck, h.1.2.1.trans hcd, h.1.2.2.1.trans hct, h.2.1.1⟩
  unfold doF at q
  simp only [hck, hcd, hct, Int.toNat_natCast] at q
  rw [S38]
  simp (disch := omega) only [KP, HW hW, e0 I hX, GA, GR, GRc, GO, GI, GL, GV, am_w_i, am_ga, am_it, am_if, true_and, and_true, or_true, true_or, ne_eq, not_false_eq_true, not_true_eq_false, false_imp_iff, true_imp_iff, Int.reduceEq, Int.reduceLT, Int.reduceLE, Int.reduceAdd, Int.reduceSub, Int.reduceMul, Int.reduceNeg]
  refine s29 hT h3 (by omega) hK (fun y => ?_) (fun y => ?_)
  · rw [if_pos y] at q
    have F0 : CS I (am_up I 44 3 ((k : Int) + 1)) := CS.rf.up (by decide)
    have at0 : am_up I 44 3 ((k : Int) + 1) 44 3 = ((k + 1 : Nat) : Int) := by rw [am_up_s]; omega
    generalize am_up I 44 3 ((k : Int) + 1) = I0 at F0 at0 ⊢
    have X0 := hX.cf hW F0
    simp (disch := omega) only [KP, HW hW, e0 I0 X0, GA, GR, GRc, GO, GI, GL, GV, am_w_i, am_ga, am_it, am_if, true_and, and_true, or_true, true_or, ne_eq, not_false_eq_true, not_true_eq_false, false_imp_iff, true_imp_iff, Int.reduceEq, Int.reduceLT, Int.reduceLE, Int.reduceAdd, Int.reduceSub, Int.reduceMul, Int.reduceNeg]
    refine s31 (k := (k + 1)) (hT.cf F0) at0 hk hK (fun I1 f1 x1 y1 => ?_) (fun I1 f1 x1 y1 z1 => ?_)
    · skip
      have v1 := nmF_v hu hk x1
      have q := q.ok x1
      generalize nmF s u (k + 1) 1 = r1 at x1 y1 v1 q ⊢
      have F1 := F0.tr f1
      have X1 := hX.cf hW F1
      have g1 := v1.1
      simp (disch := omega) only [KP, HW hW, g1, e0 I1 X1, GA, GR, GRc, GO, GI, GL, GV, am_w_i, am_ga, am_it, am_if, true_and, and_true, or_true, true_or, ne_eq, not_false_eq_true, not_true_eq_false, false_imp_iff, true_imp_iff, Int.reduceEq, Int.reduceLT, Int.reduceLE, Int.reduceAdd, Int.reduceSub, Int.reduceMul, Int.reduceNeg]
      have n2 : I1 (w.2.2.1 + 5) = X 5 := X1.2.2.1 5 (by omega) (by omega)
      refine s34 (a := w.2.2.1 + 5) (c := cd) (k := r1.2.1) (ln := 8) (hT.cf F1) y1 v1.2.2 hK (by omega) (fun J => by simp (disch := omega) only [HW hW, GA, GR, GRc, GO, GI, GL, GV, am_w_i, am_ga, am_it, am_if, true_and, and_true, or_true, true_or, ne_eq, not_false_eq_true, not_true_eq_false, false_imp_iff, true_imp_iff, Int.reduceEq, Int.reduceLT, Int.reduceLE, Int.reduceAdd, Int.reduceSub, Int.reduceMul, Int.reduceNeg]) (fun J => by simp (disch := omega) only [HW hW, GA, GR, GRc, GO, GI, GL, GV, am_w_i, am_ga, am_it, am_if, true_and, and_true, or_true, true_or, ne_eq, not_false_eq_true, not_true_eq_false, false_imp_iff, true_imp_iff, Int.reduceEq, Int.reduceLT, Int.reduceLE, Int.reduceAdd, Int.reduceSub, Int.reduceMul, Int.reduceNeg]; rfl) (by omega) (by omega) ⟨fun I2 f2 x2 y2 => ?_, fun I2 f2 x2 y2 z2 => ?_⟩
      · rw [n2] at x2 y2 ⊢
        have v2 := onF_v hu v1.2.2 x2
        have q := q.ok x2
        generalize onF s u (X 5) cd r1.2.1 = r2 at x2 y2 v2 q ⊢
        have F2 := F1.tr f2
        have X2 := hX.cf hW F2
        have g2 := v2.1.1
        simp (disch := omega) only [GA, GR, GRc, GO, GI, GL, GV, am_w_i, am_ga, am_it, am_if, true_and, and_true, or_true, true_or, ne_eq, not_false_eq_true, not_true_eq_false, false_imp_iff, true_imp_iff, Int.reduceEq, Int.reduceLT, Int.reduceLE, Int.reduceAdd, Int.reduceSub, Int.reduceMul, Int.reduceNeg]
        rw [B38_52]
        simp (disch := omega) only [KP, HW hW, g2, e0 I2 X2, GA, GR, GRc, GO, GI, GL, GV, am_w_i, am_ga, am_it, am_if, true_and, and_true, or_true, true_or, ne_eq, not_false_eq_true, not_true_eq_false, false_imp_iff, true_imp_iff, Int.reduceEq, Int.reduceLT, Int.reduceLE, Int.reduceAdd, Int.reduceSub, Int.reduceMul, Int.reduceNeg]
        refine s31 (k := r2.2.1) (hT.cf F2) y2 v2.2 hK (fun I3 f3 x3 y3 => ?_) (fun I3 f3 x3 y3 z3 => ?_)
        · skip
          have v3 := nmF_v hu v2.2 x3
          have q := q.ok x3
          generalize nmF s u r2.2.1 99 = r3 at x3 y3 v3 q ⊢
          have F3 := F2.tr f3
          have X3 := hX.cf hW F3
          have g3 := v3.1
          have XE := ((((X3.u (a := 10) (j := ct) (v := r1.2.2) hW (by omega) (by omega)).u (a := 11) (j := ct) (v := r2.2.2) hW (by omega) (by omega)).u (a := 12) (j := ct) (v := r3.2.2) hW (by omega) (by omega))).c (i := 11) (j := 2) (v := (ct : Int) + 1) hW (Or.inr (Or.inr (Or.inl ⟨rfl, rfl⟩)))
          have WE : CW w I (am_up (am_up (am_up (am_up I3 (w.2.2.1 + 10) ct r1.2.2) (w.2.2.1 + 11) ct r2.2.2) (w.2.2.1 + 12) ct r3.2.2) w.2.2.1 11 ((ct : Int) + 1)) := (((((CW.cs F3).up (by omega)).up (by omega)).up (by omega)).up (by omega))
          have atE : (am_up (am_up (am_up (am_up I3 (w.2.2.1 + 10) ct r1.2.2) (w.2.2.1 + 11) ct r2.2.2) (w.2.2.1 + 12) ct r3.2.2) w.2.2.1 11 ((ct : Int) + 1)) 44 3 = (r3.2.1 : Int) := by
            rw [am_up_a _ _ _ _ (by omega), am_up_a _ _ _ _ (by omega), am_up_a _ _ _ _ (by omega), am_up_a _ _ _ _ (by omega)]; exact y3
          have q := (q.tr WE).gi
          simp (disch := omega) only [GA, GR, GRc, GO, GI, GL, GV, am_w_i, am_ga, am_it, am_if, true_and, and_true, or_true, true_or, ne_eq, not_false_eq_true, not_true_eq_false, false_imp_iff, true_imp_iff, Int.reduceEq, Int.reduceLT, Int.reduceLE, Int.reduceAdd, Int.reduceSub, Int.reduceMul, Int.reduceNeg]
          rw [B38_67]
          simp (disch := omega) only [KP, HW hW, g3, B38_86, B38_96, B38_107, am_up_a, am_x2, e0 I3 X3, GA, GR, GRc, GO, GI, GL, GV, am_w_i, am_ga, am_it, am_if, true_and, and_true, or_true, true_or, ne_eq, not_false_eq_true, not_true_eq_false, false_imp_iff, true_imp_iff, Int.reduceEq, Int.reduceLT, Int.reduceLE, Int.reduceAdd, Int.reduceSub, Int.reduceMul, Int.reduceNeg]
          rw [B38_120]
          simp (disch := omega) only [KP, GA, GR, GRc, GO, GI, GL, GV, am_w_i, am_ga, am_it, am_if, true_and, and_true, or_true, true_or, ne_eq, not_false_eq_true, not_true_eq_false, false_imp_iff, true_imp_iff, Int.reduceEq, Int.reduceLT, Int.reduceLE, Int.reduceAdd, Int.reduceSub, Int.reduceMul, Int.reduceNeg]
          exact c_end (hT.cw hW WE) hW XE atE v3.2.2 hK q
        · skip
          have z := q.bad x3 (CW.cf (F2.w.tr f3)) y3 z3
          clear q
          first | (simp (disch := omega) only [B38_52, B38_67, GA, GR, GRc, GO, GI, GL, GV, am_w_i, am_ga, am_it, am_if, true_and, and_true, or_true, true_or, ne_eq, not_false_eq_true, not_true_eq_false, false_imp_iff, true_imp_iff, Int.reduceEq, Int.reduceLT, Int.reduceLE, Int.reduceAdd, Int.reduceSub, Int.reduceMul, Int.reduceNeg]; exact z) | simp (disch := omega) only [B38_52, B38_67, z, GA, GR, GRc, GO, GI, GL, GV, am_w_i, am_ga, am_it, am_if, true_and, and_true, or_true, true_or, ne_eq, not_false_eq_true, not_true_eq_false, false_imp_iff, true_imp_iff, Int.reduceEq, Int.reduceLT, Int.reduceLE, Int.reduceAdd, Int.reduceSub, Int.reduceMul, Int.reduceNeg]
      · rw [n2] at x2 y2 z2
        have z := q.bad x2 (CW.cf (F1.w.tr f2)) y2 z2
        clear q
        first | (simp (disch := omega) only [B38_52, B38_67, GA, GR, GRc, GO, GI, GL, GV, am_w_i, am_ga, am_it, am_if, true_and, and_true, or_true, true_or, ne_eq, not_false_eq_true, not_true_eq_false, false_imp_iff, true_imp_iff, Int.reduceEq, Int.reduceLT, Int.reduceLE, Int.reduceAdd, Int.reduceSub, Int.reduceMul, Int.reduceNeg]; exact z) | simp (disch := omega) only [B38_52, B38_67, z, GA, GR, GRc, GO, GI, GL, GV, am_w_i, am_ga, am_it, am_if, true_and, and_true, or_true, true_or, ne_eq, not_false_eq_true, not_true_eq_false, false_imp_iff, true_imp_iff, Int.reduceEq, Int.reduceLT, Int.reduceLE, Int.reduceAdd, Int.reduceSub, Int.reduceMul, Int.reduceNeg]
    · skip
      have z := q.bad x1 (CW.cf (F0.w.tr f1)) y1 z1
      clear q
      first | (simp (disch := omega) only [B38_52, B38_67, GA, GR, GRc, GO, GI, GL, GV, am_w_i, am_ga, am_it, am_if, true_and, and_true, or_true, true_or, ne_eq, not_false_eq_true, not_true_eq_false, false_imp_iff, true_imp_iff, Int.reduceEq, Int.reduceLT, Int.reduceLE, Int.reduceAdd, Int.reduceSub, Int.reduceMul, Int.reduceNeg]; exact z) | simp (disch := omega) only [B38_52, B38_67, z, GA, GR, GRc, GO, GI, GL, GV, am_w_i, am_ga, am_it, am_if, true_and, and_true, or_true, true_or, ne_eq, not_false_eq_true, not_true_eq_false, false_imp_iff, true_imp_iff, Int.reduceEq, Int.reduceLT, Int.reduceLE, Int.reduceAdd, Int.reduceSub, Int.reduceMul, Int.reduceNeg]
  · rw [if_neg y] at q
    have z := q.2 _ ((CW.rf.up (Or.inl rfl)).up (Or.inl rfl)) (by simp) (by rw [am_up_n _ _ _ _ (by decide), am_up_s]) (am_up_s _ _ _ _)
    clear q
    first | (simp (disch := omega) only [GA, GR, GRc, GO, GI, GL, GV, am_w_i, am_ga, am_it, am_if, true_and, and_true, or_true, true_or, ne_eq, not_false_eq_true, not_true_eq_false, false_imp_iff, true_imp_iff, Int.reduceEq, Int.reduceLT, Int.reduceLE, Int.reduceAdd, Int.reduceSub, Int.reduceMul, Int.reduceNeg]; exact z) | simp (disch := omega) only [z, GA, GR, GRc, GO, GI, GL, GV, am_w_i, am_ga, am_it, am_if, true_and, and_true, or_true, true_or, ne_eq, not_false_eq_true, not_true_eq_false, false_imp_iff, true_imp_iff, Int.reduceEq, Int.reduceLT, Int.reduceLE, Int.reduceAdd, Int.reduceSub, Int.reduceMul, Int.reduceNeg]
