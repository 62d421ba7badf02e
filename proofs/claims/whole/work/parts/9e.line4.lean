/-! 9e: purse, wage, seed (class) -/
theorem s40 {d : Nat} {w : Nat × Nat × Nat × Nat} {I L : Nat → Int → Int} {b : Int} (Q : Option am_V → am_H → Prop) : am_Sp d 40 [vR (some 44), vI b] (mkH w I L) Q ↔ Q (some (vI (if bit1 (I 44 6) b = 0 then 1 else 0))) (mkH w (am_up I 44 6 (bitO (I 44 6) b)) L) := by
  rw [S40]
  have e : am_and (am_shr (I 44 6) b) 1 = bit1 (I 44 6) b := rfl
  have e2 : am_or (I 44 6) (am_shl 1 b) = bitO (I 44 6) b := rfl
  by_cases c : bit1 (I 44 6) b = 0
  · simp (disch := omega) only [KP, e, e2, c, B40_16, B40_29, if_true, GA, GR, GRc, GO, GI, GL, GV, am_w_i, am_ga, am_it, am_if, true_and, and_true, or_true, true_or, ne_eq, not_false_eq_true, not_true_eq_false, false_imp_iff, true_imp_iff, Int.reduceEq, Int.reduceLT, Int.reduceLE, Int.reduceAdd, Int.reduceSub, Int.reduceMul, Int.reduceNeg]
  · simp (disch := omega) only [KP, e, e2, c, B40_16, B40_29, if_false, GA, GR, GRc, GO, GI, GL, GV, am_w_i, am_ga, am_it, am_if, true_and, and_true, or_true, true_or, ne_eq, not_false_eq_true, not_true_eq_false, false_imp_iff, true_imp_iff, Int.reduceEq, Int.reduceLT, Int.reduceLE, Int.reduceAdd, Int.reduceSub, Int.reduceMul, Int.reduceNeg]
set_option maxHeartbeats 1000000 in
theorem s41 {d : Nat} {w : Nat × Nat × Nat × Nat} {I L : Nat → Int → Int} {s u pl : Nat → Int} {K k : Nat} {X : (Nat → Int → Int)} (hT : cT s u pl K I) (hu : TU s u K) (hW : isW w.2.2.1) (hX : PX w I X) (h3 : I 44 3 = k) (hk : k < K) {Q : Option am_V → am_H → Prop} (q : LCo w I pl L (sdF s u X k) Q) : am_Sp (d + 4) 41 [vR (some 44)] (mkH w I L) Q := by
  have hl := isW_le hW
  have hK := hu.2.1
  have e6 : I 44 6 = X 0 7 := hX.2.1.2
  have XA := hX.p (i := 6) (j := 7) (v := bitO (X 0 7) 4) hW (Or.inr ⟨rfl, rfl⟩)
  have WA : CW w I (am_up I 44 6 (bitO (X 0 7) 4)) := CW.rf.up (Or.inl rfl)
  have a3 : am_up I 44 6 (bitO (X 0 7) 4) 44 3 = (k : Int) := by rw [am_up_n _ _ _ _ (by decide)]; exact h3
  unfold sdF at q
  rw [S41]
  by_cases c : bit1 (X 0 7) 4 = 0
  · rw [if_pos c] at q
    simp (disch := omega) only [KP, s40, e6, c, if_true, a3, GA, GR, GRc, GO, GI, GL, GV, am_w_i, am_ga, am_it, am_if, true_and, and_true, or_true, true_or, ne_eq, not_false_eq_true, not_true_eq_false, false_imp_iff, true_imp_iff, Int.reduceEq, Int.reduceLT, Int.reduceLE, Int.reduceAdd, Int.reduceSub, Int.reduceMul, Int.reduceNeg]
    generalize am_up I 44 6 (bitO (X 0 7) 4) = IA at XA WA a3 ⊢
    have F0 : CS IA (am_up IA 44 3 ((k : Int) + 1)) := CS.rf.up (by decide)
    have at0 : am_up IA 44 3 ((k : Int) + 1) 44 3 = ((k + 1 : Nat) : Int) := by rw [am_up_s]; omega
    generalize am_up IA 44 3 ((k : Int) + 1) = I0 at F0 at0 ⊢
    have hTA := hT.cw hW WA
    have q := q.tr WA
    rw [B41_28]
    simp (disch := omega) only [KP, GA, GR, GRc, GO, GI, GL, GV, am_w_i, am_ga, am_it, am_if, true_and, and_true, or_true, true_or, ne_eq, not_false_eq_true, not_true_eq_false, false_imp_iff, true_imp_iff, Int.reduceEq, Int.reduceLT, Int.reduceLE, Int.reduceAdd, Int.reduceSub, Int.reduceMul, Int.reduceNeg]
    refine s31 (k := k + 1) (hTA.cf F0) at0 hk hK (fun I1 f1 x1 y1 => ?_) (fun I1 f1 x1 y1 z1 => ?_)
    · have v1 := nmF_v hu hk x1
      have q := q.ok x1
      generalize nmF s u (k + 1) 99999 = r1 at x1 y1 v1 q ⊢
      have g1 := v1.1
      have F1 := F0.tr f1
      have XE := (XA.cf hW F1).c (i := 17) (j := 3) (v := r1.2.2) hW (Or.inr (Or.inr (Or.inr ⟨rfl, rfl⟩)))
      have WE : CW w IA (am_up I1 w.2.2.1 17 r1.2.2) := (CW.cs F1).up (by omega)
      have atE : am_up I1 w.2.2.1 17 r1.2.2 44 3 = (r1.2.1 : Int) := by rw [am_up_a _ _ _ _ (by omega)]; exact y1
      have q := (q.tr WE).gi
      simp (disch := omega) only [KP, HW hW, g1, GA, GR, GRc, GO, GI, GL, GV, am_w_i, am_ga, am_it, am_if, true_and, and_true, or_true, true_or, ne_eq, not_false_eq_true, not_true_eq_false, false_imp_iff, true_imp_iff, Int.reduceEq, Int.reduceLT, Int.reduceLE, Int.reduceAdd, Int.reduceSub, Int.reduceMul, Int.reduceNeg]
      rw [B41_49]
      simp (disch := omega) only [KP, GA, GR, GRc, GO, GI, GL, GV, am_w_i, am_ga, am_it, am_if, true_and, and_true, or_true, true_or, ne_eq, not_false_eq_true, not_true_eq_false, false_imp_iff, true_imp_iff, Int.reduceEq, Int.reduceLT, Int.reduceLE, Int.reduceAdd, Int.reduceSub, Int.reduceMul, Int.reduceNeg]
      exact c_end (hTA.cw hW WE) hW XE atE v1.2.2 hK q
    · have z := q.bad x1 (CW.cf (F0.w.tr f1)) y1 z1
      clear q
      first | (simp (disch := omega) only [GA, GR, GRc, GO, GI, GL, GV, am_w_i, am_ga, am_it, am_if, true_and, and_true, or_true, true_or, ne_eq, not_false_eq_true, not_true_eq_false, false_imp_iff, true_imp_iff, Int.reduceEq, Int.reduceLT, Int.reduceLE, Int.reduceAdd, Int.reduceSub, Int.reduceMul, Int.reduceNeg]; exact z) | simp (disch := omega) only [z, GA, GR, GRc, GO, GI, GL, GV, am_w_i, am_ga, am_it, am_if, true_and, and_true, or_true, true_or, ne_eq, not_false_eq_true, not_true_eq_false, false_imp_iff, true_imp_iff, Int.reduceEq, Int.reduceLT, Int.reduceLE, Int.reduceAdd, Int.reduceSub, Int.reduceMul, Int.reduceNeg]
  · rw [if_neg c] at q
    have hTA := hT.cw hW WA
    have z := q.2 _ ((WA.up (a := 44) (i := 0) (v := 3) (Or.inl rfl)).up (a := 44) (i := 1) (v := pl k) (Or.inl rfl)) (by simp) (by rw [am_up_n _ _ _ _ (by decide), am_up_s]) (am_up_s _ _ _ _)
    clear q
    first | (simp (disch := omega) only [KP, s40, e6, c, if_false, a3, s27 hTA (show k ≤ K by omega) hK, GA, GR, GRc, GO, GI, GL, GV, am_w_i, am_ga, am_it, am_if, true_and, and_true, or_true, true_or, ne_eq, not_false_eq_true, not_true_eq_false, false_imp_iff, true_imp_iff, Int.reduceEq, Int.reduceLT, Int.reduceLE, Int.reduceAdd, Int.reduceSub, Int.reduceMul, Int.reduceNeg]; exact z) | simp (disch := omega) only [KP, s40, e6, c, if_false, a3, s27 hTA (show k ≤ K by omega) hK, z, GA, GR, GRc, GO, GI, GL, GV, am_w_i, am_ga, am_it, am_if, true_and, and_true, or_true, true_or, ne_eq, not_false_eq_true, not_true_eq_false, false_imp_iff, true_imp_iff, Int.reduceEq, Int.reduceLT, Int.reduceLE, Int.reduceAdd, Int.reduceSub, Int.reduceMul, Int.reduceNeg]
set_option maxHeartbeats 1000000 in
theorem s39 {d : Nat} {w : Nat × Nat × Nat × Nat} {I L : Nat → Int → Int} {s u pl : Nat → Int} {K k a : Nat} {fb most : Int} {X : (Nat → Int → Int)} (hT : cT s u pl K I) (hu : TU s u K) (hW : isW w.2.2.1) (hX : PX w I X) (ha : a = 13 ∨ a = 14) (hfb : 0 ≤ fb ∧ fb ≤ 2) (h3 : I 44 3 = k) (hk : k < K) {Q : Option am_V → am_H → Prop} (q : LCo w I pl L (prF s u a fb most X k) Q) : am_Sp (d + 4) 39 [vR (some 44), vR (some (w.2.2.1 + a)), vI fb, vI most] (mkH w I L) Q := by
  have hl := isW_le hW
  have hK := hu.2.1
  have hka : ∀ J, am_kd (mkH w J L) (w.2.2.1 + a) = 13 := fun J => by rcases ha with rfl | rfl <;> simp (disch := omega) only [HW hW, GA, GR, GRc, GO, GI, GL, GV, am_w_i, am_ga, am_it, am_if, true_and, and_true, or_true, true_or, ne_eq, not_false_eq_true, not_true_eq_false, false_imp_iff, true_imp_iff, Int.reduceEq, Int.reduceLT, Int.reduceLE, Int.reduceAdd, Int.reduceSub, Int.reduceMul, Int.reduceNeg]
  have hla : ∀ J, am_ln (mkH w J L) (w.2.2.1 + a) = 2 := fun J => by rcases ha with rfl | rfl <;> simp (disch := omega) only [HW hW, GA, GR, GRc, GO, GI, GL, GV, am_w_i, am_ga, am_it, am_if, true_and, and_true, or_true, true_or, ne_eq, not_false_eq_true, not_true_eq_false, false_imp_iff, true_imp_iff, Int.reduceEq, Int.reduceLT, Int.reduceLE, Int.reduceAdd, Int.reduceSub, Int.reduceMul, Int.reduceNeg]
  unfold prF at q
  rw [S39]
  simp (disch := omega) only [KP, h3, GA, GR, GRc, GO, GI, GL, GV, am_w_i, am_ga, am_it, am_if, true_and, and_true, or_true, true_or, ne_eq, not_false_eq_true, not_true_eq_false, false_imp_iff, true_imp_iff, Int.reduceEq, Int.reduceLT, Int.reduceLE, Int.reduceAdd, Int.reduceSub, Int.reduceMul, Int.reduceNeg]
  have F0 : CS I (am_up I 44 3 ((k : Int) + 1)) := CS.rf.up (by decide)
  have at0 : am_up I 44 3 ((k : Int) + 1) 44 3 = ((k + 1 : Nat) : Int) := by rw [am_up_s]; omega
  generalize am_up I 44 3 ((k : Int) + 1) = I0 at F0 at0 ⊢
  rw [B39_10]
  simp (disch := omega) only [KP, GA, GR, GRc, GO, GI, GL, GV, am_w_i, am_ga, am_it, am_if, true_and, and_true, or_true, true_or, ne_eq, not_false_eq_true, not_true_eq_false, false_imp_iff, true_imp_iff, Int.reduceEq, Int.reduceLT, Int.reduceLE, Int.reduceAdd, Int.reduceSub, Int.reduceMul, Int.reduceNeg]
  refine s31 (k := k + 1) (hT.cf F0) at0 hk hK (fun I1 f1 x1 y1 => ?_) (fun I1 f1 x1 y1 z1 => ?_)
  · have v1 := nmF_v hu hk x1
    have b1 := (nmF_b x1).2.1
    have q := q.ok x1
    generalize nmF s u (k + 1) 1 = r1 at x1 y1 v1 q b1 ⊢
    have g1 := v1.1
    have F1 := F0.tr f1
    have X1 := hX.cf hW F1
    have e6 : I1 44 6 = X 0 7 := X1.2.1.2
    have XA := X1.p (i := 6) (j := 7) (v := bitO (X 0 7) (fb + r1.2.2)) hW (Or.inr ⟨rfl, rfl⟩)
    have WA : CW w I (am_up I1 44 6 (bitO (X 0 7) (fb + r1.2.2))) := (CW.cs F1).up (Or.inl rfl)
    have aA : am_up I1 44 6 (bitO (X 0 7) (fb + r1.2.2)) 44 3 = (r1.2.1 : Int) := by rw [am_up_n _ _ _ _ (by decide)]; exact y1
    have hTA := hT.cw hW WA
    by_cases c : bit1 (X 0 7) (fb + r1.2.2) = 0
    · rw [if_pos c] at q
      simp (disch := omega) only [KP, g1, s40, e6, c, if_true, GA, GR, GRc, GO, GI, GL, GV, am_w_i, am_ga, am_it, am_if, true_and, and_true, or_true, true_or, ne_eq, not_false_eq_true, not_true_eq_false, false_imp_iff, true_imp_iff, Int.reduceEq, Int.reduceLT, Int.reduceLE, Int.reduceAdd, Int.reduceSub, Int.reduceMul, Int.reduceNeg]
      generalize am_up I1 44 6 (bitO (X 0 7) (fb + r1.2.2)) = IA at XA WA aA hTA ⊢
      have q := q.tr WA
      refine s31 (k := r1.2.1) hTA aA v1.2.2 hK (fun I2 f2 x2 y2 => ?_) (fun I2 f2 x2 y2 z2 => ?_)
      · have v2 := nmF_v hu v1.2.2 x2
        have q := q.ok x2
        generalize nmF s u r1.2.1 most = r2 at x2 y2 v2 q ⊢
        have g2 := v2.1
        have XE := (XA.cf hW f2).u (a := a) (j := r1.2.2) (v := r2.2.2) hW (by omega) (by omega)
        have WE : CW w IA (am_up I2 (w.2.2.1 + a) r1.2.2 r2.2.2) := (CW.cs f2).up (by omega)
        have atE : am_up I2 (w.2.2.1 + a) r1.2.2 r2.2.2 44 3 = (r2.2.1 : Int) := by rw [am_up_a _ _ _ _ (by omega)]; exact y2
        have q := (q.tr WE).gi
        simp (disch := omega) only [KP, g2, hka, hla, GA, GR, GRc, GO, GI, GL, GV, am_w_i, am_ga, am_it, am_if, true_and, and_true, or_true, true_or, ne_eq, not_false_eq_true, not_true_eq_false, false_imp_iff, true_imp_iff, Int.reduceEq, Int.reduceLT, Int.reduceLE, Int.reduceAdd, Int.reduceSub, Int.reduceMul, Int.reduceNeg]
        rw [B39_67]
        simp (disch := omega) only [KP, GA, GR, GRc, GO, GI, GL, GV, am_w_i, am_ga, am_it, am_if, true_and, and_true, or_true, true_or, ne_eq, not_false_eq_true, not_true_eq_false, false_imp_iff, true_imp_iff, Int.reduceEq, Int.reduceLT, Int.reduceLE, Int.reduceAdd, Int.reduceSub, Int.reduceMul, Int.reduceNeg]
        exact c_end (hTA.cw hW WE) hW XE atE v2.2.2 hK q
      · have z := q.bad x2 (CW.cf f2) y2 z2
        clear q
        first | (simp (disch := omega) only [GA, GR, GRc, GO, GI, GL, GV, am_w_i, am_ga, am_it, am_if, true_and, and_true, or_true, true_or, ne_eq, not_false_eq_true, not_true_eq_false, false_imp_iff, true_imp_iff, Int.reduceEq, Int.reduceLT, Int.reduceLE, Int.reduceAdd, Int.reduceSub, Int.reduceMul, Int.reduceNeg]; exact z) | simp (disch := omega) only [z, GA, GR, GRc, GO, GI, GL, GV, am_w_i, am_ga, am_it, am_if, true_and, and_true, or_true, true_or, ne_eq, not_false_eq_true, not_true_eq_false, false_imp_iff, true_imp_iff, Int.reduceEq, Int.reduceLT, Int.reduceLE, Int.reduceAdd, Int.reduceSub, Int.reduceMul, Int.reduceNeg]
    · rw [if_neg c] at q
      have ek : (r1.2.1 : Int) - 1 = ((r1.2.1 - 1 : Nat) : Int) := by omega
      have z := q.2 _ ((WA.up (a := 44) (i := 0) (v := 3) (Or.inl rfl)).up (a := 44) (i := 1) (v := pl (r1.2.1 - 1)) (Or.inl rfl)) (by simp) (by rw [am_up_n _ _ _ _ (by decide), am_up_s]) (am_up_s _ _ _ _)
      clear q
      first | (simp (disch := omega) only [KP, g1, s40, e6, c, if_false, aA, ek, s27 hTA (show r1.2.1 - 1 ≤ K by omega) hK, GA, GR, GRc, GO, GI, GL, GV, am_w_i, am_ga, am_it, am_if, true_and, and_true, or_true, true_or, ne_eq, not_false_eq_true, not_true_eq_false, false_imp_iff, true_imp_iff, Int.reduceEq, Int.reduceLT, Int.reduceLE, Int.reduceAdd, Int.reduceSub, Int.reduceMul, Int.reduceNeg]; exact z) | simp (disch := omega) only [KP, g1, s40, e6, c, if_false, aA, ek, s27 hTA (show r1.2.1 - 1 ≤ K by omega) hK, z, GA, GR, GRc, GO, GI, GL, GV, am_w_i, am_ga, am_it, am_if, true_and, and_true, or_true, true_or, ne_eq, not_false_eq_true, not_true_eq_false, false_imp_iff, true_imp_iff, Int.reduceEq, Int.reduceLT, Int.reduceLE, Int.reduceAdd, Int.reduceSub, Int.reduceMul, Int.reduceNeg]
  · have z := q.bad x1 (CW.cf (F0.w.tr f1)) y1 z1
    clear q
    first | (simp (disch := omega) only [GA, GR, GRc, GO, GI, GL, GV, am_w_i, am_ga, am_it, am_if, true_and, and_true, or_true, true_or, ne_eq, not_false_eq_true, not_true_eq_false, false_imp_iff, true_imp_iff, Int.reduceEq, Int.reduceLT, Int.reduceLE, Int.reduceAdd, Int.reduceSub, Int.reduceMul, Int.reduceNeg]; exact z) | simp (disch := omega) only [z, GA, GR, GRc, GO, GI, GL, GV, am_w_i, am_ga, am_it, am_if, true_and, and_true, or_true, true_or, ne_eq, not_false_eq_true, not_true_eq_false, false_imp_iff, true_imp_iff, Int.reduceEq, Int.reduceLT, Int.reduceLE, Int.reduceAdd, Int.reduceSub, Int.reduceMul, Int.reduceNeg]
