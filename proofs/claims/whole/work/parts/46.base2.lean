/-! 46: what calls that only ask may change; pairs of answers; the first words of calls -/
def QF (I I' : (Nat → Int → Int)) : Prop := (∀ a, a ≠ 99 → ¬ (55 ≤ a ∧ a ≤ 58 ∨ a = 63 ∨ 88 ≤ a ∧ a ≤ 89 ∨ a = 98 ∨ 127 ≤ a ∧ a ≤ 133 ∨ a = 135) → I' a = I a) ∧ (∀ j, j ≠ 2 → j ≠ 53 → (j < 60 ∨ 68 ≤ j) → I' 99 j = I 99 j) ∧ FB I I'
def QL (L L' : (Nat → Int → Int)) : Prop := (∀ a, a ≠ 21 → a ≠ 22 → a ≠ 42 → a ≠ 43 → a ≠ 125 → a ≠ 126 → a ≠ 99 → L' a = L a) ∧ L' 99 59 = L 99 59 ∧ L' 99 79 = L 99 79
def QR (w : (Nat × Nat × Nat × Nat)) (I L : (Nat → Int → Int)) (w' : (Nat × Nat × Nat × Nat)) (I' L' : (Nat → Int → Int)) : Prop := (w'.1 = w.1 ∧ w'.2.1 = w.2.1 ∧ w'.2.2.1 = w.2.2.1) ∧ QF I I' ∧ QL L L'
theorem QF.rf {I : (Nat → Int → Int)} : QF I I := ⟨fun _ _ _ => rfl, fun _ _ _ _ => rfl, FB.rf⟩
theorem QF.tr {I I' I'' : (Nat → Int → Int)} (h : QF I I') (h' : QF I' I'') : QF I I'' := ⟨fun a x y => (h'.1 a x y).trans (h.1 a x y), fun j x y z => (h'.2.1 j x y z).trans (h.2.1 j x y z), h.2.2.tr h'.2.2⟩
theorem QL.rf {L : (Nat → Int → Int)} : QL L L := ⟨fun _ _ _ _ _ _ _ _ => rfl, rfl, rfl⟩
theorem QL.tr {L L' L'' : (Nat → Int → Int)} (h : QL L L') (h' : QL L' L'') : QL L L'' := ⟨fun a x1 x2 x3 x4 x5 x6 x7 => (h'.1 a x1 x2 x3 x4 x5 x6 x7).trans (h.1 a x1 x2 x3 x4 x5 x6 x7), h'.2.1.trans h.2.1, h'.2.2.trans h.2.2⟩
theorem QR.rf {w : (Nat × Nat × Nat × Nat)} {I L : (Nat → Int → Int)} : QR w I L w I L := ⟨⟨rfl, rfl, rfl⟩, QF.rf, QL.rf⟩
theorem QR.tr {w w' w'' : (Nat × Nat × Nat × Nat)} {I L I' L' I'' L'' : (Nat → Int → Int)} (h : QR w I L w' I' L') (h' : QR w' I' L' w'' I'' L'') : QR w I L w'' I'' L'' := ⟨⟨h'.1.1.trans h.1.1, h'.1.2.1.trans h.1.2.1, h'.1.2.2.trans h.1.2.2⟩, h.2.1.tr h'.2.1, h.2.2.tr h'.2.2⟩
theorem QL.lf {L L' : (Nat → Int → Int)} (h : LF L L') : QL L L' := ⟨fun a x1 x2 x3 x4 _ _ _ => h a (by omega), by rw [h 99 (by decide)], by rw [h 99 (by decide)]⟩
theorem QL.ln {L L' : (Nat → Int → Int)} (h : LN L L') : QL L L' := ⟨fun a _ _ _ _ x5 x6 _ => h a x5 x6, by rw [h 99 (by decide) (by decide)], by rw [h 99 (by decide) (by decide)]⟩
/-- one of 99's own fields that a question may write -/
theorem QF.f {I : (Nat → Int → Int)} {j v : Int} (h : j = 2 ∨ j = 53 ∨ 60 ≤ j ∧ j < 68) : QF I (am_up I 99 j v) := ⟨fun a x _ => am_up_a _ _ _ _ x, fun i x y z => am_up_n _ _ _ _ (by omega), ⟨fun _ _ _ => by rw [am_up_a _ _ _ _ (by decide)], fun _ _ _ => by rw [am_up_a _ _ _ _ (by decide)], fun _ _ _ => by rw [am_up_a _ _ _ _ (by decide)], by rw [am_up_a _ _ _ _ (by decide)], by rw [am_up_a _ _ _ _ (by decide)]⟩⟩
theorem QF.cl {I I' : (Nat → Int → Int)} (h : ∀ a, ¬ (55 ≤ a ∧ a ≤ 58 ∨ a = 63 ∨ 88 ≤ a ∧ a ≤ 89 ∨ a = 98) → I' a = I a) : QF I I' := ⟨fun a _ y => h a (by omega), fun j _ _ _ => by rw [h 99 (by decide)], ⟨fun _ _ _ => by rw [h 127 (by decide)], fun _ _ _ => by rw [h 128 (by decide)], fun _ _ _ => by rw [h 129 (by decide)], by rw [h 130 (by decide)], by rw [h 131 (by decide)]⟩⟩
theorem QF.pl {I : (Nat → Int → Int)} : QF I (cz_pl I) := by
  obtain ⟨a, b, -⟩ := cz_pl_at (I := I)
  exact ⟨fun q x _ => a q x, fun j _ _ z => b j z, ⟨fun _ _ _ => by rw [a 127 (by decide)], fun _ _ _ => by rw [a 128 (by decide)], fun _ _ _ => by rw [a 129 (by decide)], by rw [a 130 (by decide)], by rw [a 131 (by decide)]⟩⟩
theorem QF.lt {I : (Nat → Int → Int)} : QF I (cz_lt I) := by
  obtain ⟨a, b, -, c⟩ := cz_lt_at (I := I)
  exact ⟨fun q x y => a q x (by omega), fun j _ _ z => b j z, c⟩
theorem QF.mf {I I' : (Nat → Int → Int)} (h : MFr 1 I I') : QF I I' := ⟨fun a x y => h.1 a x (by omega), fun j _ y _ => h.2.1 j y, h.2.2 rfl⟩
/-- text and state, on both sides -/
def GC (V : (Nat → Int → Int)) (lw : Int → (Int → Int) → Int) (σ : (Nat → Int → Int)) (w : (Nat × Nat × Nat × Nat)) (I L : (Nat → Int → Int)) : Prop := (isW w.1 ∧ RW I w.1 V ∧ RLw I w.1 lw ∧ WV V ∧ MW I V ∧ ML I lw) ∧ RS I 51 σ ∧ MS I L 0 σ ∧ WS 9000 σ ∧ NY V σ ∧ CT I 51 (V 0 2).toNat
theorem MS.fb {I I' L L' : (Nat → Int → Int)} {σ : (Nat → Int → Int)} (h : MS I L 0 σ) (f : FB I I') (fl : L' 99 59 = L 99 59) : MS I' L' 0 σ := by
  obtain ⟨p, q, r, s1, s2, s3⟩ := h
  refine ⟨fun j x y => ?_, fun j x y => ?_, fun j x y => ?_, f.2.2.2.2.trans s1, f.2.2.2.1.trans s2, fl.trans s3⟩
  · rw [← p j x y]; have := f.1 j x y; rwa [show 12 * 0 + j = j by omega]
  · rw [← q j x y]; have := f.2.1 j x y; rwa [show 2 * 0 + j = j by omega]
  · rw [← r j x y]; have := f.2.2.1 j x y; rwa [show 12 * 0 + j = j by omega]
theorem GC.q {V : (Nat → Int → Int)} {lw : Int → (Int → Int) → Int} {σ : (Nat → Int → Int)} {w w' : (Nat × Nat × Nat × Nat)} {I L I' L' : (Nat → Int → Int)} (h : GC V lw σ w I L) (q : QR w I L w' I' L') : GC V lw σ w' I' L' := by
  obtain ⟨⟨a1, a2, a3, a4, a5, a6⟩, b1, b2, b3, b4, b5⟩ := h
  obtain ⟨⟨q1, -, -⟩, ⟨f1, f2, f3⟩, l1, l2, l3⟩ := q
  have hl := isW_le a1
  have c : ∀ a, a ≤ 54 → I' a = I a := fun a ha => f1 a (by omega) (by omega)
  rw [← q1] at a1 a2 a3 hl
  refine ⟨⟨a1, a2.fr (fun q _ x => c q (by omega)), a3.fr (fun q _ x => c q (by omega)), a4, a5.fr (fun q x y => f1 q (by omega) (by omega)) (fun j _ _ => f2 j (by omega) (by omega) (by omega)), a6.fr (fun q x y => f1 q (by omega) (by omega))⟩, b1.fr (fun q _ x => c q (by omega)), b2.fb f3 l2, b3, b4, ?_⟩
  exact b5.fr (c 54 (by omega)) ⟨by rw [c 51 (by omega)], by rw [c 51 (by omega)], by rw [c 51 (by omega)]⟩
def CQ (j : Nat) (as : List am_V) (v : am_V) (w : (Nat × Nat × Nat × Nat)) (I L : (Nat → Int → Int)) : Prop := ∀ (d : Nat) (Q : Option am_V → am_H → Prop), (∀ w' I' L', QR w I L w' I' L' → Q (some v) (mkH w' I' L')) → am_Sp (d + 20) j (vR (some 0) :: as) (mkH w I L) Q
def MQr (j : Nat) (as : List am_V) (v : am_V) (w : (Nat × Nat × Nat × Nat)) (I L : (Nat → Int → Int)) : Prop := ∀ (d : Nat) (Q : Option am_V → am_H → Prop), (∀ I' L', QR w I L w I' L' → Q (some v) (mkH w I' L')) → am_Sp (d + 20) j (vR (some 99) :: as) (mkH w I L) Q
/-- class and reference answer alike -/
def P2 (Γ : (Nat × Nat × Nat × Nat) → (Nat → Int → Int) → (Nat → Int → Int) → Prop) (j1 j2 : Nat) (as : List am_V) : Prop := ∃ v, (∀ w I L, Γ w I L → CQ j1 as v w I L) ∧ (∀ w I L, Γ w I L → MQr j2 as v w I L)
/-! the first words of calls -/
theorem s95 {d : Nat} {h : am_H} {t : Int} (Q : Option am_V → am_H → Prop) : am_Sp d 95 [vI t] h Q ↔ Q (some (vI (if t = 0 ∨ t = 1 then 1 else 0))) h := by
  rw [S95]
  by_cases c : t = 0
  · simp (disch := omega) only [B95_9, B95_14, c, if_true, GA, GR, GRc, GO, GI, GL, GV, am_w_i, am_ga, am_it, am_if, true_and, and_true, or_true, true_or, ne_eq, not_false_eq_true, not_true_eq_false, false_imp_iff, true_imp_iff, Int.reduceEq, Int.reduceLT, Int.reduceLE, Int.reduceAdd, Int.reduceSub, Int.reduceMul, Int.reduceNeg]
  · by_cases c1 : t = 1
    · simp (disch := omega) only [B95_9, B95_14, c1, if_true, GA, GR, GRc, GO, GI, GL, GV, am_w_i, am_ga, am_it, am_if, true_and, and_true, or_true, true_or, ne_eq, not_false_eq_true, not_true_eq_false, false_imp_iff, true_imp_iff, Int.reduceEq, Int.reduceLT, Int.reduceLE, Int.reduceAdd, Int.reduceSub, Int.reduceMul, Int.reduceNeg]
    · simp (disch := omega) only [B95_9, B95_14, c, c1, or_self, if_false, GA, GR, GRc, GO, GI, GL, GV, am_w_i, am_ga, am_it, am_if, true_and, and_true, or_true, true_or, ne_eq, not_false_eq_true, not_true_eq_false, false_imp_iff, true_imp_iff, Int.reduceEq, Int.reduceLT, Int.reduceLE, Int.reduceAdd, Int.reduceSub, Int.reduceMul, Int.reduceNeg]
theorem s201 {d : Nat} {h : am_H} {t : Int} (Q : Option am_V → am_H → Prop) : am_Sp d 201 [vI t] h Q ↔ Q (some (vI (if t = 0 ∨ t = 1 then 1 else 0))) h := by
  rw [S201]
  by_cases c : t = 0
  · simp (disch := omega) only [B201_9, B201_14, c, if_true, GA, GR, GRc, GO, GI, GL, GV, am_w_i, am_ga, am_it, am_if, true_and, and_true, or_true, true_or, ne_eq, not_false_eq_true, not_true_eq_false, false_imp_iff, true_imp_iff, Int.reduceEq, Int.reduceLT, Int.reduceLE, Int.reduceAdd, Int.reduceSub, Int.reduceMul, Int.reduceNeg]
  · by_cases c1 : t = 1
    · simp (disch := omega) only [B201_9, B201_14, c1, if_true, GA, GR, GRc, GO, GI, GL, GV, am_w_i, am_ga, am_it, am_if, true_and, and_true, or_true, true_or, ne_eq, not_false_eq_true, not_true_eq_false, false_imp_iff, true_imp_iff, Int.reduceEq, Int.reduceLT, Int.reduceLE, Int.reduceAdd, Int.reduceSub, Int.reduceMul, Int.reduceNeg]
    · simp (disch := omega) only [B201_9, B201_14, c, c1, or_self, if_false, GA, GR, GRc, GO, GI, GL, GV, am_w_i, am_ga, am_it, am_if, true_and, and_true, or_true, true_or, ne_eq, not_false_eq_true, not_true_eq_false, false_imp_iff, true_imp_iff, Int.reduceEq, Int.reduceLT, Int.reduceLE, Int.reduceAdd, Int.reduceSub, Int.reduceMul, Int.reduceNeg]
theorem s96 {d : Nat} {h : am_H} {x a b : Int} (Q : Option am_V → am_H → Prop) : am_Sp d 96 [vI x, vI a, vI b] h Q ↔ Q (some (vI (if a ≤ x ∧ x ≤ b then 1 else 0))) h := by
  rw [S96]
  by_cases c : a ≤ x
  · by_cases c1 : x ≤ b
    · simp (disch := omega) only [B96_14, B96_15, c, c1, if_true, GA, GR, GRc, GO, GI, GL, GV, am_w_i, am_ga, am_it, am_if, true_and, and_true, or_true, true_or, ne_eq, not_false_eq_true, not_true_eq_false, false_imp_iff, true_imp_iff, Int.reduceEq, Int.reduceLT, Int.reduceLE, Int.reduceAdd, Int.reduceSub, Int.reduceMul, Int.reduceNeg]
    · simp (disch := omega) only [B96_14, B96_15, c, c1, if_false, GA, GR, GRc, GO, GI, GL, GV, am_w_i, am_ga, am_it, am_if, true_and, and_true, or_true, true_or, ne_eq, not_false_eq_true, not_true_eq_false, false_imp_iff, true_imp_iff, Int.reduceEq, Int.reduceLT, Int.reduceLE, Int.reduceAdd, Int.reduceSub, Int.reduceMul, Int.reduceNeg]
  · simp (disch := omega) only [B96_14, B96_15, c, false_and, if_false, GA, GR, GRc, GO, GI, GL, GV, am_w_i, am_ga, am_it, am_if, true_and, and_true, or_true, true_or, ne_eq, not_false_eq_true, not_true_eq_false, false_imp_iff, true_imp_iff, Int.reduceEq, Int.reduceLT, Int.reduceLE, Int.reduceAdd, Int.reduceSub, Int.reduceMul, Int.reduceNeg]
theorem s153 {d : Nat} {h : am_H} {x a b : Int} (Q : Option am_V → am_H → Prop) : am_Sp d 153 [vI x, vI a, vI b] h Q ↔ Q (some (vI (if a ≤ x ∧ x ≤ b then 1 else 0))) h := by
  rw [S153]
  by_cases c : a ≤ x
  · by_cases c1 : x ≤ b
    · simp (disch := omega) only [B153_14, B153_15, c, c1, if_true, GA, GR, GRc, GO, GI, GL, GV, am_w_i, am_ga, am_it, am_if, true_and, and_true, or_true, true_or, ne_eq, not_false_eq_true, not_true_eq_false, false_imp_iff, true_imp_iff, Int.reduceEq, Int.reduceLT, Int.reduceLE, Int.reduceAdd, Int.reduceSub, Int.reduceMul, Int.reduceNeg]
    · simp (disch := omega) only [B153_14, B153_15, c, c1, if_false, GA, GR, GRc, GO, GI, GL, GV, am_w_i, am_ga, am_it, am_if, true_and, and_true, or_true, true_or, ne_eq, not_false_eq_true, not_true_eq_false, false_imp_iff, true_imp_iff, Int.reduceEq, Int.reduceLT, Int.reduceLE, Int.reduceAdd, Int.reduceSub, Int.reduceMul, Int.reduceNeg]
  · simp (disch := omega) only [B153_14, B153_15, c, false_and, if_false, GA, GR, GRc, GO, GI, GL, GV, am_w_i, am_ga, am_it, am_if, true_and, and_true, or_true, true_or, ne_eq, not_false_eq_true, not_true_eq_false, false_imp_iff, true_imp_iff, Int.reduceEq, Int.reduceLT, Int.reduceLE, Int.reduceAdd, Int.reduceSub, Int.reduceMul, Int.reduceNeg]
theorem s93 {d : Nat} {w : Nat × Nat × Nat × Nat} {I L : Nat → Int → Int} {V : (Nat → Int → Int)} {k : Int} (hw : isW w.1) (hR : RW I w.1 V) (Q : Option am_V → am_H → Prop) : am_Sp d 93 [vR (some 0), vI k] (mkH w I L) Q ↔ Q (some (vI (if 0 ≤ k ∧ k < V 0 0 then 1 else 0))) (mkH w I L) := by
  rw [S93]
  by_cases c : 0 ≤ k
  · by_cases c1 : k < V 0 0
    · simp (disch := omega) only [KX, HW hw, hR.1.1, B93_19, B93_20, c, c1, if_true, GA, GR, GRc, GO, GI, GL, GV, am_w_i, am_ga, am_it, am_if, true_and, and_true, or_true, true_or, ne_eq, not_false_eq_true, not_true_eq_false, false_imp_iff, true_imp_iff, Int.reduceEq, Int.reduceLT, Int.reduceLE, Int.reduceAdd, Int.reduceSub, Int.reduceMul, Int.reduceNeg]
    · simp (disch := omega) only [KX, HW hw, hR.1.1, B93_19, B93_20, c, c1, if_false, GA, GR, GRc, GO, GI, GL, GV, am_w_i, am_ga, am_it, am_if, true_and, and_true, or_true, true_or, ne_eq, not_false_eq_true, not_true_eq_false, false_imp_iff, true_imp_iff, Int.reduceEq, Int.reduceLT, Int.reduceLE, Int.reduceAdd, Int.reduceSub, Int.reduceMul, Int.reduceNeg]
  · simp (disch := omega) only [B93_19, B93_20, c, false_and, if_false, GA, GR, GRc, GO, GI, GL, GV, am_w_i, am_ga, am_it, am_if, true_and, and_true, or_true, true_or, ne_eq, not_false_eq_true, not_true_eq_false, false_imp_iff, true_imp_iff, Int.reduceEq, Int.reduceLT, Int.reduceLE, Int.reduceAdd, Int.reduceSub, Int.reduceMul, Int.reduceNeg]
theorem s94 {d : Nat} {w : Nat × Nat × Nat × Nat} {I L : Nat → Int → Int} {V : (Nat → Int → Int)} {k : Int} (hw : isW w.1) (hR : RW I w.1 V) (Q : Option am_V → am_H → Prop) : am_Sp d 94 [vR (some 0), vI k] (mkH w I L) Q ↔ Q (some (vI (if 0 ≤ k ∧ k < V 0 1 then 1 else 0))) (mkH w I L) := by
  rw [S94]
  by_cases c : 0 ≤ k
  · by_cases c1 : k < V 0 1
    · simp (disch := omega) only [KX, HW hw, hR.1.2.1, B94_19, B94_20, c, c1, if_true, GA, GR, GRc, GO, GI, GL, GV, am_w_i, am_ga, am_it, am_if, true_and, and_true, or_true, true_or, ne_eq, not_false_eq_true, not_true_eq_false, false_imp_iff, true_imp_iff, Int.reduceEq, Int.reduceLT, Int.reduceLE, Int.reduceAdd, Int.reduceSub, Int.reduceMul, Int.reduceNeg]
    · simp (disch := omega) only [KX, HW hw, hR.1.2.1, B94_19, B94_20, c, c1, if_false, GA, GR, GRc, GO, GI, GL, GV, am_w_i, am_ga, am_it, am_if, true_and, and_true, or_true, true_or, ne_eq, not_false_eq_true, not_true_eq_false, false_imp_iff, true_imp_iff, Int.reduceEq, Int.reduceLT, Int.reduceLE, Int.reduceAdd, Int.reduceSub, Int.reduceMul, Int.reduceNeg]
  · simp (disch := omega) only [B94_19, B94_20, c, false_and, if_false, GA, GR, GRc, GO, GI, GL, GV, am_w_i, am_ga, am_it, am_if, true_and, and_true, or_true, true_or, ne_eq, not_false_eq_true, not_true_eq_false, false_imp_iff, true_imp_iff, Int.reduceEq, Int.reduceLT, Int.reduceLE, Int.reduceAdd, Int.reduceSub, Int.reduceMul, Int.reduceNeg]
theorem s199 {d : Nat} {w : Nat × Nat × Nat × Nat} {I L : Nat → Int → Int} {V : (Nat → Int → Int)} {k : Int} (hM : MW I V) (Q : Option am_V → am_H → Prop) : am_Sp d 199 [vR (some 99), vI k] (mkH w I L) Q ↔ Q (some (vI (if 0 ≤ k ∧ k < V 0 0 then 1 else 0))) (mkH w I L) := by
  rw [S199]
  by_cases c : 0 ≤ k
  · by_cases c1 : k < V 0 0
    · simp (disch := omega) only [Kk, hM.1.1, B199_16, B199_17, c, c1, if_true, GA, GR, GRc, GO, GI, GL, GV, am_w_i, am_ga, am_it, am_if, true_and, and_true, or_true, true_or, ne_eq, not_false_eq_true, not_true_eq_false, false_imp_iff, true_imp_iff, Int.reduceEq, Int.reduceLT, Int.reduceLE, Int.reduceAdd, Int.reduceSub, Int.reduceMul, Int.reduceNeg]
    · simp (disch := omega) only [Kk, hM.1.1, B199_16, B199_17, c, c1, if_false, GA, GR, GRc, GO, GI, GL, GV, am_w_i, am_ga, am_it, am_if, true_and, and_true, or_true, true_or, ne_eq, not_false_eq_true, not_true_eq_false, false_imp_iff, true_imp_iff, Int.reduceEq, Int.reduceLT, Int.reduceLE, Int.reduceAdd, Int.reduceSub, Int.reduceMul, Int.reduceNeg]
  · simp (disch := omega) only [B199_16, B199_17, c, false_and, if_false, GA, GR, GRc, GO, GI, GL, GV, am_w_i, am_ga, am_it, am_if, true_and, and_true, or_true, true_or, ne_eq, not_false_eq_true, not_true_eq_false, false_imp_iff, true_imp_iff, Int.reduceEq, Int.reduceLT, Int.reduceLE, Int.reduceAdd, Int.reduceSub, Int.reduceMul, Int.reduceNeg]
theorem s200 {d : Nat} {w : Nat × Nat × Nat × Nat} {I L : Nat → Int → Int} {V : (Nat → Int → Int)} {k : Int} (hM : MW I V) (Q : Option am_V → am_H → Prop) : am_Sp d 200 [vR (some 99), vI k] (mkH w I L) Q ↔ Q (some (vI (if 0 ≤ k ∧ k < V 0 1 then 1 else 0))) (mkH w I L) := by
  rw [S200]
  by_cases c : 0 ≤ k
  · by_cases c1 : k < V 0 1
    · simp (disch := omega) only [Kk, hM.1.2.1, B200_16, B200_17, c, c1, if_true, GA, GR, GRc, GO, GI, GL, GV, am_w_i, am_ga, am_it, am_if, true_and, and_true, or_true, true_or, ne_eq, not_false_eq_true, not_true_eq_false, false_imp_iff, true_imp_iff, Int.reduceEq, Int.reduceLT, Int.reduceLE, Int.reduceAdd, Int.reduceSub, Int.reduceMul, Int.reduceNeg]
    · simp (disch := omega) only [Kk, hM.1.2.1, B200_16, B200_17, c, c1, if_false, GA, GR, GRc, GO, GI, GL, GV, am_w_i, am_ga, am_it, am_if, true_and, and_true, or_true, true_or, ne_eq, not_false_eq_true, not_true_eq_false, false_imp_iff, true_imp_iff, Int.reduceEq, Int.reduceLT, Int.reduceLE, Int.reduceAdd, Int.reduceSub, Int.reduceMul, Int.reduceNeg]
  · simp (disch := omega) only [B200_16, B200_17, c, false_and, if_false, GA, GR, GRc, GO, GI, GL, GV, am_w_i, am_ga, am_it, am_if, true_and, and_true, or_true, true_or, ne_eq, not_false_eq_true, not_true_eq_false, false_imp_iff, true_imp_iff, Int.reduceEq, Int.reduceLT, Int.reduceLE, Int.reduceAdd, Int.reduceSub, Int.reduceMul, Int.reduceNeg]
theorem MW.t {I V : (Nat → Int → Int)} {v : Int} (h : MW I V) : MW (am_up I 99 2 v) V := h.fr (fun a _ _ => am_up_a _ _ _ _ (by omega)) (fun j _ _ => am_up_n _ _ _ _ (by omega))
theorem ML.t {I : (Nat → Int → Int)} {lw : Int → (Int → Int) → Int} {v : Int} (h : ML I lw) : ML (am_up I 99 2 v) lw := h.fr (fun a _ _ => am_up_a _ _ _ _ (by omega))
theorem MS.t {I L σ : (Nat → Int → Int)} {b v : Int} (h : MS I L b σ) : MS (am_up I 99 2 v) L b σ := by
  unfold MS at h ⊢; simp (disch := decide) only [am_up_a]; exact h
theorem QR.t {w : (Nat × Nat × Nat × Nat)} {I L : (Nat → Int → Int)} {v : Int} : QR w I L w (am_up I 99 2 v) L := ⟨⟨rfl, rfl, rfl⟩, QF.f (Or.inl rfl), QL.rf⟩
theorem GC.t {V : (Nat → Int → Int)} {lw : Int → (Int → Int) → Int} {σ : (Nat → Int → Int)} {w : (Nat × Nat × Nat × Nat)} {I L : (Nat → Int → Int)} {v : Int} (h : GC V lw σ w I L) : GC V lw σ w (am_up I 99 2 v) L := h.q QR.t
theorem MS.a0 {I L σ : (Nat → Int → Int)} {j : Int} (h : MS I L 0 σ) (h0 : 0 ≤ j) (h1 : j < 12) : I 127 j = σ 1 j := by have := h.1 j h0 h1; rwa [show 12 * 0 + j = j by omega] at this
theorem MS.p0 {I L σ : (Nat → Int → Int)} {j : Int} (h : MS I L 0 σ) (h0 : 0 ≤ j) (h1 : j < 2) : I 128 j = σ 2 j := by have := h.2.1 j h0 h1; rwa [show 2 * 0 + j = j by omega] at this
theorem MS.o0 {I L σ : (Nat → Int → Int)} {j : Int} (h : MS I L 0 σ) (h0 : 0 ≤ j) (h1 : j < 12) : I 129 j = σ 3 j := by have := h.2.2.1 j h0 h1; rwa [show 12 * 0 + j = j by omega] at this
