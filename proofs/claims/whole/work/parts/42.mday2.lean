/-! 42: the reference: states, names, laws -/
def MW (I V : (Nat → Int → Int)) : Prop := (I 99 12 = V 0 0 ∧ I 99 13 = V 0 1 ∧ I 99 14 = V 0 2) ∧ (∀ k, 0 ≤ k → k < V 0 0 → I 103 k = V 1 k ∧ I 104 k = V 2 k ∧ I 105 k = V 3 k) ∧ (∀ k, 0 ≤ k → k < V 0 1 → I 107 k = V 5 k ∧ I 108 k = V 6 k ∧ I 109 k = V 7 k ∧ I 110 k = V 8 k ∧ I 111 k = V 9 k) ∧ (∀ k, 0 ≤ k → k < V 0 2 → I 112 k = V 10 k ∧ I 113 k = V 11 k ∧ I 114 k = V 12 k) ∧ (∀ k, 0 ≤ k → k < 2 → I 116 (2 + k) = V 14 k ∧ I 116 k = V 13 k) ∧ (∀ k, 0 ≤ k → k < 12 → I 106 k = V 4 k) ∧ I 102 0 = V 0 3 ∧ I 99 15 = V 0 4
def MFl (I : (Nat → Int → Int)) (F : Int → Int) : Prop := ((I 99 61 = 0 ↔ F 1 ≠ 0) ∧ (I 99 63 = 0 ↔ F 2 ≠ 0) ∧ (I 99 64 = 0 ↔ F 3 ≠ 0)) ∧ I 99 65 = F 4 ∧ I 99 66 = F 5 ∧ (F 5 = -1 ∨ I 99 67 = F 6) ∧ ((F 7 = 0 ∧ I 99 62 = 0 ∧ I 99 60 = 1) ∨ (F 7 = 1 ∧ I 99 62 = 0 ∧ I 99 60 = 0) ∨ (F 7 = 2 ∧ I 99 62 = 1 ∧ I 99 60 = 0))
def MC (I V : (Nat → Int → Int)) (lw : Int → (Int → Int) → Int) (F : Int → Int) : Prop := MW I V ∧ ML I lw ∧ WV V ∧ MFl I F ∧ WF F
def MS (I L : (Nat → Int → Int)) (b : Int) (σ : (Nat → Int → Int)) : Prop := (∀ j, 0 ≤ j → j < 12 → I 127 (12 * b + j) = σ 1 j) ∧ (∀ j, 0 ≤ j → j < 2 → I 128 (2 * b + j) = σ 2 j) ∧ (∀ j, 0 ≤ j → j < 12 → I 129 (12 * b + j) = σ 3 j) ∧ I 131 b = σ 0 3 ∧ I 130 b = σ 0 4 ∧ L 99 59 = σ 0 8
theorem MW.fr {I I' V : (Nat → Int → Int)} (h : MW I V) (hf : ∀ a, 102 ≤ a → a ≤ 122 → I' a = I a) (hg : ∀ j, 12 ≤ j → j ≤ 15 → I' 99 j = I 99 j) : MW I' V := by
  unfold MW at h ⊢
  rw [hg 12 (by decide) (by decide), hg 13 (by decide) (by decide), hg 14 (by decide) (by decide), hg 15 (by decide) (by decide), hf 102 (by decide) (by decide), hf 103 (by decide) (by decide), hf 104 (by decide) (by decide), hf 105 (by decide) (by decide), hf 106 (by decide) (by decide), hf 107 (by decide) (by decide), hf 108 (by decide) (by decide), hf 109 (by decide) (by decide), hf 110 (by decide) (by decide), hf 111 (by decide) (by decide), hf 112 (by decide) (by decide), hf 113 (by decide) (by decide), hf 114 (by decide) (by decide), hf 116 (by decide) (by decide)]
  exact h
theorem ML.fr {I I' : (Nat → Int → Int)} {lw : Int → (Int → Int) → Int} (h : ML I lw) (hf : ∀ a, 102 ≤ a → a ≤ 122 → I' a = I a) : ML I' lw := by
  unfold ML MLl at h ⊢
  rw [hf 117 (by decide) (by decide), hf 118 (by decide) (by decide), hf 119 (by decide) (by decide), hf 120 (by decide) (by decide), hf 121 (by decide) (by decide), hf 122 (by decide) (by decide)]
  exact h
theorem MFl.fr {I I' : (Nat → Int → Int)} {F : Int → Int} (h : MFl I F) (hg : ∀ j, 60 ≤ j → j < 68 → I' 99 j = I 99 j) : MFl I' F := by
  unfold MFl at h ⊢
  rw [hg 60 (by decide) (by decide), hg 61 (by decide) (by decide), hg 62 (by decide) (by decide), hg 63 (by decide) (by decide), hg 64 (by decide) (by decide), hg 65 (by decide) (by decide), hg 66 (by decide) (by decide), hg 67 (by decide) (by decide)]
  exact h
/-- what a day of the reference leaves as it is -/
def FB (I I' : (Nat → Int → Int)) : Prop := (∀ j, 0 ≤ j → j < 12 → I' 127 j = I 127 j) ∧ (∀ j, 0 ≤ j → j < 2 → I' 128 j = I 128 j) ∧ (∀ j, 0 ≤ j → j < 12 → I' 129 j = I 129 j) ∧ I' 130 0 = I 130 0 ∧ I' 131 0 = I 131 0
def MFr (b : Int) (I I' : (Nat → Int → Int)) : Prop := (∀ a, a ≠ 99 → (a < 127 ∨ 131 < a) → I' a = I a) ∧ (∀ j, j ≠ 53 → I' 99 j = I 99 j) ∧ (b = 1 → FB I I')
theorem FB.rf {I : (Nat → Int → Int)} : FB I I := ⟨fun _ _ _ => rfl, fun _ _ _ => rfl, fun _ _ _ => rfl, rfl, rfl⟩
theorem FB.tr {I I' I'' : (Nat → Int → Int)} (h : FB I I') (h' : FB I' I'') : FB I I'' := ⟨fun j a b => (h'.1 j a b).trans (h.1 j a b), fun j a b => (h'.2.1 j a b).trans (h.2.1 j a b), fun j a b => (h'.2.2.1 j a b).trans (h.2.2.1 j a b), h'.2.2.2.1.trans h.2.2.2.1, h'.2.2.2.2.trans h.2.2.2.2⟩
theorem MFr.rf {b : Int} {I : (Nat → Int → Int)} : MFr b I I := ⟨fun _ _ _ => rfl, fun _ _ => rfl, fun _ => FB.rf⟩
theorem MFr.tr {b : Int} {I I' I'' : (Nat → Int → Int)} (h : MFr b I I') (h' : MFr b I' I'') : MFr b I I'' := ⟨fun a x y => (h'.1 a x y).trans (h.1 a x y), fun j x => (h'.2.1 j x).trans (h.2.1 j x), fun e => (h.2.2 e).tr (h'.2.2 e)⟩
theorem MC.fr {b : Int} {I I' V : (Nat → Int → Int)} {lw : Int → (Int → Int) → Int} {F : Int → Int} (h : MC I V lw F) (f : MFr b I I') : MC I' V lw F := by
  obtain ⟨a, b, c, e, g⟩ := h
  exact ⟨a.fr (fun a x y => f.1 a (by omega) (by omega)) (fun j _ _ => f.2.1 j (by omega)), b.fr (fun a x y => f.1 a (by omega) (by omega)), c, e.fr (fun j x y => f.2.1 j (by omega)), g⟩
theorem MFr.e {b : Int} {I : (Nat → Int → Int)} {v : Int} : MFr b I (am_up I 99 53 v) := ⟨fun a x _ => am_up_a _ _ _ _ x, fun j x => am_up_n _ _ _ _ x, fun _ => ⟨fun _ _ _ => by rw [am_up_a _ _ _ _ (by decide)], fun _ _ _ => by rw [am_up_a _ _ _ _ (by decide)], fun _ _ _ => by rw [am_up_a _ _ _ _ (by decide)], by rw [am_up_a _ _ _ _ (by decide)], by rw [am_up_a _ _ _ _ (by decide)]⟩⟩
theorem MFr.u1 {b i v : Int} {I : (Nat → Int → Int)} (h : 0 ≤ i) : MFr b I (am_up I 127 (12 * b + i) v) := ⟨fun a x y => am_up_a _ _ _ _ (by omega), fun j x => by rw [am_up_a _ _ _ _ (by decide)], fun e => ⟨fun _ _ _ => by rw [am_up_n _ _ _ _ (by omega)], fun _ _ _ => by rw [am_up_a _ _ _ _ (by decide)], fun _ _ _ => by rw [am_up_a _ _ _ _ (by decide)], by rw [am_up_a _ _ _ _ (by decide)], by rw [am_up_a _ _ _ _ (by decide)]⟩⟩
theorem MFr.u2 {b i v : Int} {I : (Nat → Int → Int)} (h : 0 ≤ i) : MFr b I (am_up I 128 (2 * b + i) v) := ⟨fun a x y => am_up_a _ _ _ _ (by omega), fun j x => by rw [am_up_a _ _ _ _ (by decide)], fun e => ⟨fun _ _ _ => by rw [am_up_a _ _ _ _ (by decide)], fun _ _ _ => by rw [am_up_n _ _ _ _ (by omega)], fun _ _ _ => by rw [am_up_a _ _ _ _ (by decide)], by rw [am_up_a _ _ _ _ (by decide)], by rw [am_up_a _ _ _ _ (by decide)]⟩⟩
theorem MFr.u3 {b i v : Int} {I : (Nat → Int → Int)} (h : 0 ≤ i) : MFr b I (am_up I 129 (12 * b + i) v) := ⟨fun a x y => am_up_a _ _ _ _ (by omega), fun j x => by rw [am_up_a _ _ _ _ (by decide)], fun e => ⟨fun _ _ _ => by rw [am_up_a _ _ _ _ (by decide)], fun _ _ _ => by rw [am_up_a _ _ _ _ (by decide)], fun _ _ _ => by rw [am_up_n _ _ _ _ (by omega)], by rw [am_up_a _ _ _ _ (by decide)], by rw [am_up_a _ _ _ _ (by decide)]⟩⟩
theorem MFr.u4 {b v : Int} {I : (Nat → Int → Int)} : MFr b I (am_up I 130 b v) := ⟨fun a x y => am_up_a _ _ _ _ (by omega), fun j x => by rw [am_up_a _ _ _ _ (by decide)], fun e => ⟨fun _ _ _ => by rw [am_up_a _ _ _ _ (by decide)], fun _ _ _ => by rw [am_up_a _ _ _ _ (by decide)], fun _ _ _ => by rw [am_up_a _ _ _ _ (by decide)], by rw [am_up_n _ _ _ _ (by omega)], by rw [am_up_a _ _ _ _ (by decide)]⟩⟩
theorem MFr.u5 {b v : Int} {I : (Nat → Int → Int)} : MFr b I (am_up I 131 b v) := ⟨fun a x y => am_up_a _ _ _ _ (by omega), fun j x => by rw [am_up_a _ _ _ _ (by decide)], fun e => ⟨fun _ _ _ => by rw [am_up_a _ _ _ _ (by decide)], fun _ _ _ => by rw [am_up_a _ _ _ _ (by decide)], fun _ _ _ => by rw [am_up_a _ _ _ _ (by decide)], by rw [am_up_a _ _ _ _ (by decide)], by rw [am_up_n _ _ _ _ (by omega)]⟩⟩
theorem MS.u1 {I L : (Nat → Int → Int)} {b i v : Int} {σ : (Nat → Int → Int)} (h : MS I L b σ) : MS (am_up I 127 (12 * b + i) v) L b (am_up σ 1 i v) := by
  obtain ⟨p, q, r, s⟩ := h
  refine ⟨fun j h1 h2 => ?_, ?_, ?_, ?_⟩
  · by_cases e : j = i
    · subst e; rw [am_up_s, am_up_s]
    · rw [am_up_n _ _ _ _ (by omega), am_up_n _ _ _ _ e]; exact p j h1 h2
  all_goals simp (disch := decide) only [am_up_a]; assumption
theorem MS.u2 {I L : (Nat → Int → Int)} {b i v : Int} {σ : (Nat → Int → Int)} (h : MS I L b σ) : MS (am_up I 128 (2 * b + i) v) L b (am_up σ 2 i v) := by
  obtain ⟨p, q, r, s⟩ := h
  refine ⟨?_, fun j h1 h2 => ?_, ?_, ?_⟩
  rotate_left
  · by_cases e : j = i
    · subst e; rw [am_up_s, am_up_s]
    · rw [am_up_n _ _ _ _ (by omega), am_up_n _ _ _ _ e]; exact q j h1 h2
  all_goals simp (disch := decide) only [am_up_a]; assumption
theorem MS.u3 {I L : (Nat → Int → Int)} {b i v : Int} {σ : (Nat → Int → Int)} (h : MS I L b σ) : MS (am_up I 129 (12 * b + i) v) L b (am_up σ 3 i v) := by
  obtain ⟨p, q, r, s⟩ := h
  refine ⟨?_, ?_, fun j h1 h2 => ?_, ?_⟩
  rotate_left 2
  · by_cases e : j = i
    · subst e; rw [am_up_s, am_up_s]
    · rw [am_up_n _ _ _ _ (by omega), am_up_n _ _ _ _ e]; exact r j h1 h2
  all_goals simp (disch := decide) only [am_up_a]; assumption
theorem MS.u4 {I L : (Nat → Int → Int)} {b v : Int} {σ : (Nat → Int → Int)} (h : MS I L b σ) : MS (am_up I 130 b v) L b (am_up σ 0 4 v) := by
  obtain ⟨p, q, r, s1, s2, s3⟩ := h
  refine ⟨?_, ?_, ?_, ?_, ?_, ?_⟩
  all_goals simp (disch := decide) only [am_up_a, am_up_s, am_up_n]; first | done | assumption
theorem MS.u5 {I L : (Nat → Int → Int)} {b v : Int} {σ : (Nat → Int → Int)} (h : MS I L b σ) : MS (am_up I 131 b v) L b (am_up σ 0 3 v) := by
  obtain ⟨p, q, r, s1, s2, s3⟩ := h
  refine ⟨?_, ?_, ?_, ?_, ?_, ?_⟩
  all_goals simp (disch := decide) only [am_up_a, am_up_s, am_up_n]; first | done | assumption
theorem MS.u8 {I L : (Nat → Int → Int)} {b v : Int} {σ : (Nat → Int → Int)} (h : MS I L b σ) : MS I (am_up L 99 59 v) b (am_up σ 0 8 v) := by
  obtain ⟨p, q, r, s1, s2, s3⟩ := h
  refine ⟨?_, ?_, ?_, ?_, ?_, ?_⟩
  all_goals simp (disch := decide) only [am_up_a, am_up_s, am_up_n]; first | done | assumption
theorem MS.e {I L : (Nat → Int → Int)} {b v : Int} {σ : (Nat → Int → Int)} (h : MS I L b σ) : MS (am_up I 99 53 v) L b σ := by
  unfold MS at h ⊢; simp (disch := decide) only [am_up_a]; exact h
/-- longs that a day of the reference may write -/
def LM (L L' : (Nat → Int → Int)) : Prop := (∀ a, a ≠ 99 → a ≠ 125 → a ≠ 126 → L' a = L a) ∧ (∀ j, j ≠ 59 → L' 99 j = L 99 j)
theorem LM.rf {L : (Nat → Int → Int)} : LM L L := ⟨fun _ _ _ _ => rfl, fun _ _ => rfl⟩
theorem LM.tr {L L' L'' : (Nat → Int → Int)} (h : LM L L') (h' : LM L' L'') : LM L L'' := ⟨fun a x y z => (h'.1 a x y z).trans (h.1 a x y z), fun j x => (h'.2 j x).trans (h.2 j x)⟩
/-- longs that names and laws write -/
def LN (L L' : (Nat → Int → Int)) : Prop := ∀ a, a ≠ 125 → a ≠ 126 → L' a = L a
theorem LN.lm {L L' : (Nat → Int → Int)} (h : LN L L') : LM L L' := ⟨fun a _ y z => h a y z, fun j _ => by rw [h 99 (by decide) (by decide)]⟩
theorem LN.tr {L L' L'' : (Nat → Int → Int)} (h : LN L L') (h' : LN L' L'') : LN L L'' := fun a x y => (h' a x y).trans (h a x y)
theorem MS.ln {I L L' : (Nat → Int → Int)} {b : Int} {σ : (Nat → Int → Int)} (h : MS I L b σ) (f : LN L L') : MS I L' b σ := by
  unfold MS at h ⊢; rw [f 99 (by decide) (by decide)]; exact h
theorem s202 {d : Nat} {h : am_H} {x : Int} (hx : -2147483647 ≤ x ∧ x ≤ 2147483647) (Q : Option am_V → am_H → Prop) : am_Sp d 202 [vI x] h Q ↔ Q (some (vI (iabs x))) h := by
  rw [S202]
  unfold iabs
  by_cases c : 0 ≤ x
  · have : ¬ x < 0 := by omega
    simp (disch := omega) only [B202_10, this, if_false, GA, GR, GRc, GO, GI, GL, GV, am_w_i, am_ga, am_it, am_if, true_and, and_true, or_true, true_or, ne_eq, not_false_eq_true, not_true_eq_false, false_imp_iff, true_imp_iff, Int.reduceEq, Int.reduceLT, Int.reduceLE, Int.reduceAdd, Int.reduceSub, Int.reduceMul, Int.reduceNeg]
  · have : x < 0 := by omega
    simp (disch := omega) only [B202_10, this, if_true, GA, GR, GRc, GO, GI, GL, GV, am_w_i, am_ga, am_it, am_if, true_and, and_true, or_true, true_or, ne_eq, not_false_eq_true, not_true_eq_false, false_imp_iff, true_imp_iff, Int.reduceEq, Int.reduceLT, Int.reduceLE, Int.reduceAdd, Int.reduceSub, Int.reduceMul, Int.reduceNeg]
theorem clampe {x a b : Int} (hab : a ≤ b) : am_max a (am_min b x) = if a ≤ x then (if x ≤ b then x else b) else a := by
  unfold am_max am_min
  repeat' split
  all_goals omega
theorem s203 {d : Nat} {h : am_H} {x a b : Int} (hab : a ≤ b) (Q : Option am_V → am_H → Prop) : am_Sp d 203 [vI x, vI a, vI b] h Q ↔ Q (some (vI (am_max a (am_min b x)))) h := by
  rw [clampe hab]
  simp (disch := omega) only [S203, B203_19, am_iteI, GA, GR, GRc, GO, GI, GL, GV, am_w_i, am_ga, am_it, am_if, true_and, and_true, or_true, true_or, ne_eq, not_false_eq_true, not_true_eq_false, false_imp_iff, true_imp_iff, Int.reduceEq, Int.reduceLT, Int.reduceLE, Int.reduceAdd, Int.reduceSub, Int.reduceMul, Int.reduceNeg]
theorem s204 {d : Nat} {w : Nat × Nat × Nat × Nat} {I L : Nat → Int → Int} {b k t : Int} (hb : b = 0 ∨ b = 1) (hk : 0 ≤ k ∧ k < 6) (ht : 0 ≤ t ∧ t < 2) (Q : Option am_V → am_H → Prop) : am_Sp d 204 [vR (some 99), vI b, vI k, vI t] (mkH w I L) Q ↔ Q (some (vI (I 127 (12 * b + (2 * k + t))))) (mkH w I L) := by
  have e : 12 * b + 2 * k + t = 12 * b + (2 * k + t) := by omega
  simp (disch := omega) only [S204, Kk, Ks, e, GA, GR, GRc, GO, GI, GL, GV, am_w_i, am_ga, am_it, am_if, true_and, and_true, or_true, true_or, ne_eq, not_false_eq_true, not_true_eq_false, false_imp_iff, true_imp_iff, Int.reduceEq, Int.reduceLT, Int.reduceLE, Int.reduceAdd, Int.reduceSub, Int.reduceMul, Int.reduceNeg]
theorem s205 {d : Nat} {w : Nat × Nat × Nat × Nat} {I L : Nat → Int → Int} {b k D : Int} {σ : (Nat → Int → Int)} (hb : b = 0 ∨ b = 1) (hk : 0 ≤ k ∧ k < 6) (hR : MS I L b σ) (hW : WS D σ) (Q : Option am_V → am_H → Prop) : am_Sp (d + 1) 205 [vR (some 99), vI b, vI k] (mkH w I L) Q ↔ Q (some (vI (px_gap σ k))) (mkH w I L) := by
  have a1 := hW.1 (2 * k) (by omega) (by omega)
  have a2 := hW.1 (2 * k + 1) (by omega) (by omega)
  have e1 := hR.1 (2 * k) (by omega) (by omega)
  have e2 := hR.1 (2 * k + 1) (by omega) (by omega)
  simp (disch := omega) only [S205, Kk, s204 hb hk, Int.add_zero, e1, e2, s202, GA, GR, GRc, GO, GI, GL, GV, am_w_i, am_ga, am_it, am_if, true_and, and_true, or_true, true_or, ne_eq, not_false_eq_true, not_true_eq_false, false_imp_iff, true_imp_iff, Int.reduceEq, Int.reduceLT, Int.reduceLE, Int.reduceAdd, Int.reduceSub, Int.reduceMul, Int.reduceNeg]
  rfl
theorem s206 {d : Nat} {w : Nat × Nat × Nat × Nat} {I L : Nat → Int → Int} {V : (Nat → Int → Int)} {lw : Int → (Int → Int) → Int} {F : Int → Int} {k : Int} (C : MC I V lw F) (h0 : 0 ≤ k) (h1 : k < V 0 0) (Q : Option am_V → am_H → Prop) : am_Sp d 206 [vR (some 99), vI k] (mkH w I L) Q ↔ Q (some (vI (px_hl V F k))) (mkH w I L) := by
  obtain ⟨hM, -, hV, hF, -⟩ := C
  have h6 := hV.1.1.2
  rw [S206]
  unfold px_hl
  simp (disch := omega) only [B206_21, Kk, Kw, (hM.2.1 k h0 h1).2.2, hF.2.2.1, GA, GR, GRc, GO, GI, GL, GV, am_w_i, am_ga, am_it, am_if, true_and, and_true, or_true, true_or, ne_eq, not_false_eq_true, not_true_eq_false, false_imp_iff, true_imp_iff, Int.reduceEq, Int.reduceLT, Int.reduceLE, Int.reduceAdd, Int.reduceSub, Int.reduceMul, Int.reduceNeg]
  rcases hF.2.2.2.1 with e | e
  · have : ¬ k = F 5 := by omega
    simp only [this, not_false_eq_true, true_imp_iff, not_true_eq_false, false_imp_iff, and_true, if_false]
  · simp only [e, am_iteI, ite_not]
theorem s207 {d : Nat} {w : Nat × Nat × Nat × Nat} {I L : Nat → Int → Int} {V σ : (Nat → Int → Int)} {lw : Int → (Int → Int) → Int} {F : Int → Int} {b D k t : Int} (C : MC I V lw F) (hb : b = 0 ∨ b = 1) (hR : MS I L b σ) (hW : WS D σ) (h0 : 0 ≤ k) (h1 : k < V 0 0) (ht : 0 ≤ t ∧ t < 2) {Q : Option am_V → am_H → Prop} (q : ∀ L', LN L L' → (∀ j, 0 ≤ j → j < 7 → L' 125 j = px_nm V F σ k t j) → Q none (mkH w I L')) : am_Sp (d + 2) 207 [vR (some 99), vI b, vI k, vI t] (mkH w I L) Q := by
  have C0 := C
  obtain ⟨hM, -, hV, hF, -⟩ := C
  have h6 := hV.1.1.2
  have r1 := hR.1 (2 * k + t) (by omega) (by omega)
  have r2 := hR.1 (2 * k + (1 - t)) (by omega) (by omega)
  have R2 : ∀ L', LN L L' → MS I L' b σ := fun L' f => hR.ln f
  have lu : ∀ (J : (Nat → Int → Int)) (i v : Int), LN L J → LN L (am_up J 125 i v) := fun J i v f a x y => by rw [am_up_a _ _ _ _ x]; exact f a x y
  have l0 : LN L L := fun _ _ _ => rfl
  rw [S207]
  simp (disch := omega) only [Kk, Kv, s204 hb (k := k) (t := t) ⟨h0, by omega⟩ ht, r1, B207_14, s204 hb (k := k) (t := 1 - t) ⟨h0, by omega⟩ (by omega), r2, B207_30, s205 hb (k := k) ⟨h0, by omega⟩ (R2 _ (lu _ _ _ (lu _ _ _ l0))) hW, B207_43, Kw, (hM.2.1 k h0 h1).2.1, B207_56, s206 C0 h0 h1, B207_68, B207_81, Ks, hR.2.2.2.1, hR.2.2.2.2.1, GA, GR, GRc, GO, GI, GL, GV, am_w_i, am_ga, am_it, am_if, true_and, and_true, or_true, true_or, ne_eq, not_false_eq_true, not_true_eq_false, false_imp_iff, true_imp_iff, Int.reduceEq, Int.reduceLT, Int.reduceLE, Int.reduceAdd, Int.reduceSub, Int.reduceMul, Int.reduceNeg]
  refine q _ (lu _ _ _ (lu _ _ _ (lu _ _ _ (lu _ _ _ (lu _ _ _ (lu _ _ _ (lu _ _ _ l0))))))) (fun j j0 j1 => ?_)
  rcases (show j = 0 ∨ j = 1 ∨ j = 2 ∨ j = 3 ∨ j = 4 ∨ j = 5 ∨ j = 6 by omega) with rfl | rfl | rfl | rfl | rfl | rfl | rfl <;> simp [am_up, px_nm]
theorem s209 {d : Nat} {w : Nat × Nat × Nat × Nat} {I L : Nat → Int → Int} {V : (Nat → Int → Int)} {lw : Int → (Int → Int) → Int} {F : Int → Int} {l wo most : Int} {nm : Int → Int} (C : MC I V lw F) (hl : 0 ≤ l ∧ l < 3) (hn : ∀ j, 0 ≤ j → j < 7 → L 125 j = nm j) (hb : nmb nm) (hm : 0 ≤ most ∧ most ≤ 1000000) {Q : Option am_V → am_H → Prop} (q : ∀ I' L', (I' = I ∨ ∃ v, I' = am_up I 99 53 v) → LN L L' → Q (some (vI (px_lim (lw l nm) most wo))) (mkH w I' L')) : am_Sp (d + 4) 209 [vR (some 99), vI l, vI wo, vI most] (mkH w I L) Q := by
  have C0 := C
  obtain ⟨hM, hL, hV, hF, -⟩ := C
  have ln : ∀ L', Fr (fun a => a = 126) L L' → LN L L' := fun L' f a x y => f a y
  rw [S209]
  rcases hL l hl.1 hl.2 with ⟨u1, u2⟩ | ⟨u1, m, u2, u3, u4, u5, u6, u7⟩
  · simp (disch := omega) only [Kk, Kl, u1, GA, GR, GRc, GO, GI, GL, GV, am_w_i, am_ga, am_it, am_if, true_and, and_true, or_true, true_or, ne_eq, not_false_eq_true, not_true_eq_false, false_imp_iff, true_imp_iff, Int.reduceEq, Int.reduceLT, Int.reduceLE, Int.reduceAdd, Int.reduceSub, Int.reduceMul, Int.reduceNeg]
    have := q I L (Or.inl rfl) (fun _ _ _ => rfl)
    rw [u2] at this
    unfold px_lim at this; rw [if_pos rfl] at this
    exact this
  · simp (disch := omega) only [Kk, Kl, u1, GA, GR, GRc, GO, GI, GL, GV, am_w_i, am_ga, am_it, am_if, true_and, and_true, or_true, true_or, ne_eq, not_false_eq_true, not_true_eq_false, false_imp_iff, true_imp_iff, Int.reduceEq, Int.reduceLT, Int.reduceLE, Int.reduceAdd, Int.reduceSub, Int.reduceMul, Int.reduceNeg]
    have u8 := u7 nm hb
    unfold px_mval at u8
    refine s208 hl u2 u3 u4 u5 u6 hn hb (fun L' f v z e b => ?_) (fun L' f z => ?_)
    · rw [z, if_neg (by decide), ← e] at u8
      have ne : lw l nm ≠ mE := by rw [← u8]; unfold mE lT at *; omega
      have := q _ L' (Or.inr ⟨0, rfl⟩) (ln L' f)
      unfold px_lim at this
      rw [if_neg ne, ← u8, clampe hm.1] at this
      simp (disch := omega) only [Kk, am_up_s, CMP, B209_53, GA, GR, GRc, GO, GI, GL, GV, am_w_i, am_ga, am_it, am_if, true_and, and_true, or_true, true_or, ne_eq, not_false_eq_true, not_true_eq_false, false_imp_iff, true_imp_iff, Int.reduceEq, Int.reduceLT, Int.reduceLE, Int.reduceAdd, Int.reduceSub, Int.reduceMul, Int.reduceNeg]
      refine ⟨fun c1 => ⟨fun c2 => ?_, fun c2 => ?_⟩, fun c1 => ?_⟩
      · rw [if_pos c1, if_pos c2] at this
        rw [am_w_i (by omega) (by omega)]; exact this
      · rw [if_pos c1, if_neg c2] at this; exact this
      · rw [if_neg c1] at this; exact this
    · rw [z, if_pos rfl] at u8
      have := q _ L' (Or.inr ⟨1, rfl⟩) (ln L' f)
      unfold px_lim at this
      rw [if_pos u8.symm] at this
      simp (disch := omega) only [Kk, am_up_s, GA, GR, GRc, GO, GI, GL, GV, am_w_i, am_ga, am_it, am_if, true_and, and_true, or_true, true_or, ne_eq, not_false_eq_true, not_true_eq_false, false_imp_iff, true_imp_iff, Int.reduceEq, Int.reduceLT, Int.reduceLE, Int.reduceAdd, Int.reduceSub, Int.reduceMul, Int.reduceNeg]
      exact this
