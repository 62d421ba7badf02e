/-! 35: the class Course -/
def RW (I : (Nat → Int → Int)) (s : Nat) (V : (Nat → Int → Int)) : Prop := (I s 0 = V 0 0 ∧ I s 5 = V 0 1 ∧ I s 11 = V 0 2) ∧ (∀ k, 0 ≤ k → k < V 0 0 → I (s + 1) k = V 1 k ∧ I (s + 2) k = V 2 k ∧ I (s + 3) k = V 3 k) ∧ (∀ k, 0 ≤ k → k < V 0 1 → I (s + 5) k = V 5 k ∧ I (s + 6) k = V 6 k ∧ I (s + 7) k = V 7 k ∧ I (s + 8) k = V 8 k ∧ I (s + 9) k = V 9 k) ∧ (∀ k, 0 ≤ k → k < V 0 2 → I (s + 10) k = V 10 k ∧ I (s + 11) k = V 11 k ∧ I (s + 12) k = V 12 k) ∧ (∀ k, 0 ≤ k → k < 2 → I (s + 14) k = V 14 k ∧ I (s + 13) k = V 13 k) ∧ (∀ k, 0 ≤ k → k < 12 → I (s + 4) k = V 4 k) ∧ I s 17 = V 0 3 ∧ I (s + 15) 2 = V 0 4
def nmb (nm : Int → Int) : Prop := ∀ j, 0 ≤ j → j < 7 → -1000000 ≤ nm j ∧ nm j ≤ 1000000
def RLl (I : (Nat → Int → Int)) (s : Nat) (lw : Int → (Int → Int) → Int) (l : Int) : Prop := (I (s + 17) l < 0 ∧ ∀ nm, lw l nm = mE) ∨ (∃ m : Nat, 0 ≤ I (s + 17) l ∧ I (s + 18) l = I (s + 17) l + m ∧ I (s + 18) l ≤ 64 ∧ (∀ j, I (s + 17) l ≤ j → j < I (s + 18) l → px_okr (I (s + 16) j)) ∧ ∀ nm, nmb nm → px_val (I (s + 16)) nm (I (s + 17) l) m = lw l nm)
def RLw (I : (Nat → Int → Int)) (s : Nat) (lw : Int → (Int → Int) → Int) : Prop := ∀ l, 0 ≤ l → l < 3 → RLl I s lw l
def RS (I : (Nat → Int → Int)) (s : Nat) (σ : (Nat → Int → Int)) : Prop := (∀ j, 0 ≤ j → j < 12 → I (s + 1) j = σ 1 j) ∧ (∀ j, 0 ≤ j → j < 2 → I (s + 2) j = σ 2 j) ∧ (∀ j, 0 ≤ j → j < 12 → I (s + 3) j = σ 3 j) ∧ I s 3 = σ 0 3 ∧ I s 4 = σ 0 4 ∧ I s 8 = σ 0 8
def CC (w : (Nat × Nat × Nat × Nat)) (I : (Nat → Int → Int)) (V : (Nat → Int → Int)) (lw : Int → (Int → Int) → Int) (F : Int → Int) : Prop := isW w.2.2.2 ∧ RW I w.2.2.2 V ∧ RLw I w.2.2.2 lw ∧ WV V ∧ (I 63 1 = F 1 ∧ I 63 2 = F 2 ∧ I 63 3 = F 3 ∧ I 63 4 = F 4 ∧ I 63 5 = F 5 ∧ (F 5 = -1 ∨ I 63 6 = F 6) ∧ I 63 7 = F 7) ∧ WF F
theorem isW_le {s : Nat} (h : isW s) : 2 ≤ s ∧ s + 20 ≤ 43 := by rcases h with rfl | rfl <;> omega
theorem isS_le {s : Nat} (h : isS s) : 51 ≤ s ∧ s ≤ 84 ∧ (s + 3 < 63 ∨ 67 < s) := by unfold isS at h; omega
theorem RW.fr {I I' : (Nat → Int → Int)} {s : Nat} {V : (Nat → Int → Int)} (h : RW I s V) (hf : ∀ a, s ≤ a → a ≤ s + 20 → I' a = I a) : RW I' s V := by
  unfold RW at h ⊢
  rw [hf s (by omega) (by omega), hf (s + 1) (by omega) (by omega), hf (s + 2) (by omega) (by omega), hf (s + 3) (by omega) (by omega), hf (s + 4) (by omega) (by omega), hf (s + 5) (by omega) (by omega), hf (s + 6) (by omega) (by omega), hf (s + 7) (by omega) (by omega), hf (s + 8) (by omega) (by omega), hf (s + 9) (by omega) (by omega), hf (s + 10) (by omega) (by omega), hf (s + 11) (by omega) (by omega), hf (s + 12) (by omega) (by omega), hf (s + 13) (by omega) (by omega), hf (s + 14) (by omega) (by omega), hf (s + 15) (by omega) (by omega)]
  exact h
theorem RLw.fr {I I' : (Nat → Int → Int)} {s : Nat} {lw : Int → (Int → Int) → Int} (h : RLw I s lw) (hf : ∀ a, s ≤ a → a ≤ s + 20 → I' a = I a) : RLw I' s lw := by
  unfold RLw RLl at h ⊢
  rw [hf (s + 16) (by omega) (by omega), hf (s + 17) (by omega) (by omega), hf (s + 18) (by omega) (by omega)]
  exact h
theorem RS.fr {I I' : (Nat → Int → Int)} {s : Nat} {σ : (Nat → Int → Int)} (h : RS I s σ) (hf : ∀ a, s ≤ a → a ≤ s + 3 → I' a = I a) : RS I' s σ := by
  unfold RS at h ⊢
  rw [hf s (by omega) (by omega), hf (s + 1) (by omega) (by omega), hf (s + 2) (by omega) (by omega), hf (s + 3) (by omega) (by omega)]
  exact h
theorem CC.fr {w : (Nat × Nat × Nat × Nat)} {I I' V : (Nat → Int → Int)} {lw : Int → (Int → Int) → Int} {F : Int → Int} (h : CC w I V lw F) (hf : ∀ a, a < 51 ∨ a = 63 → I' a = I a) : CC w I' V lw F := by
  obtain ⟨a, b, c, e, f, g⟩ := h
  have := isW_le a
  refine ⟨a, b.fr (fun q _ _ => hf q (by omega)), c.fr (fun q _ _ => hf q (by omega)), e, ?_, g⟩
  rw [hf 63 (by omega)]; exact f
theorem RS.u1 {I : (Nat → Int → Int)} {s : Nat} {σ : (Nat → Int → Int)} {i v : Int} (h : RS I s σ) : RS (am_up I (s + 1) i v) s (am_up σ 1 i v) := by
  obtain ⟨a, b, c, e⟩ := h
  refine ⟨fun j h1 h2 => ?_, ?_, ?_, ?_⟩
  · by_cases q : j = i
    · subst q; rw [am_up_s, am_up_s]
    · rw [am_up_n _ _ _ _ q, am_up_n _ _ _ _ q]; exact a j h1 h2
  · rw [am_up_a _ _ _ _ (by omega), am_up_a _ _ _ _ (by omega)]; exact b
  · rw [am_up_a _ _ _ _ (by omega), am_up_a _ _ _ _ (by omega)]; exact c
  · rw [am_up_a _ _ _ _ (by omega), am_up_a _ _ _ _ (by omega)]; exact e
theorem RS.u2 {I : (Nat → Int → Int)} {s : Nat} {σ : (Nat → Int → Int)} {i v : Int} (h : RS I s σ) : RS (am_up I (s + 2) i v) s (am_up σ 2 i v) := by
  obtain ⟨a, b, c, e⟩ := h
  refine ⟨?_, fun j h1 h2 => ?_, ?_, ?_⟩
  · rw [am_up_a _ _ _ _ (by omega), am_up_a _ _ _ _ (by omega)]; exact a
  · by_cases q : j = i
    · subst q; rw [am_up_s, am_up_s]
    · rw [am_up_n _ _ _ _ q, am_up_n _ _ _ _ q]; exact b j h1 h2
  · rw [am_up_a _ _ _ _ (by omega), am_up_a _ _ _ _ (by omega)]; exact c
  · rw [am_up_a _ _ _ _ (by omega), am_up_a _ _ _ _ (by omega)]; exact e
theorem RS.u3 {I : (Nat → Int → Int)} {s : Nat} {σ : (Nat → Int → Int)} {i v : Int} (h : RS I s σ) : RS (am_up I (s + 3) i v) s (am_up σ 3 i v) := by
  obtain ⟨a, b, c, e⟩ := h
  refine ⟨?_, ?_, fun j h1 h2 => ?_, ?_⟩
  · rw [am_up_a _ _ _ _ (by omega), am_up_a _ _ _ _ (by omega)]; exact a
  · rw [am_up_a _ _ _ _ (by omega), am_up_a _ _ _ _ (by omega)]; exact b
  · by_cases q : j = i
    · subst q; rw [am_up_s, am_up_s]
    · rw [am_up_n _ _ _ _ q, am_up_n _ _ _ _ q]; exact c j h1 h2
  · rw [am_up_a _ _ _ _ (by omega), am_up_a _ _ _ _ (by omega)]; exact e
theorem RS.u0 {I : (Nat → Int → Int)} {s : Nat} {σ : (Nat → Int → Int)} {i v : Int} (h : RS I s σ) : RS (am_up I s i v) s (am_up σ 0 i v) := by
  obtain ⟨a, b, c, e⟩ := h
  refine ⟨?_, ?_, ?_, ?_⟩
  · rw [am_up_a _ _ _ _ (by omega), am_up_a _ _ _ _ (by omega)]; exact a
  · rw [am_up_a _ _ _ _ (by omega), am_up_a _ _ _ _ (by omega)]; exact b
  · rw [am_up_a _ _ _ _ (by omega), am_up_a _ _ _ _ (by omega)]; exact c
  · unfold am_up; obtain ⟨e1, e2, e3⟩ := e
    refine ⟨?_, ?_, ?_⟩ <;> simp only [true_and] <;> split <;> first | rfl | assumption
/-- a field that no picture has -/
theorem RS.ux {I : (Nat → Int → Int)} {s : Nat} {σ : (Nat → Int → Int)} {i v : Int} (h : RS I s σ) (hi : 5 ≤ i ∧ i ≤ 7) : RS (am_up I s i v) s σ := by
  obtain ⟨a, b, c, e⟩ := h
  refine ⟨?_, ?_, ?_, ?_⟩
  · rw [am_up_a _ _ _ _ (by omega)]; exact a
  · rw [am_up_a _ _ _ _ (by omega)]; exact b
  · rw [am_up_a _ _ _ _ (by omega)]; exact c
  · rw [am_up_n _ _ _ _ (by omega), am_up_n _ _ _ _ (by omega), am_up_n _ _ _ _ (by omega)]; exact e
theorem RS.bA {I : (Nat → Int → Int)} {s : Nat} {σ : (Nat → Int → Int)} (h : RS I s σ) (hb : bA (σ 1)) : bA (I (s + 1)) := fun j h1 h2 => by rw [h.1 j h1 h2]; exact hb j h1 h2
def LF (L L' : (Nat → Int → Int)) : Prop := Fr (fun a => a = 21 ∨ a = 22 ∨ a = 42 ∨ a = 43) L L'
theorem s2 {d : Nat} {w : Nat × Nat × Nat × Nat} {I L : Nat → Int → Int} {V : (Nat → Int → Int)} {lw : Int → (Int → Int) → Int} {F : Int → Int} {k : Int} (C : CC w I V lw F) (h0 : 0 ≤ k) (h1 : k < V 0 0) (Q : Option am_V → am_H → Prop) : am_Sp d 2 [vR (some 63), vI k] (mkH w I L) Q ↔ Q (some (vI (px_hl V F k))) (mkH w I L) := by
  obtain ⟨hw, hR, -, hV, hF, -⟩ := C
  have := hV.1.1.2
  rw [S2]
  unfold px_hl
  simp (disch := omega) only [B2_24, KC, HW hw, (hR.2.1 k h0 h1).2.2, hF.2.2.2.2.1, GA, GR, GRc, GO, GI, GL, GV, am_w_i, am_ga, am_it, am_if, true_and, and_true, or_true, true_or, ne_eq, not_false_eq_true, not_true_eq_false, false_imp_iff, true_imp_iff, Int.reduceEq, Int.reduceLT, Int.reduceLE, Int.reduceAdd, Int.reduceSub, Int.reduceMul, Int.reduceNeg]
  rcases hF.2.2.2.2.2.1 with e | e
  · have : ¬ k = F 5 := by omega
    simp only [this, not_false_eq_true, true_imp_iff, not_true_eq_false, false_imp_iff, and_true, if_false]
  · simp only [e, am_iteI, ite_not]
theorem s4 {d : Nat} {h : am_H} {v most wo : Int} (hm : 0 ≤ most ∧ most ≤ 1000000) (Q : Option am_V → am_H → Prop) : am_Sp d 4 [vL v, vI most, vI wo] h Q ↔ Q (some (vI (px_lim v most wo))) h := by
  have e : am_w (am_max 0 (am_min most v)) = am_max 0 (am_min most v) := by
    refine am_w_i ?_ ?_ <;> unfold am_max am_min <;> split <;> split <;> omega
  unfold px_lim mE
  simp (disch := omega) only [S4, B4_23, CMP, e, am_iteI, ite_not, GA, GR, GRc, GO, GI, GL, GV, am_w_i, am_ga, am_it, am_if, true_and, and_true, or_true, true_or, ne_eq, not_false_eq_true, not_true_eq_false, false_imp_iff, true_imp_iff, Int.reduceEq, Int.reduceLT, Int.reduceLE, Int.reduceAdd, Int.reduceSub, Int.reduceMul, Int.reduceNeg]
theorem iabs_b {x c : Int} (h : -c ≤ x ∧ x ≤ c) : 0 ≤ iabs x ∧ iabs x ≤ c := by unfold iabs; split <;> omega
theorem px_nm_b {V σ : (Nat → Int → Int)} {F : Int → Int} {D k t : Int} (hV : WV V) (hF : WF F) (hW : WS D σ) (h0 : 0 ≤ k) (h1 : k < V 0 0) (ht : 0 ≤ t ∧ t < 2) : nmb (px_nm V F σ k t) := by
  have h6 := hV.1.1.2
  obtain ⟨a, b, c, e, f, g⟩ := hW
  intro j j0 j1
  have a0 := a (2 * k + t) (by omega) (by omega)
  have a1 := a (2 * k + (1 - t)) (by omega) (by omega)
  have a2 := a (2 * k) (by omega) (by omega)
  have a3 := a (2 * k + 1) (by omega) (by omega)
  have a4 := iabs_b (x := σ 1 (2 * k) - σ 1 (2 * k + 1)) (c := 2000) (by omega)
  have a5 := hV.2.1 k h0 h1
  have a6 := px_hl_b hV hF h0 h1
  unfold px_nm px_gap
  split
  · omega
  · split
    · omega
    · split
      · omega
      · split
        · omega
        · split
          · omega
          · split <;> omega
set_option maxHeartbeats 1000000 in
theorem s3 {d : Nat} {w : Nat × Nat × Nat × Nat} {I L : Nat → Int → Int} {V σ : (Nat → Int → Int)} {lw : Int → (Int → Int) → Int} {F : Int → Int} {s : Nat} {D l k t : Int} (C : CC w I V lw F) (hs : isS s) (hR : RS I s σ) (hW : WS D σ) (hl : 0 ≤ l ∧ l < 3) (h0 : 0 ≤ k) (h1 : k < V 0 0) (ht : 0 ≤ t ∧ t < 2) {Q : Option am_V → am_H → Prop} (q : ∀ L', LF L L' → Q (some (vL (lw l (px_nm V F σ k t)))) (mkH w I L')) : am_Sp (d + 3) 3 [vR (some 63), vR (some s), vI l, vI k, vI t] (mkH w I L) Q := by
  have hb := px_nm_b (t := t) C.2.2.2.1 C.2.2.2.2.2 hW h0 h1 ht
  have hA := hR.bA hW.1
  have C0 := C
  obtain ⟨hw, hRW, hRL, hV, hF, hWF⟩ := C
  have h6 := hV.1.1.2
  have e1 : isW w.2.2.2 := hw
  rw [S3]
  simp (disch := omega) only [KC, HW hw, s14 hw hl, GA, GR, GRc, GO, GI, GL, GV, am_w_i, am_ga, am_it, am_if, true_and, and_true, or_true, true_or, ne_eq, not_false_eq_true, not_true_eq_false, false_imp_iff, true_imp_iff, Int.reduceEq, Int.reduceLT, Int.reduceLE, Int.reduceAdd, Int.reduceSub, Int.reduceMul, Int.reduceNeg]
  rcases hRL l hl.1 hl.2 with ⟨u1, u2⟩ | ⟨m, u1, u2, u3, u4, u5⟩
  · rw [if_pos u1]
    simp (disch := omega) only [GA, GR, GRc, GO, GI, GL, GV, am_w_i, am_ga, am_it, am_if, true_and, and_true, or_true, true_or, ne_eq, not_false_eq_true, not_true_eq_false, false_imp_iff, true_imp_iff, Int.reduceEq, Int.reduceLT, Int.reduceLE, Int.reduceAdd, Int.reduceSub, Int.reduceMul, Int.reduceNeg]
    have := q L Fr.rf
    rw [u2] at this
    exact this
  · rw [if_neg (by omega)]
    simp (disch := omega) only [KC, HS hs, s59 hs (k := k) (t := t) ⟨h0, by omega⟩ ht, B3_41, s59 hs (k := k) (t := 1 - t) ⟨h0, by omega⟩ (by omega), B3_55, s62 hs (k := k) ⟨h0, by omega⟩ hA, B3_65, (hRW.2.1 k h0 h1).2.1, B3_79, s2 C0 h0 h1, B3_89, B3_98, B3_108, HW hw, GA, GR, GRc, GO, GI, GL, GV, am_w_i, am_ga, am_it, am_if, true_and, and_true, or_true, true_or, ne_eq, not_false_eq_true, not_true_eq_false, false_imp_iff, true_imp_iff, Int.reduceEq, Int.reduceLT, Int.reduceLE, Int.reduceAdd, Int.reduceSub, Int.reduceMul, Int.reduceNeg]
    refine s15 (m := m) (nm := px_nm V F σ k t) hw hl u1 u2 u3 u4 ?_ (fun j j0 j1 => by have := hb j j0 j1; unfold lT; omega) (fun L' f => ?_)
    · intro j j0 j1
      obtain ⟨r1, r2, r3, r4, r5, r6⟩ := hR
      have q1 := r1 (2 * k + t) (by omega) (by omega)
      have q2 := r1 (2 * k + (1 - t)) (by omega) (by omega)
      have q3 := r1 (2 * k) (by omega) (by omega)
      have q4 := r1 (2 * k + 1) (by omega) (by omega)
      rcases (show j = 0 ∨ j = 1 ∨ j = 2 ∨ j = 3 ∨ j = 4 ∨ j = 5 ∨ j = 6 by omega) with rfl | rfl | rfl | rfl | rfl | rfl | rfl <;> simp [am_up, px_nm, px_gap, q1, q2, q3, q4, r4, r5]
    · rw [u5 _ hb]
      refine q L' ?_
      intro a ha
      have hw2 : w.2.2.2 = 2 ∨ w.2.2.2 = 23 := hw
      rw [f a (by omega), am_up_a _ _ _ _ (by omega), am_up_a _ _ _ _ (by omega), am_up_a _ _ _ _ (by omega), am_up_a _ _ _ _ (by omega), am_up_a _ _ _ _ (by omega), am_up_a _ _ _ _ (by omega), am_up_a _ _ _ _ (by omega)]
