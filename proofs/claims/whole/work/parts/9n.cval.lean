/-! 9n: an E, the class -/
theorem s50 {d : Nat} {h : am_H} {x : Int} (Q : Option am_V → am_H → Prop) : am_Sp d 50 [vI x] h Q ↔ Q (some (vI (bdC x))) h := by
  simp only [S50, am_iteI]; rfl
/-- cells that a picture of the text has nothing of -/
theorem PX.f2 {w : (Nat × Nat × Nat × Nat)} {I I' X : (Nat → Int → Int)} (h : PX w I X) (hW : isW w.2.2.1) (f : ∀ a, a < 44 → I' a = I a) (g : ∀ j, j = 0 ∨ j = 1 ∨ j = 5 ∨ j = 6 → I' 44 j = I 44 j) : PX w I' X := by
  have hl := isW_le hW
  unfold PX at h ⊢
  rw [f _ (by omega), f (w.2.2.1 + 15) (by omega), g 5 (by decide), g 6 (by decide), g 0 (by decide), g 1 (by decide), f (w.2.2.1 + 16) (by omega), f (w.2.2.1 + 17) (by omega), f (w.2.2.1 + 18) (by omega)]
  exact ⟨h.1, h.2.1, fun a x y => by rw [f _ (by omega)]; exact h.2.2.1 a x y, h.2.2.2⟩
theorem PX.z {w : (Nat × Nat × Nat × Nat)} {I X : (Nat → Int → Int)} {a : Nat} {i v : Int} (h : PX w I X) (ha : 19 ≤ a ∨ (a = 0 ∧ 8 ≤ i ∧ i ≤ 10)) : PX w I (am_up X a i v) := by
  have z0 : ∀ j, j < 8 ∨ 11 ≤ j → am_up X a i v 0 j = X 0 j := fun j hj => by
    by_cases c : a = 0
    · subst c; rw [am_up_n _ _ _ _ (by omega)]
    · rw [am_up_a _ _ _ _ (Ne.symm c)]
  have za : ∀ b, 1 ≤ b → b ≤ 18 → am_up X a i v b = X b := fun b h1 h2 => am_up_a _ _ _ _ (by omega)
  unfold PX at h ⊢
  rw [z0 0 (by decide), z0 1 (by decide), z0 2 (by decide), z0 3 (by decide), z0 4 (by decide), z0 5 (by decide), z0 6 (by decide), z0 7 (by decide), z0 11 (by decide), z0 12 (by decide), za 16 (by decide) (by decide), za 17 (by decide) (by decide), za 18 (by decide) (by decide)]
  exact ⟨h.1, h.2.1, fun b x y => by rw [za b x (by omega)]; exact h.2.2.1 b x y, h.2.2.2⟩
theorem PX.k {w : (Nat × Nat × Nat × Nat)} {I X : (Nat → Int → Int)} {i j v : Int} (h : PX w I X) (hW : isW w.2.2.1) (hi : (i = 2 ∧ j = 4) ∨ (i = 1 ∧ j = 6)) : PX w (am_up I (w.2.2.1 + 15) i v) (am_up X 0 j v) := by
  have hl := isW_le hW
  obtain ⟨⟨p1, p2, p3, p4, p5, p6⟩, q, r, t⟩ := h
  unfold PX
  rw [am_up_a I _ _ _ (show w.2.2.1 ≠ w.2.2.1 + 15 by omega), am_up_a I _ _ _ (show 44 ≠ w.2.2.1 + 15 by omega), am_up_a I _ _ _ (show w.2.2.1 + 16 ≠ w.2.2.1 + 15 by omega), am_up_a I _ _ _ (show w.2.2.1 + 17 ≠ w.2.2.1 + 15 by omega), am_up_a I _ _ _ (show w.2.2.1 + 18 ≠ w.2.2.1 + 15 by omega), am_up_a X _ _ _ (show 16 ≠ 0 by omega), am_up_a X _ _ _ (show 17 ≠ 0 by omega), am_up_a X _ _ _ (show 18 ≠ 0 by omega)]
  refine ⟨?_, ?_, fun b x y => by rw [am_up_a I _ _ _ (by omega), am_up_a X _ _ _ (by omega)]; exact r b x y, ?_⟩
  · rcases hi with ⟨rfl, rfl⟩ | ⟨rfl, rfl⟩ <;> simp [am_up, p1, p2, p3, p4, p5, p6]
  · rcases hi with ⟨rfl, rfl⟩ | ⟨rfl, rfl⟩ <;> simp [am_up, q]
  · rcases hi with ⟨rfl, rfl⟩ | ⟨rfl, rfl⟩ <;> simp [am_up, t]
theorem PX.l {w : (Nat × Nat × Nat × Nat)} {I X : (Nat → Int → Int)} {a : Nat} {j v : Int} (h : PX w I X) (hW : isW w.2.2.1) (h1 : 16 ≤ a) (h2 : a ≤ 18) : PX w (am_up I (w.2.2.1 + a) j v) (am_up X a j v) := by
  have hl := isW_le hW
  obtain ⟨p, q, r, t⟩ := h
  unfold PX
  rw [am_up_a I _ _ _ (show w.2.2.1 ≠ w.2.2.1 + a by omega), am_up_a I _ _ _ (show w.2.2.1 + 15 ≠ w.2.2.1 + a by omega), am_up_a I _ _ _ (show 44 ≠ w.2.2.1 + a by omega), am_up_a X _ _ _ (show 0 ≠ a by omega)]
  refine ⟨p, q, fun b x y => by rw [am_up_a I _ _ _ (by omega), am_up_a X _ _ _ (by omega)]; exact r b x y, ?_⟩
  have al : ∀ b, b = 16 ∨ b = 17 ∨ b = 18 → I (w.2.2.1 + b) = X b → am_up I (w.2.2.1 + a) j v (w.2.2.1 + b) = am_up X a j v b := fun b _ e => by
    by_cases c : b = a
    · subst c; rw [am_up_px, am_up_px, e]
    · rw [am_up_a _ _ _ _ (by omega), am_up_a _ _ _ _ c]; exact e
  exact ⟨al 16 (by omega) t.1, al 17 (by omega) t.2.1, al 18 (by omega) t.2.2.1, t.2.2.2⟩
theorem PX.gr {w : (Nat × Nat × Nat × Nat)} {I X : (Nat → Int → Int)} {r k p o : Int} (h : PX w I X) (hW : isW w.2.2.1) : PX w (am_up (am_up I (w.2.2.1 + 16) (X 0 6) r) (w.2.2.1 + 15) 1 (X 0 6 + 1)) (eGr X r k p o) := by
  unfold eGr
  exact PX.k ((((((h.l hW (by decide) (by decide)).z (by omega)).z (by omega)).z (by omega)).z (by omega)).z (by omega)) hW (by decide)
/-- the class while an E is read -/
def EC (w : (Nat × Nat × Nat × Nat)) (I X : (Nat → Int → Int)) : Prop := PX w I X ∧ (I 44 8 = X 0 8 ∧ I 44 9 = X 0 10) ∧ ∀ j, 0 ≤ j → j < X 0 8 → I 50 j = X 22 j
theorem EC.ct {w : (Nat × Nat × Nat × Nat)} {I X : (Nat → Int → Int)} (h : EC w I X) (hW : isW w.2.2.1) : EC w (am_up I (w.2.2.1 + 15) 2 (X 0 4 + 1)) (eCt X) := by
  have hl := isW_le hW
  refine ⟨h.1.k hW (by decide), ?_, ?_⟩
  · unfold eCt; rw [am_up_a _ _ _ _ (by omega), am_up_n _ _ _ _ (by decide), am_up_n _ _ _ _ (by decide)]; exact h.2.1
  · unfold eCt; rw [am_up_a _ _ _ _ (b := 50) (by omega), am_up_n _ _ _ _ (by decide), am_up_a _ _ _ _ (by decide)]; exact h.2.2
theorem EC.ps {w : (Nat × Nat × Nat × Nat)} {I X : (Nat → Int → Int)} {v : Int} (h : EC w I X) (hW : isW w.2.2.1) : EC w (am_up (am_up I 50 (X 0 8) v) 44 8 (X 0 8 + 1)) (ePs X v) := by
  have hl := isW_le hW
  unfold ePs
  refine ⟨PX.z (PX.z (h.1.f2 hW (fun a ha => by rw [am_up_a _ _ _ _ (by omega), am_up_a _ _ _ _ (by omega)]) (fun j hj => by rw [am_up_n _ _ _ _ (by omega), am_up_a _ _ _ _ (by decide)])) (by omega)) (by omega), ⟨?_, ?_⟩, fun j j0 j1 => ?_⟩
  · rw [am_up_s, am_up_s]
  · simp (disch := decide) only [am_up_a, am_up_n]; exact h.2.1.2
  · rw [am_up_s] at j1
    simp (disch := decide) only [am_up_a]
    by_cases c : j = X 0 8
    · rw [c, am_up_s, am_up_s]
    · rw [am_up_n _ _ _ _ c, am_up_n _ _ _ _ c]; exact h.2.2 j j0 (by omega)
theorem EC.gr {w : (Nat × Nat × Nat × Nat)} {I X : (Nat → Int → Int)} {r k p o : Int} (h : EC w I X) (hW : isW w.2.2.1) : EC w (am_up (am_up I (w.2.2.1 + 16) (X 0 6) r) (w.2.2.1 + 15) 1 (X 0 6 + 1)) (eGr X r k p o) := by
  have hl := isW_le hW
  have e := eGr_e (X := X) (r := r) (k := k) (p := p) (o := o)
  refine ⟨h.1.gr hW, ?_, ?_⟩
  · rw [am_up_a _ _ _ _ (by omega), am_up_a _ _ _ _ (by omega), e.1.2.2.1, e.1.2.2.2.1]; exact h.2.1
  · rw [am_up_a _ _ _ _ (by omega), am_up_a _ _ _ _ (by omega), e.1.2.2.1, e.2.1.1]; exact h.2.2
/-- fewer signs wait -/
theorem EC.pn {w : (Nat × Nat × Nat × Nat)} {I X : (Nat → Int → Int)} {n : Int} (h : EC w I X) (hW : isW w.2.2.1) : EC w (am_up I 44 8 (X 0 8 - 1)) (ePn X n) := by
  have hl := isW_le hW
  unfold ePn
  refine ⟨PX.z (PX.z (h.1.f2 hW (fun a ha => by rw [am_up_a _ _ _ _ (by omega)]) (fun j hj => by rw [am_up_n _ _ _ _ (by omega)])) (by decide)) (by decide), ⟨?_, ?_⟩, fun j j0 j1 => ?_⟩
  · rw [am_up_s, am_up_n _ _ _ _ (by decide), am_up_s]
  · rw [am_up_n _ _ _ _ (by decide), am_up_n _ _ _ _ (by decide), am_up_n _ _ _ _ (by decide)]; exact h.2.1.2
  · rw [am_up_n _ _ _ _ (by decide), am_up_s] at j1
    rw [am_up_a _ _ _ _ (by decide), am_up_a _ _ _ _ (by decide), am_up_a _ _ _ _ (by decide)]
    exact h.2.2 j j0 (by omega)
theorem EC.at {w : (Nat × Nat × Nat × Nat)} {I X : (Nat → Int → Int)} {i v : Int} (h : EC w I X) (hW : isW w.2.2.1) (hi : i = 3) : EC w (am_up I 44 i v) X := by
  refine ⟨h.1.f2 hW (fun a ha => by rw [am_up_a _ _ _ _ (by omega)]) (fun j hj => by rw [am_up_n _ _ _ _ (by omega)]), ⟨?_, ?_⟩, fun j j0 j1 => ?_⟩
  · rw [am_up_n _ _ _ _ (by omega)]; exact h.2.1.1
  · rw [am_up_n _ _ _ _ (by omega)]; exact h.2.1.2
  · rw [am_up_a _ _ _ _ (by decide)]; exact h.2.2 j j0 j1
theorem EC.o {w : (Nat × Nat × Nat × Nat)} {I X : (Nat → Int → Int)} {v : Int} (h : EC w I X) (hW : isW w.2.2.1) : EC w (am_up I 44 9 v) (am_up X 0 10 v) := by
  refine ⟨PX.z (h.1.f2 hW (fun a ha => by rw [am_up_a _ _ _ _ (by omega)]) (fun j hj => by rw [am_up_n _ _ _ _ (by omega)])) (by decide), ⟨?_, ?_⟩, fun j j0 j1 => ?_⟩
  · rw [am_up_n _ _ _ _ (by omega), am_up_n _ _ _ _ (by decide)]; exact h.2.1.1
  · rw [am_up_s, am_up_s]
  · rw [am_up_n _ _ _ _ (by decide)] at j1
    rw [am_up_a _ _ _ _ (by decide), am_up_a _ _ _ _ (by decide)]; exact h.2.2 j j0 j1
theorem eP1_6 {X : (Nat → Int → Int)} : eP1 X 0 6 = X 0 6 + 1 := by
  have p6 : ∀ m, ePn X m 0 6 = X 0 6 := fun m => by unfold ePn; rw [am_up_n _ _ _ _ (by decide), am_up_n _ _ _ _ (by decide)]
  unfold eP1; split <;> rw [eGr_e.1.1, p6]
theorem EC.p1 {w : (Nat × Nat × Nat × Nat)} {I X : (Nat → Int → Int)} (h : EC w I X) (hW : isW w.2.2.1) : EC w (am_up (am_up (am_up I (w.2.2.1 + 16) (X 0 6) (-(X 22 (X 0 8 - 1)))) (w.2.2.1 + 15) 1 (X 0 6 + 1)) 44 8 (X 0 8 - 1)) (eP1 X) := by
  have hl := isW_le hW
  have sw : am_up (am_up (am_up I (w.2.2.1 + 16) (X 0 6) (-(X 22 (X 0 8 - 1)))) (w.2.2.1 + 15) 1 (X 0 6 + 1)) 44 8 (X 0 8 - 1) = am_up (am_up (am_up I 44 8 (X 0 8 - 1)) (w.2.2.1 + 16) (X 0 6) (-(X 22 (X 0 8 - 1)))) (w.2.2.1 + 15) 1 (X 0 6 + 1) := by
    funext b j; unfold am_up
    by_cases c : b = 44
    · subst c; rw [if_neg (show ¬ (44 = w.2.2.1 + 15 ∧ j = 1) by omega), if_neg (show ¬ (44 = w.2.2.1 + 15 ∧ j = 1) by omega), if_neg (show ¬ (44 = w.2.2.1 + 16 ∧ j = X 0 6) by omega), if_neg (show ¬ (44 = w.2.2.1 + 16 ∧ j = X 0 6) by omega)]
    · rw [if_neg (show ¬ (b = 44 ∧ j = 8) by omega), if_neg (show ¬ (b = 44 ∧ j = 8) by omega)]
  have p6 : ∀ m, ePn X m 0 6 = X 0 6 := fun m => by unfold ePn; rw [am_up_n _ _ _ _ (by decide), am_up_n _ _ _ _ (by decide)]
  rw [sw]
  unfold eP1
  by_cases c : X 22 (X 0 8 - 1) = 113
  · rw [if_pos c, c]
    have := (h.pn (n := 1) hW).gr (r := -113) (k := 2) (p := X 23 (X 0 9 - 1)) (o := -1) hW
    rw [p6] at this; exact this
  · rw [if_neg c]
    have := (h.pn (n := 2) hW).gr (r := -(X 22 (X 0 8 - 1))) (k := mpC (X 22 (X 0 8 - 1))) (p := X 23 (X 0 9 - 2)) (o := X 23 (X 0 9 - 1)) hW
    rw [p6] at this; exact this
theorem s46a {d : Nat} {w : Nat × Nat × Nat × Nat} {I L : Nat → Int → Int} (hW : isW w.2.2.1) (h : 0 ≤ I (w.2.2.1 + 15) 2 ∧ I (w.2.2.1 + 15) 2 < 64) (Q : Option am_V → am_H → Prop) : am_Sp d 46 [vR (some 44)] (mkH w I L) Q ↔ Q (some (vI 1)) (mkH w (am_up I (w.2.2.1 + 15) 2 (I (w.2.2.1 + 15) 2 + 1)) L) := by
  rw [S46]; simp (disch := omega) only [KP, HW hW, B46_33, GA, GR, GRc, GO, GI, GL, GV, am_w_i, am_ga, am_it, am_if, true_and, and_true, or_true, true_or, ne_eq, not_false_eq_true, not_true_eq_false, false_imp_iff, true_imp_iff, Int.reduceEq, Int.reduceLT, Int.reduceLE, Int.reduceAdd, Int.reduceSub, Int.reduceMul, Int.reduceNeg]
theorem s46b {d : Nat} {w : Nat × Nat × Nat × Nat} {I L : Nat → Int → Int} (hW : isW w.2.2.1) (h : ¬ I (w.2.2.1 + 15) 2 < 64) (Q : Option am_V → am_H → Prop) : am_Sp d 46 [vR (some 44)] (mkH w I L) Q ↔ Q (some (vI 0)) (mkH w I L) := by
  rw [S46]; simp (disch := omega) only [KP, HW hW, B46_33, GA, GR, GRc, GO, GI, GL, GV, am_w_i, am_ga, am_it, am_if, true_and, and_true, or_true, true_or, ne_eq, not_false_eq_true, not_true_eq_false, false_imp_iff, true_imp_iff, Int.reduceEq, Int.reduceLT, Int.reduceLE, Int.reduceAdd, Int.reduceSub, Int.reduceMul, Int.reduceNeg]
theorem s47 {d : Nat} {w : Nat × Nat × Nat × Nat} {I L : Nat → Int → Int} {v : Int} (h : 0 ≤ I 44 8 ∧ I 44 8 < 72) (Q : Option am_V → am_H → Prop) : am_Sp d 47 [vR (some 44), vI v] (mkH w I L) Q ↔ Q none (mkH w (am_up (am_up I 50 (I 44 8) v) 44 8 (I 44 8 + 1)) L) := by
  rw [S47]; simp (disch := omega) only [KP, B47_22, am_up_a, GA, GR, GRc, GO, GI, GL, GV, am_w_i, am_ga, am_it, am_if, true_and, and_true, or_true, true_or, ne_eq, not_false_eq_true, not_true_eq_false, false_imp_iff, true_imp_iff, Int.reduceEq, Int.reduceLT, Int.reduceLE, Int.reduceAdd, Int.reduceSub, Int.reduceMul, Int.reduceNeg]
theorem s48 {d : Nat} {w : Nat × Nat × Nat × Nat} {I L : Nat → Int → Int} (h : 0 ≤ I 44 8 ∧ I 44 8 ≤ 72) (Q : Option am_V → am_H → Prop) : am_Sp d 48 [vR (some 44)] (mkH w I L) Q ↔ Q (some (vI (if 0 < I 44 8 then I 50 (I 44 8 - 1) else 0))) (mkH w I L) := by
  rw [S48]
  by_cases c : 0 < I 44 8
  · simp (disch := omega) only [KP, B48_22, if_true, c, GA, GR, GRc, GO, GI, GL, GV, am_w_i, am_ga, am_it, am_if, true_and, and_true, or_true, true_or, ne_eq, not_false_eq_true, not_true_eq_false, false_imp_iff, true_imp_iff, Int.reduceEq, Int.reduceLT, Int.reduceLE, Int.reduceAdd, Int.reduceSub, Int.reduceMul, Int.reduceNeg]
  · simp (disch := omega) only [KP, B48_22, if_false, c, GA, GR, GRc, GO, GI, GL, GV, am_w_i, am_ga, am_it, am_if, true_and, and_true, or_true, true_or, ne_eq, not_false_eq_true, not_true_eq_false, false_imp_iff, true_imp_iff, Int.reduceEq, Int.reduceLT, Int.reduceLE, Int.reduceAdd, Int.reduceSub, Int.reduceMul, Int.reduceNeg]
theorem c_rl {d : Nat} {w : (Nat × Nat × Nat × Nat)} {L : (Nat → Int → Int)} {a0 least : Int} {Q : Option am_V → am_H → Prop} (hW : isW w.2.2.1) : ∀ (m : Nat) (I X : (Nat → Int → Int)), EC w I X → EI a0 0 X → X 0 8 = m → (∀ I', CW w I I' → EC w I' (eRl least m X) → I' 44 3 = I 44 3 → Q none (mkH w I' L)) → am_WP (d + 1) 49 7 [some (vR (some 44)), some (vI least), some (vI (X 0 8 - 1))] [] (mkH w I L) Q
  | 0, I, X, hc, he, e8, q => by
    have z := q I CW.rf hc rfl
    clear q he
    rw [B49_7]
    first | (simp (disch := omega) only [GA, GR, GRc, GO, GI, GL, GV, am_w_i, am_ga, am_it, am_if, true_and, and_true, or_true, true_or, ne_eq, not_false_eq_true, not_true_eq_false, false_imp_iff, true_imp_iff, Int.reduceEq, Int.reduceLT, Int.reduceLE, Int.reduceAdd, Int.reduceSub, Int.reduceMul, Int.reduceNeg]; exact z) | simp (disch := omega) only [z, GA, GR, GRc, GO, GI, GL, GV, am_w_i, am_ga, am_it, am_if, true_and, and_true, or_true, true_or, ne_eq, not_false_eq_true, not_true_eq_false, false_imp_iff, true_imp_iff, Int.reduceEq, Int.reduceLT, Int.reduceLE, Int.reduceAdd, Int.reduceSub, Int.reduceMul, Int.reduceNeg]
  | m + 1, I, X, hc, he, e8, q => by
    have hl := isW_le hW
    have bd := he.bd (by decide)
    have ew : I 50 (X 0 8 - 1) = X 22 (X 0 8 - 1) := hc.2.2 _ (by omega) (by omega)
    have wc := wcd_r (he.2.1 (X 0 8 - 1) (by omega) (by omega))
    have e6 : I (w.2.2.1 + 15) 1 = X 0 6 := hc.1.1.2.2.2.2.2
    have e44 : I 44 8 = X 0 8 := hc.2.1.1
    rw [eRl] at q
    rw [B49_7]
    by_cases c1 : X 22 (X 0 8 - 1) = 40
    · rw [if_neg (fun z => z.1 c1)] at q
      have z := q I CW.rf hc rfl
      clear q he
      first | (simp (disch := omega) only [KP, ew, c1, GA, GR, GRc, GO, GI, GL, GV, am_w_i, am_ga, am_it, am_if, true_and, and_true, or_true, true_or, ne_eq, not_false_eq_true, not_true_eq_false, false_imp_iff, true_imp_iff, Int.reduceEq, Int.reduceLT, Int.reduceLE, Int.reduceAdd, Int.reduceSub, Int.reduceMul, Int.reduceNeg]; exact z) | simp (disch := omega) only [KP, ew, c1, z, GA, GR, GRc, GO, GI, GL, GV, am_w_i, am_ga, am_it, am_if, true_and, and_true, or_true, true_or, ne_eq, not_false_eq_true, not_true_eq_false, false_imp_iff, true_imp_iff, Int.reduceEq, Int.reduceLT, Int.reduceLE, Int.reduceAdd, Int.reduceSub, Int.reduceMul, Int.reduceNeg]
    · by_cases c2 : least ≤ bdC (X 22 (X 0 8 - 1))
      · rw [if_pos ⟨c1, c2⟩] at q
        have p := he.p1 (by omega) c1
        have pb := p.1.bd (by decide)
        rw [eP1_6, p.2.2.2.2] at pb
        have ih := c_rl (d := d) (L := L) (least := least) (Q := Q) hW m (am_up (am_up (am_up I (w.2.2.1 + 16) (X 0 6) (-(X 22 (X 0 8 - 1)))) (w.2.2.1 + 15) 1 (X 0 6 + 1)) 44 8 (X 0 8 - 1)) (eP1 X) (hc.p1 hW) p.1 (by omega) (fun I' f1 f2 f3 => q I' ((((CW.rf.up (by omega)).up (by omega)).up (by omega)).tr f1) f2 (by rw [f3, am_up_n _ _ _ _ (by decide), am_up_a _ _ _ _ (by omega), am_up_a _ _ _ _ (by omega)]))
        rw [p.2.1] at ih
        have eq2 : X 0 8 - 1 + -1 = X 0 8 - 1 - 1 := by omega
        clear q he p hc
        generalize X 22 (X 0 8 - 1) = sg at ew wc c1 c2 ih
        simp (disch := omega) only [KP, HW hW, ew, c1, s50, c2, s13 (s := w.2.2.1) hW, e6, e44, am_up_a, B49_62, eq2, GA, GR, GRc, GO, GI, GL, GV, am_w_i, am_ga, am_it, am_if, true_and, and_true, or_true, true_or, ne_eq, not_false_eq_true, not_true_eq_false, false_imp_iff, true_imp_iff, Int.reduceEq, Int.reduceLT, Int.reduceLE, Int.reduceAdd, Int.reduceSub, Int.reduceMul, Int.reduceNeg]
        exact ih
      · rw [if_neg (fun z => c2 z.2)] at q
        have z := q I CW.rf hc rfl
        clear q he hc
        generalize X 22 (X 0 8 - 1) = sg at ew wc c1 c2
        first | (simp (disch := omega) only [KP, ew, c1, s50, c2, GA, GR, GRc, GO, GI, GL, GV, am_w_i, am_ga, am_it, am_if, true_and, and_true, or_true, true_or, ne_eq, not_false_eq_true, not_true_eq_false, false_imp_iff, true_imp_iff, Int.reduceEq, Int.reduceLT, Int.reduceLE, Int.reduceAdd, Int.reduceSub, Int.reduceMul, Int.reduceNeg]; exact z) | simp (disch := omega) only [KP, ew, c1, s50, c2, z, GA, GR, GRc, GO, GI, GL, GV, am_w_i, am_ga, am_it, am_if, true_and, and_true, or_true, true_or, ne_eq, not_false_eq_true, not_true_eq_false, false_imp_iff, true_imp_iff, Int.reduceEq, Int.reduceLT, Int.reduceLE, Int.reduceAdd, Int.reduceSub, Int.reduceMul, Int.reduceNeg]
theorem s49 {d : Nat} {w : Nat × Nat × Nat × Nat} {I L : Nat → Int → Int} {X : (Nat → Int → Int)} {a0 least : Int} (hW : isW w.2.2.1) (hc : EC w I X) (he : EI a0 0 X) {Q : Option am_V → am_H → Prop} (q : ∀ I', CW w I I' → EC w I' (eRl least (X 0 8).toNat X) → I' 44 3 = I 44 3 → Q none (mkH w I' L)) : am_Sp (d + 1) 49 [vR (some 44), vI least] (mkH w I L) Q := by
  have bd := he.bd (by decide)
  have e44 : I 44 8 = X 0 8 := hc.2.1.1
  have k := c_rl (d := d) (L := L) (least := least) (Q := Q) hW (X 0 8).toNat I X hc he (by omega) q
  clear q he
  rw [S49]
  simp (disch := omega) only [KP, e44, GA, GR, GRc, GO, GI, GL, GV, am_w_i, am_ga, am_it, am_if, true_and, and_true, or_true, true_or, ne_eq, not_false_eq_true, not_true_eq_false, false_imp_iff, true_imp_iff, Int.reduceEq, Int.reduceLT, Int.reduceLE, Int.reduceAdd, Int.reduceSub, Int.reduceMul, Int.reduceNeg]
  exact k
