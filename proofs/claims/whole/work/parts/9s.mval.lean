/-! 9s: an E, the reference -/
theorem TR.sg {s v kd wh c : Int} (h : TR s v kd wh) (hc : c = 59 ∨ c = 40 ∨ c = 41 ∨ c = 43 ∨ c = 45 ∨ c = 42 ∨ c = 47) : (kd = 4 ∧ wh = c) ↔ s = c := by
  unfold TR at h
  rcases h with h | h | h | h | h | h | h
  · omega
  · omega
  · omega
  · exact ⟨fun z => by omega, fun z => by omega⟩
  · omega
  · omega
  · omega
theorem TR.ky {s v kd wh : Int} (h : TR s v kd wh) : ((kd = 1 ∧ wh = 13) ↔ s = 113) ∧ ((kd = 1 ∧ wh = 11) ↔ s = 112) ∧ ((kd = 1 ∧ wh = 12) ↔ s = 111) := by
  unfold TR at h
  rcases h with h | h | h | h | h | h | h
  all_goals first
    | (refine ⟨?_, ?_, ?_⟩ <;> constructor <;> intro z <;> omega)
theorem TR.nm {s v kd wh : Int} (h : TR s v kd wh) : ((kd = 1 ∧ 14 ≤ wh) ↔ (114 ≤ s ∧ s ≤ 120)) ∧ (kd = 1 → 14 ≤ wh → s = 100 + wh) ∧ (kd = 3 ↔ s = 3) := by
  unfold TR at h
  rcases h with h | h | h | h | h | h | h
  all_goals (refine ⟨?_, ?_, ?_⟩ <;> first | (constructor <;> intro z <;> omega) | (intro z1 z2; omega))
theorem TR.cp {s v kd wh : Int} (h : TR s v kd wh) : (kd = 5 ↔ bdC s = 4) ∧ (kd = 5 → mpC s = 5 + wh) := by
  have hb : ∀ x : Int, bdC x = 4 ↔ (x = 4 ∨ x = 5 ∨ x = 6 ∨ x = 60 ∨ x = 61 ∨ x = 62) := fun x => by
    unfold bdC
    constructor
    · intro z
      repeat' split at z
      all_goals omega
    · rintro (rfl | rfl | rfl | rfl | rfl | rfl) <;> decide
  rw [hb]
  unfold TR at h
  rcases h with h | h | h | h | h | h | h
  · exact ⟨by omega, fun z => by omega⟩
  · exact ⟨by omega, fun z => by omega⟩
  · exact ⟨by omega, fun z => by omega⟩
  · exact ⟨⟨fun z => by omega, fun z => by omega⟩, fun z => by omega⟩
  · exact ⟨by omega, fun z => by omega⟩
  · obtain ⟨h5, h⟩ := h
    rcases h with ⟨rfl, rfl⟩ | ⟨rfl, rfl⟩ | ⟨rfl, rfl⟩ | ⟨rfl, rfl⟩ | ⟨rfl, rfl⟩ | ⟨rfl, rfl⟩ <;> exact ⟨by omega, fun _ => by decide⟩
  · exact ⟨by omega, fun z => by omega⟩
theorem s161 {d : Nat} {w : Nat × Nat × Nat × Nat} {I L : Nat → Int → Int} {c : Int} (Q : Option am_V → am_H → Prop) : am_Sp d 161 [vR (some 99), vI c] (mkH w I L) Q ↔ Q (some (vI (if I 99 8 = 1 ∧ I 99 9 = c then 1 else 0))) (mkH w I L) := by
  rw [S161]
  by_cases c1 : I 99 8 = 1
  · by_cases c2 : I 99 9 = c
    · simp (disch := omega) only [Kk, c1, c2, B161_20, B161_21, if_true, GA, GR, GRc, GO, GI, GL, GV, am_w_i, am_ga, am_it, am_if, true_and, and_true, or_true, true_or, ne_eq, not_false_eq_true, not_true_eq_false, false_imp_iff, true_imp_iff, Int.reduceEq, Int.reduceLT, Int.reduceLE, Int.reduceAdd, Int.reduceSub, Int.reduceMul, Int.reduceNeg]
    · simp (disch := omega) only [Kk, c1, c2, B161_20, B161_21, if_false, GA, GR, GRc, GO, GI, GL, GV, am_w_i, am_ga, am_it, am_if, true_and, and_true, or_true, true_or, ne_eq, not_false_eq_true, not_true_eq_false, false_imp_iff, true_imp_iff, Int.reduceEq, Int.reduceLT, Int.reduceLE, Int.reduceAdd, Int.reduceSub, Int.reduceMul, Int.reduceNeg]
  · simp (disch := omega) only [Kk, c1, B161_20, B161_21, false_and, if_false, GA, GR, GRc, GO, GI, GL, GV, am_w_i, am_ga, am_it, am_if, true_and, and_true, or_true, true_or, ne_eq, not_false_eq_true, not_true_eq_false, false_imp_iff, true_imp_iff, Int.reduceEq, Int.reduceLT, Int.reduceLE, Int.reduceAdd, Int.reduceSub, Int.reduceMul, Int.reduceNeg]
theorem s181 {d : Nat} {h : am_H} {x : Int} (Q : Option am_V → am_H → Prop) : am_Sp d 181 [vI x] h Q ↔ Q (some (vI (rkC x))) h := by
  simp only [S181, B181_58, am_iteI, ne_eq, ite_not]; rfl
theorem s182 {d : Nat} {w : Nat × Nat × Nat × Nat} {I L : Nat → Int → Int} {k a b : Int} (h0 : 0 ≤ I 99 20 ∧ I 99 20 < 64) (h1 : 0 ≤ I 99 46 ∧ I 99 46 < 96) (Q : Option am_V → am_H → Prop) : am_Sp d 182 [vR (some 99), vI k, vI a, vI b] (mkH w I L) Q ↔ Q none (mkH w (am_up (am_up (am_up (am_up (am_up (am_up I 120 (64 + I 99 20) k) 121 (64 + I 99 20) a) 122 (64 + I 99 20) b) 124 (I 99 46) (I 99 20)) 99 46 (I 99 46 + 1)) 99 20 (I 99 20 + 1)) L) := by
  rw [S182]
  simp (disch := omega) only [Kk, Kl, Kp, B182_13, B182_26, B182_39, B182_52, B182_62, am_up_a, am_up_n, GA, GR, GRc, GO, GI, GL, GV, am_w_i, am_ga, am_it, am_if, true_and, and_true, or_true, true_or, ne_eq, not_false_eq_true, not_true_eq_false, false_imp_iff, true_imp_iff, Int.reduceEq, Int.reduceLT, Int.reduceLE, Int.reduceAdd, Int.reduceSub, Int.reduceMul, Int.reduceNeg]
theorem s183 {d : Nat} {w : Nat × Nat × Nat × Nat} {I L : Nat → Int → Int} (h1 : 1 ≤ I 99 46 ∧ I 99 46 ≤ 96) (Q : Option am_V → am_H → Prop) : am_Sp d 183 [vR (some 99)] (mkH w I L) Q ↔ Q (some (vI (I 124 (I 99 46 - 1)))) (mkH w (am_up I 99 46 (I 99 46 - 1)) L) := by
  rw [S183]
  simp (disch := omega) only [Kk, Kp, B183_10, am_up_s, am_up_a, GA, GR, GRc, GO, GI, GL, GV, am_w_i, am_ga, am_it, am_if, true_and, and_true, or_true, true_or, ne_eq, not_false_eq_true, not_true_eq_false, false_imp_iff, true_imp_iff, Int.reduceEq, Int.reduceLT, Int.reduceLE, Int.reduceAdd, Int.reduceSub, Int.reduceMul, Int.reduceNeg]
theorem s185a {d : Nat} {w : Nat × Nat × Nat × Nat} {I L : Nat → Int → Int} (h : 0 ≤ I 99 48 ∧ I 99 48 < 64) (Q : Option am_V → am_H → Prop) : am_Sp (d + 1) 185 [vR (some 99)] (mkH w I L) Q ↔ Q (some (vI 1)) (mkH w (am_up I 99 48 (I 99 48 + 1)) L) := by
  rw [S185]
  simp (disch := omega) only [Kk, B185_25, GA, GR, GRc, GO, GI, GL, GV, am_w_i, am_ga, am_it, am_if, true_and, and_true, or_true, true_or, ne_eq, not_false_eq_true, not_true_eq_false, false_imp_iff, true_imp_iff, Int.reduceEq, Int.reduceLT, Int.reduceLE, Int.reduceAdd, Int.reduceSub, Int.reduceMul, Int.reduceNeg]
theorem s185b {d : Nat} {w : Nat × Nat × Nat × Nat} {I L : Nat → Int → Int} {p : Int} (h : I 99 48 = 64) (h10 : I 99 10 = p) (Q : Option am_V → am_H → Prop) : am_Sp (d + 1) 185 [vR (some 99)] (mkH w I L) Q ↔ Q (some (vI 0)) (mkH w (am_up (am_up I 99 4 2) 99 5 p) L) := by
  rw [S185]
  simp (disch := omega) only [Kk, h, s154 h10, GA, GR, GRc, GO, GI, GL, GV, am_w_i, am_ga, am_it, am_if, true_and, and_true, or_true, true_or, ne_eq, not_false_eq_true, not_true_eq_false, false_imp_iff, true_imp_iff, Int.reduceEq, Int.reduceLT, Int.reduceLE, Int.reduceAdd, Int.reduceSub, Int.reduceMul, Int.reduceNeg]
theorem s186 {d : Nat} {w : Nat × Nat × Nat × Nat} {I L : Nat → Int → Int} {v : Int} (h : 0 ≤ I 99 45 ∧ I 99 45 < 96) (Q : Option am_V → am_H → Prop) : am_Sp d 186 [vR (some 99), vI v] (mkH w I L) Q ↔ Q none (mkH w (am_up (am_up I 123 (I 99 45) v) 99 45 (I 99 45 + 1)) L) := by
  rw [S186]
  simp (disch := omega) only [Kk, Kp, B186_10, am_up_a, GA, GR, GRc, GO, GI, GL, GV, am_w_i, am_ga, am_it, am_if, true_and, and_true, or_true, true_or, ne_eq, not_false_eq_true, not_true_eq_false, false_imp_iff, true_imp_iff, Int.reduceEq, Int.reduceLT, Int.reduceLE, Int.reduceAdd, Int.reduceSub, Int.reduceMul, Int.reduceNeg]
/-- frames of an E -/
def BF (I I' : (Nat → Int → Int)) : Prop := (∀ a, a ≠ 99 → ¬ (120 ≤ a ∧ a ≤ 124) → I' a = I a) ∧ (∀ a j, 120 ≤ a → a ≤ 122 → j < 64 → I' a j = I a j) ∧ ∀ x, x ≠ 20 → ¬ (45 ≤ x ∧ x ≤ 50) → I' 99 x = I 99 x
def EF (I I' : (Nat → Int → Int)) : Prop := (∀ a, a ≠ 99 → ¬ (120 ≤ a ∧ a ≤ 124) → I' a = I a) ∧ (∀ a j, 120 ≤ a → a ≤ 122 → j < 64 → I' a j = I a j) ∧ ∀ x, x ≠ 4 → x ≠ 5 → ¬ (7 ≤ x ∧ x ≤ 11) → x ≠ 20 → ¬ (45 ≤ x ∧ x ≤ 50) → I' 99 x = I 99 x
theorem BF.rf {I : (Nat → Int → Int)} : BF I I := ⟨fun _ _ _ => rfl, fun _ _ _ _ _ => rfl, fun _ _ _ => rfl⟩
theorem BF.tr {I J K : (Nat → Int → Int)} (h : BF I J) (g : BF J K) : BF I K := ⟨fun a x y => (g.1 a x y).trans (h.1 a x y), fun a j x y z => (g.2.1 a j x y z).trans (h.2.1 a j x y z), fun x a b => (g.2.2 x a b).trans (h.2.2 x a b)⟩
theorem BF.f {I J : (Nat → Int → Int)} {i v : Int} (h : BF I J) (hi : i = 20 ∨ (45 ≤ i ∧ i ≤ 50)) : BF I (am_up J 99 i v) := ⟨fun a x y => by rw [am_up_a _ _ _ _ x]; exact h.1 a x y, fun a j x y z => by rw [am_up_a _ _ _ _ (by omega)]; exact h.2.1 a j x y z, fun x a b => by rw [am_up_n _ _ _ _ (by omega)]; exact h.2.2 x a b⟩
theorem BF.w {I J : (Nat → Int → Int)} {b : Nat} {i v : Int} (h : BF I J) (hb : b = 123 ∨ b = 124) : BF I (am_up J b i v) := ⟨fun a x y => by rw [am_up_a _ _ _ _ (by omega)]; exact h.1 a x y, fun a j x y z => by rw [am_up_a _ _ _ _ (by omega)]; exact h.2.1 a j x y z, fun x a c => by rw [am_up_a _ _ _ _ (by omega)]; exact h.2.2 x a c⟩
theorem BF.k {I J : (Nat → Int → Int)} {b : Nat} {i v : Int} (h : BF I J) (hb : 120 ≤ b ∧ b ≤ 122) (hi : 64 ≤ i) : BF I (am_up J b i v) := ⟨fun a x y => by rw [am_up_a _ _ _ _ (by omega)]; exact h.1 a x y, fun a j x y z => by
    by_cases c : a = b
    · subst c; rw [am_up_n _ _ _ _ (by omega)]; exact h.2.1 a j x y z
    · rw [am_up_a _ _ _ _ c]; exact h.2.1 a j x y z, fun x a c => by rw [am_up_a _ _ _ _ (by omega)]; exact h.2.2 x a c⟩
theorem BF.e {I J : (Nat → Int → Int)} (h : BF I J) : EF I J := ⟨h.1, h.2.1, fun x _ _ _ a b => h.2.2 x a b⟩
theorem EF.tr {I J K : (Nat → Int → Int)} (h : EF I J) (g : EF J K) : EF I K := ⟨fun a x y => (g.1 a x y).trans (h.1 a x y), fun a j x y z => (g.2.1 a j x y z).trans (h.2.1 a j x y z), fun x a b c e f => (g.2.2 x a b c e f).trans (h.2.2 x a b c e f)⟩
theorem EF.rd {I J : (Nat → Int → Int)} (h : RF I J) : EF I J := ⟨fun a x _ => h.1 a x, fun a j x y _ => by rw [h.1 a (by omega)], fun x a b c _ _ => h.2 x a b (by omega) (by omega) (by omega) (by omega) (by omega)⟩
/-- strict, where reading went well -/
def EG (I I' : (Nat → Int → Int)) : Prop := (∀ a, a ≠ 99 → ¬ (120 ≤ a ∧ a ≤ 124) → I' a = I a) ∧ (∀ a j, 120 ≤ a → a ≤ 122 → j < 64 → I' a j = I a j) ∧ ∀ x, ¬ (7 ≤ x ∧ x ≤ 11) → x ≠ 20 → ¬ (45 ≤ x ∧ x ≤ 50) → I' 99 x = I 99 x
theorem EG.w {I J : (Nat → Int → Int)} (h : EG I J) : EF I J := ⟨h.1, h.2.1, fun x _ _ a b c => h.2.2 x a b c⟩
theorem BF.eg {I J : (Nat → Int → Int)} (h : BF I J) : EG I J := ⟨h.1, h.2.1, fun x _ a b => h.2.2 x a b⟩
theorem EG.tr {I J K : (Nat → Int → Int)} (h : EG I J) (g : EG J K) : EG I K := ⟨fun a x y => (g.1 a x y).trans (h.1 a x y), fun a j x y z => (g.2.1 a j x y z).trans (h.2.1 a j x y z), fun x a b c => (g.2.2 x a b c).trans (h.2.2 x a b c)⟩
theorem EG.rd {I J : (Nat → Int → Int)} (h : RG I J) : EG I J := ⟨fun a x _ => h.1 a x, fun a j x y _ => by rw [h.1 a (by omega)], fun x c _ _ => h.2 x (by omega) (by omega) (by omega) (by omega) (by omega)⟩
theorem mT.bf {s u pl P : Nat → Int} {T : Int → Int} {n : Int} {k : Nat} {I I' : (Nat → Int → Int)} (h : mT s u pl P T n k I) (f : BF I I') : mT s u pl P T n k I' := by
  unfold mT GX at h ⊢
  rw [f.2.2 6 (by decide) (by decide), f.2.2 7 (by decide) (by decide), f.2.2 8 (by decide) (by decide), f.2.2 9 (by decide) (by decide), f.2.2 10 (by decide) (by decide), f.1 100 (by decide) (by decide), f.1 101 (by decide) (by decide), f.1 49 (by decide) (by decide)]
  exact h
/-- the reference while an E is read -/
def NE (I X : (Nat → Int → Int)) : Prop := (I 99 20 = X 0 6 ∧ I 99 48 = X 0 4) ∧ (I 99 45 = X 0 8 ∧ I 99 46 = X 0 9 ∧ I 99 47 = X 0 10) ∧ (∀ j, 0 ≤ j → j < X 0 6 → I 120 (64 + j) = X 19 j ∧ I 121 (64 + j) = X 20 j ∧ I 122 (64 + j) = X 21 j) ∧ (∀ j, 0 ≤ j → j < X 0 8 → I 123 j = mpC (X 22 j)) ∧ (∀ j, 0 ≤ j → j < X 0 9 → I 124 j = X 23 j)
theorem NE.fr {I I' X : (Nat → Int → Int)} (h : NE I X) (f : ∀ a, 120 ≤ a → a ≤ 124 → I' a = I a) (g : ∀ x, x = 20 ∨ (45 ≤ x ∧ x ≤ 48) → I' 99 x = I 99 x) : NE I' X := by
  unfold NE at h ⊢
  rw [g 20 (by omega), g 45 (by omega), g 46 (by omega), g 47 (by omega), g 48 (by omega), f 120 (by omega) (by omega), f 121 (by omega) (by omega), f 122 (by omega) (by omega), f 123 (by omega) (by omega), f 124 (by omega) (by omega)]
  exact h
theorem NE.rf {I I' X : (Nat → Int → Int)} (h : NE I X) (f : RF I I') : NE I' X := h.fr (fun a _ _ => f.1 a (by omega)) (fun x _ => f.2 x (by omega) (by omega) (by omega) (by omega) (by omega) (by omega) (by omega))
theorem NE.fl {I X : (Nat → Int → Int)} {i v : Int} (h : NE I X) (hi : i = 49 ∨ i = 50) : NE (am_up I 99 i v) X := h.fr (fun a _ _ => am_up_a _ _ _ _ (by omega)) (fun x _ => am_up_n _ _ _ _ (by omega))
theorem NE.ct {I X : (Nat → Int → Int)} (h : NE I X) : NE (am_up I 99 48 (X 0 4 + 1)) (eCt X) := by
  obtain ⟨⟨a1, a2⟩, ⟨b1, b2, b3⟩, c, e, g⟩ := h
  unfold NE eCt
  simp (disch := decide) only [am_up_a, am_up_n, am_up_s]
  exact ⟨⟨a1, trivial⟩, ⟨b1, b2, b3⟩, c, e, g⟩
theorem NE.o {I X : (Nat → Int → Int)} {v : Int} (h : NE I X) : NE (am_up I 99 47 v) (am_up X 0 10 v) := by
  obtain ⟨⟨a1, a2⟩, ⟨b1, b2, b3⟩, c, e, g⟩ := h
  unfold NE
  simp (disch := decide) only [am_up_a, am_up_n, am_up_s]
  exact ⟨⟨a1, a2⟩, ⟨b1, b2, trivial⟩, c, e, g⟩
theorem NE.ps {I X : (Nat → Int → Int)} {v : Int} (h : NE I X) : NE (am_up (am_up I 123 (X 0 8) (mpC v)) 99 45 (X 0 8 + 1)) (ePs X v) := by
  obtain ⟨⟨a1, a2⟩, ⟨b1, b2, b3⟩, c, e, g⟩ := h
  unfold NE ePs
  simp (disch := decide) only [am_up_a, am_up_n, am_up_s]
  refine ⟨⟨a1, a2⟩, ⟨trivial, b2, b3⟩, c, fun j j0 j1 => ?_, g⟩
  by_cases cc : j = X 0 8
  · subst cc; rw [am_up_s, am_up_s]
  · rw [am_up_n _ _ _ _ cc, am_up_n _ _ _ _ cc]; exact e j j0 (by omega)
theorem NE.w {I X : (Nat → Int → Int)} {n : Int} (h : NE I X) (hn : 0 ≤ n) : NE (am_up (am_up I 99 45 (X 0 8 - 1)) 99 46 (X 0 9 - n)) (ePn X n) := by
  obtain ⟨⟨a1, a2⟩, ⟨b1, b2, b3⟩, c, e, g⟩ := h
  unfold NE ePn
  simp (disch := decide) only [am_up_a, am_up_n, am_up_s]
  exact ⟨⟨a1, a2⟩, ⟨trivial, trivial, b3⟩, c, fun j j0 j1 => e j j0 (by omega), fun j j0 j1 => g j j0 (by omega)⟩
theorem NE.w0 {I X : (Nat → Int → Int)} (h : NE I X) : NE (am_up I 99 45 (X 0 8 - 1)) (am_up X 0 8 (X 0 8 - 1)) := by
  obtain ⟨⟨a1, a2⟩, ⟨b1, b2, b3⟩, c, e, g⟩ := h
  unfold NE
  simp (disch := decide) only [am_up_a, am_up_n, am_up_s]
  exact ⟨⟨a1, a2⟩, ⟨trivial, b2, b3⟩, c, fun j j0 j1 => e j j0 (by omega), g⟩
theorem NE.gr {I X : (Nat → Int → Int)} {r k p o : Int} (h : NE I X) : NE (am_up (am_up (am_up (am_up (am_up (am_up I 120 (64 + X 0 6) k) 121 (64 + X 0 6) p) 122 (64 + X 0 6) o) 124 (X 0 9) (X 0 6)) 99 46 (X 0 9 + 1)) 99 20 (X 0 6 + 1)) (eGr X r k p o) := by
  obtain ⟨⟨a1, a2⟩, ⟨b1, b2, b3⟩, c, e, g⟩ := h
  obtain ⟨⟨g6, g9, g8, g10, g4⟩, ⟨g22, g23⟩, g16, g19, g20, g21⟩ := eGr_e (X := X) (r := r) (k := k) (p := p) (o := o)
  unfold NE
  rw [g6, g9, g8, g10, g4, g22, g23, g19, g20, g21]
  simp (disch := decide) only [am_up_a, am_up_n, am_up_s]
  refine ⟨⟨trivial, a2⟩, ⟨b1, trivial, b3⟩, fun j j0 j1 => ?_, e, fun j j0 j1 => ?_⟩
  · by_cases cc : j = X 0 6
    · subst cc; rw [am_up_s, am_up_s, am_up_s, px_up_s, px_up_s, px_up_s]; exact ⟨rfl, rfl, rfl⟩
    · rw [am_up_n _ _ _ _ (by omega), am_up_n _ _ _ _ (by omega), am_up_n _ _ _ _ (by omega), px_up_n cc, px_up_n cc, px_up_n cc]; exact c j j0 (by omega)
  · by_cases cc : j = X 0 9
    · subst cc; rw [am_up_s, px_up_s]
    · rw [am_up_n _ _ _ _ cc, px_up_n cc]; exact g j j0 (by omega)
theorem BF.gr {I J : (Nat → Int → Int)} {x h k p o : Int} (f : BF I J) (hx : 0 ≤ x) : BF I (am_up (am_up (am_up (am_up (am_up (am_up J 120 (64 + x) k) 121 (64 + x) p) 122 (64 + x) o) 124 h x) 99 46 (h + 1)) 99 20 (x + 1)) := (((((f.k (by decide) (by omega)).k (by decide) (by omega)).k (by decide) (by omega)).w (by decide)).f (by decide)).f (by decide)
theorem eRl_01 {a0 : Int} : ∀ {m : Nat} {X : (Nat → Int → Int)}, EI a0 0 X → X 0 8 = m → eRl 0 m X = eRl 1 m X
  | 0, _, _, _ => rfl
  | m + 1, X, h, e => by
    rw [eRl, eRl]
    by_cases c : X 22 (X 0 8 - 1) = 40
    · rw [if_neg (fun z => z.1 c), if_neg (fun z => z.1 c)]
    · have wp := wcd_p (h.2.1 (X 0 8 - 1) (by omega) (by omega)) c
      have p := h.p1 (by omega) c
      rw [if_pos ⟨c, by omega⟩, if_pos ⟨c, wp⟩]
      exact eRl_01 p.1 (by omega)
