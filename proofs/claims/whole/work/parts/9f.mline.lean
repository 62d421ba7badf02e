/-! 9f: the reference's picture of a text in the making -/
def NX (I X : (Nat → Int → Int)) : Prop := ((I 99 16 = X 0 0 ∧ I 99 17 = X 0 1 ∧ I 99 18 = X 0 2) ∧ (I 99 19 = X 0 5 ∧ I 99 20 = X 0 6 ∧ I 99 48 = X 0 4)) ∧ (I 102 1 = X 0 3 ∧ (I 99 21 = 0 ↔ bit1 (X 0 7) 4 = 0) ∧ ∀ b, 0 ≤ b → b < 4 → (I 115 b = 0 ↔ bit1 (X 0 7) b = 0)) ∧ (∀ j, 0 ≤ j → j < X 0 0 → I 103 (6 + j) = X 1 j ∧ I 104 (6 + j) = X 2 j ∧ I 105 (6 + j) = X 3 j) ∧ (∀ j, 0 ≤ j → j < 12 → I 106 (12 + j) = X 4 j) ∧ (∀ j, 0 ≤ j → j < X 0 1 → I 107 (8 + j) = X 5 j ∧ I 108 (8 + j) = X 6 j ∧ I 109 (8 + j) = X 7 j ∧ I 110 (8 + j) = X 8 j ∧ I 111 (8 + j) = X 9 j) ∧ (∀ j, 0 ≤ j → j < X 0 2 → I 112 (12 + j) = X 10 j ∧ I 113 (12 + j) = X 11 j ∧ I 114 (12 + j) = X 12 j) ∧ (∀ j, 0 ≤ j → j < 2 → I 116 (4 + j) = X 13 j ∧ I 116 (6 + j) = X 14 j) ∧ (∀ l, 0 ≤ l → l < 3 → (I 117 (3 + l) = 0 ∧ X 17 l < 0) ∨ (I 117 (3 + l) = 1 ∧ 0 ≤ X 17 l ∧ I 118 (3 + l) = X 17 l ∧ I 119 (3 + l) = X 18 l)) ∧ (∀ j, 0 ≤ j → j < X 0 6 → I 120 (64 + j) = X 19 j ∧ I 121 (64 + j) = X 20 j ∧ I 122 (64 + j) = X 21 j) ∧ (I 99 4 = X 0 11 ∧ I 99 5 = X 0 12)
theorem NX.fr {I I' X : (Nat → Int → Int)} (h : NX I X) (f : ∀ a, 102 ≤ a → a ≤ 122 → I' a = I a) (g : ∀ x, (16 ≤ x ∧ x ≤ 21) ∨ x = 48 ∨ x = 4 ∨ x = 5 → I' 99 x = I 99 x) : NX I' X := by
  unfold NX at h ⊢
  rw [g 4 (by omega), g 5 (by omega), g 16 (by omega), g 17 (by omega), g 18 (by omega), g 19 (by omega), g 20 (by omega), g 48 (by omega), g 21 (by omega), f 102 (by omega) (by omega), f 103 (by omega) (by omega), f 104 (by omega) (by omega), f 105 (by omega) (by omega), f 106 (by omega) (by omega), f 107 (by omega) (by omega), f 108 (by omega) (by omega), f 109 (by omega) (by omega), f 110 (by omega) (by omega), f 111 (by omega) (by omega), f 112 (by omega) (by omega), f 113 (by omega) (by omega), f 114 (by omega) (by omega), f 115 (by omega) (by omega), f 116 (by omega) (by omega), f 117 (by omega) (by omega), f 118 (by omega) (by omega), f 119 (by omega) (by omega), f 120 (by omega) (by omega), f 121 (by omega) (by omega), f 122 (by omega) (by omega)]
  exact h
theorem NX.rf {I I' X : (Nat → Int → Int)} (h : NX I X) (f : RG I I') : NX I' X := h.fr (fun a _ _ => f.1 a (by omega)) (fun x _ => f.2 x (by omega) (by omega) (by omega) (by omega) (by omega))
/-- where the kept text ends in each row of the reference -/
def hfN (a : Nat) : Int := if a = 102 then 1 else if a ≤ 105 then 6 else if a = 106 then 12 else if a ≤ 111 then 8 else if a ≤ 114 then 12 else if a = 115 then 0 else if a = 116 then 4 else if a ≤ 119 then 3 else 64
/-- what reading a text may change of the reference -/
def PF (I I' : (Nat → Int → Int)) : Prop := (∀ a, a ≠ 99 → ¬ (102 ≤ a ∧ a ≤ 124) → I' a = I a) ∧ (∀ a j, 102 ≤ a → a ≤ 122 → j < hfN a → I' a j = I a j) ∧ ∀ x, x ≠ 4 → x ≠ 5 → ¬ (7 ≤ x ∧ x ≤ 11) → ¬ (16 ≤ x ∧ x ≤ 21) → ¬ (45 ≤ x ∧ x ≤ 50) → I' 99 x = I 99 x
theorem PF.rf {I : (Nat → Int → Int)} : PF I I := ⟨fun _ _ _ => rfl, fun _ _ _ _ _ => rfl, fun _ _ _ _ _ _ => rfl⟩
theorem PF.tr {I I' I'' : (Nat → Int → Int)} (h : PF I I') (h' : PF I' I'') : PF I I'' := ⟨fun a x y => (h'.1 a x y).trans (h.1 a x y), fun a j x y z => (h'.2.1 a j x y z).trans (h.2.1 a j x y z), fun x a b c e f => (h'.2.2 x a b c e f).trans (h.2.2 x a b c e f)⟩
theorem PF.rd {I I' : (Nat → Int → Int)} (h : RF I I') : PF I I' := ⟨fun a x _ => h.1 a x, fun a j x y _ => by rw [h.1 a (by omega)], fun x a b c _ _ => h.2 x a b (by omega) (by omega) (by omega) (by omega) (by omega)⟩
theorem PF.up {I I' : (Nat → Int → Int)} {a : Nat} {i v : Int} (h : PF I I') (ha : 102 ≤ a ∧ a ≤ 122) (hi : hfN a ≤ i) : PF I (am_up I' a i v) := by
  refine ⟨fun b x y => by rw [am_up_a _ _ _ _ (by omega)]; exact h.1 b x y, fun b j x y z => ?_, fun x a1 b c e f => by rw [am_up_a _ _ _ _ (by omega)]; exact h.2.2 x a1 b c e f⟩
  by_cases e : b = a
  · subst e; rw [am_up_n _ _ _ _ (by omega)]; exact h.2.1 b j x y z
  · rw [am_up_a _ _ _ _ e]; exact h.2.1 b j x y z
theorem PF.f {I I' : (Nat → Int → Int)} {i v : Int} (h : PF I I') (hi : i = 4 ∨ i = 5 ∨ (7 ≤ i ∧ i ≤ 11) ∨ (16 ≤ i ∧ i ≤ 21) ∨ (45 ≤ i ∧ i ≤ 50)) : PF I (am_up I' 99 i v) :=
  ⟨fun b x y => by rw [am_up_a _ _ _ _ x]; exact h.1 b x y, fun b j x y z => by rw [am_up_a _ _ _ _ (by omega)]; exact h.2.1 b j x y z, fun x a b c e f => by rw [am_up_n _ _ _ _ (by omega)]; exact h.2.2 x a b c e f⟩
theorem nnF_c {s u : Nat → Int} {f g : Int → Int} {c k : Nat} (h : ∀ j : Nat, j < c → f j = g j) : nnF s u f c k = nnF s u g c k := by
  unfold nnF; rw [px_find_c c 0 (fun j _ b => h j (by omega))]
theorem onF_c {s u : Nat → Int} {f g : Int → Int} {c k : Nat} (h : ∀ j : Nat, j < c → f j = g j) : onF s u f c k = onF s u g c k := by
  unfold onF; rw [px_find_c c 0 (fun j _ b => h j (by omega))]
/-- what a line owes, on the reference's side (before the ';') -/
def MCo (w : (Nat × Nat × Nat × Nat)) (I : (Nat → Int → Int)) (s u pl P : Nat → Int) (T : Int → Int) (n : Int) (L : (Nat → Int → Int)) (r : Int × Nat × (Nat → Int → Int)) (Q : Option am_V → am_H → Prop) : Prop := (∀ I', PF I I' → r.1 = 0 → NX I' r.2.2 → mT s u pl P T n r.2.1 I' → Q (some (vI 1)) (mkH w I' L)) ∧ (∀ I', PF I I' → r.1 ≠ 0 → I' 99 4 = r.1 → I' 99 5 = pl r.2.1 → Q (some (vI 0)) (mkH w I' L))
