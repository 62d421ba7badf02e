/-! 61: the whole picture between calls, its parts -/
/-- the tape -/
def GT (n : Int) (I : (Nat → Int → Int)) : Prop := (0 ≤ n ∧ n ≤ 700) ∧ I 0 1 = n ∧ I 99 1 = n ∧ ∀ j, 0 ≤ j → j < n → (0 ≤ I 100 j ∧ I 100 j ≤ 255) ∧ I 1 j = am_wb (I 100 j)
theorem GT.fr {n : Int} {I I' : (Nat → Int → Int)} (h : GT n I) (h1 : I' 0 1 = I 0 1) (h2 : I' 99 1 = I 99 1) (h3 : I' 1 = I 1) (h4 : I' 100 = I 100) : GT n I' := by
  unfold GT at h ⊢; rw [h1, h2, h3, h4]; exact h
def GF (f g : Int) (I : (Nat → Int → Int)) : Prop := I 0 2 = f ∧ I 0 3 = g ∧ I 99 4 = f ∧ I 99 5 = g
/-- the image -/
def GI0 (V σ : (Nat → Int → Int)) (I L : (Nat → Int → Int)) : Prop := RS I 59 σ ∧ CT I 59 (V 0 2).toNat ∧ (∀ j, 0 ≤ j → j < 12 → I 137 j = σ 1 j ∧ I 138 j = σ 3 j) ∧ (I 137 12 = σ 2 0 ∧ I 137 13 = σ 2 1 ∧ I 138 12 = σ 0 4 ∧ I 138 13 = σ 0 3 ∧ L 99 79 = σ 0 8) ∧ WS 9000 σ ∧ NY V σ ∧ DN V σ
def GIm (V : (Nat → Int → Int)) (I L : (Nat → Int → Int)) : Prop := I 0 10 = I 99 76 ∧ (I 0 10 = 0 ∨ I 0 10 = 1) ∧ (I 0 10 = 1 → ∃ σ, GI0 V σ I L)
theorem GI0.fr {V σ I L I' L' : (Nat → Int → Int)} (h : GI0 V σ I L) (h1 : ∀ a, 59 ≤ a → a ≤ 62 → I' a = I a) (h2 : I' 137 = I 137) (h3 : I' 138 = I 138) (h4 : L' 99 79 = L 99 79) : GI0 V σ I' L' := by
  obtain ⟨a, b, c, e, f⟩ := h
  refine ⟨a.fr (fun q x y => h1 q (by omega) (by omega)), b.fr (h1 62 (by omega) (by omega)) ⟨by rw [h1 59 (by omega) (by omega)], by rw [h1 59 (by omega) (by omega)], by rw [h1 59 (by omega) (by omega)]⟩, ?_, ?_, f⟩
  · rw [h2, h3]; exact c
  · rw [h2, h3, h4]; exact e
theorem GIm.fr {V I L I' L' : (Nat → Int → Int)} (h : GIm V I L) (h0 : I' 0 10 = I 0 10) (h9 : I' 99 76 = I 99 76) (h1 : ∀ a, 59 ≤ a → a ≤ 62 → I' a = I a) (h2 : I' 137 = I 137) (h3 : I' 138 = I 138) (h4 : L' 99 79 = L 99 79) : GIm V I' L' := by
  obtain ⟨a, b, c⟩ := h
  unfold GIm; rw [h0, h9]
  exact ⟨a, b, fun y => by obtain ⟨σ, k⟩ := c y; exact ⟨σ, k.fr h1 h2 h3 h4⟩⟩
/-- what can be undone -/
def uNx (u : Nat) (σ I : (Nat → Int → Int)) (i : Nat) (j : Int) : Int := if i + 1 < u then I 136 (14 * ((i : Int) + 1) + j) else σ 1 j
def GL0 (V : (Nat → Int → Int)) (u : Nat) (σ I : (Nat → Int → Int)) : Prop := u ≤ 20 ∧ I 90 0 = u ∧ I 99 74 = u ∧ ∀ i : Nat, i < u → (-1 ≤ I 91 (5 * (i : Int)) ∧ I 91 (5 * (i : Int)) < V 0 0) ∧ (∀ j, 0 ≤ j → j < 12 → I 136 (14 * (i : Int) + j) = (if 0 ≤ I 91 (5 * (i : Int)) ∧ j = 2 * I 91 (5 * (i : Int)) then I 91 (5 * (i : Int) + 1) else if 0 ≤ I 91 (5 * (i : Int)) ∧ j = 2 * I 91 (5 * (i : Int)) + 1 then I 91 (5 * (i : Int) + 2) else uNx u σ I i j) ∧ -999 ≤ I 136 (14 * (i : Int) + j) ∧ I 136 (14 * (i : Int) + j) ≤ 999) ∧ (I 136 (14 * (i : Int) + 12) = I 91 (5 * (i : Int) + 3) ∧ I 136 (14 * (i : Int) + 13) = I 91 (5 * (i : Int) + 4)) ∧ (0 ≤ I 91 (5 * (i : Int) + 3) ∧ I 91 (5 * (i : Int) + 3) ≤ 9999) ∧ (0 ≤ I 91 (5 * (i : Int) + 4) ∧ I 91 (5 * (i : Int) + 4) ≤ 9999)
def GLe (V σ I : (Nat → Int → Int)) : Prop := ∃ u, GL0 V u σ I
theorem GLe.fr {V σ I I' : (Nat → Int → Int)} (h : GLe V σ I) (h1 : I' 90 0 = I 90 0) (h2 : I' 99 74 = I 99 74) (h3 : I' 91 = I 91) (h4 : I' 136 = I 136) : GLe V σ I' := by
  obtain ⟨u, h⟩ := h
  refine ⟨u, ?_⟩
  unfold GL0 uNx at h ⊢; rw [h1, h2, h3, h4]; exact h
/-- notes, sights, strikes -/
def GDc (T : (Nat → Int → Int)) (m : Nat) (kb : Int) (I : (Nat → Int → Int)) : Prop := I 92 0 = m ∧ I 92 1 = kb ∧ ∀ i : Int, 0 ≤ i → i < m → I 93 i = T 0 i ∧ I 94 i = T 1 i ∧ I 95 i = T 2 i ∧ I 96 i = T 3 i ∧ I 97 i = T 4 i
def GDm (T : (Nat → Int → Int)) (m : Nat) (kb : Int) (I : (Nat → Int → Int)) : Prop := I 99 70 = m ∧ I 99 71 = kb ∧ ∀ i : Int, 0 ≤ i → i < m → I 134 (5 * i) = T 0 i ∧ (T 0 i ≠ 2 → I 134 (5 * i + 2) = T 1 i ∧ I 134 (5 * i + 3) = T 2 i ∧ I 134 (5 * i + 4) = T 4 i) ∧ (T 0 i = 1 → I 134 (5 * i + 1) = T 3 i) ∧ (T 0 i = 2 → I 134 (5 * i + 1) = T 1 i)
def WT (V T : (Nat → Int → Int)) (m : Nat) (kb : Int) : Prop := m ≤ 24 ∧ (-1 ≤ kb ∧ kb ≤ m) ∧ ∀ i : Int, 0 ≤ i → i < m → (T 0 i = 0 ∨ T 0 i = 1 ∨ T 0 i = 2) ∧ (T 0 i ≠ 2 → 0 ≤ T 1 i ∧ T 1 i < V 0 0) ∧ (T 0 i = 2 → 0 ≤ T 1 i ∧ T 1 i < i) ∧ (T 4 i = 0 ∨ T 4 i = 1) ∧ (0 ≤ T 3 i ∧ T 3 i ≤ 60) ∧ (T 0 i = 1 → 1 ≤ T 3 i) ∧ (-999 ≤ T 2 i ∧ T 2 i ≤ 999)
def GTd (V I : (Nat → Int → Int)) : Prop := ∃ T m kb, GDc T m kb I ∧ GDm T m kb I ∧ WT V T m kb
theorem GDc.fr {T I I' : (Nat → Int → Int)} {m : Nat} {kb : Int} (h : GDc T m kb I) (hf : ∀ a, 92 ≤ a → a ≤ 97 → I' a = I a) : GDc T m kb I' := by
  unfold GDc at h ⊢
  rw [hf 92 (by omega) (by omega), hf 93 (by omega) (by omega), hf 94 (by omega) (by omega), hf 95 (by omega) (by omega), hf 96 (by omega) (by omega), hf 97 (by omega) (by omega)]; exact h
theorem GDm.fr {T I I' : (Nat → Int → Int)} {m : Nat} {kb : Int} (h : GDm T m kb I) (h1 : I' 99 70 = I 99 70) (h2 : I' 99 71 = I 99 71) (h3 : I' 134 = I 134) : GDm T m kb I' := by
  unfold GDm at h ⊢; rw [h1, h2, h3]; exact h
/-! tidings: telling -/
def px_tl (T : (Nat → Int → Int)) (m : Int) (s a b c e : Int) : (Nat → Int → Int) := am_up (am_up (am_up (am_up (am_up T 0 m s) 1 m a) 2 m b) 3 m c) 4 m e
theorem px_tl_n {T : (Nat → Int → Int)} {m s a b c e i : Int} (h : i ≠ m) : px_tl T m s a b c e 0 i = T 0 i ∧ px_tl T m s a b c e 1 i = T 1 i ∧ px_tl T m s a b c e 2 i = T 2 i ∧ px_tl T m s a b c e 3 i = T 3 i ∧ px_tl T m s a b c e 4 i = T 4 i := by
  unfold px_tl am_up; simp [h]
theorem px_tl_s {T : (Nat → Int → Int)} {m s a b c e : Int} : px_tl T m s a b c e 0 m = s ∧ px_tl T m s a b c e 1 m = a ∧ px_tl T m s a b c e 2 m = b ∧ px_tl T m s a b c e 3 m = c ∧ px_tl T m s a b c e 4 m = e := by
  unfold px_tl am_up; simp
theorem s68 {d : Nat} {w : Nat × Nat × Nat × Nat} {I L : Nat → Int → Int} {T : (Nat → Int → Int)} {m : Nat} {kb s a b c e : Int} (hT : GDc T m kb I) (hm : m ≤ 24) (he : e = 0 ∨ e = 1) {Q : Option am_V → am_H → Prop} (q1 : m = 24 → Q (some (vI (-1))) (mkH w I L)) (q2 : m < 24 → ∀ I', GDc (px_tl T m s a b c e) (m + 1) kb I' → Fr (fun a => 92 ≤ a ∧ a ≤ 97) I I' → Q (some (vI (m : Int))) (mkH w I' L)) : am_Sp d 68 [vR (some 92), vI s, vI a, vI b, vI c, vI e] (mkH w I L) Q := by
  obtain ⟨h1, h2, h3⟩ := hT
  rw [S68]
  by_cases c0 : m < 24
  · simp (disch := omega) only [KT, h1, B68_21, B68_31, B68_41, B68_52, B68_63, B68_73, am_up_a, he, am_up_s, GA, GR, GRc, GO, GI, GL, GV, am_w_i, am_ga, am_it, am_if, true_and, and_true, or_true, true_or, ne_eq, not_false_eq_true, not_true_eq_false, false_imp_iff, true_imp_iff, Int.reduceEq, Int.reduceLT, Int.reduceLE, Int.reduceAdd, Int.reduceSub, Int.reduceMul, Int.reduceNeg]
    rw [show (m : Int) + 1 - 1 = m by omega]
    refine q2 c0 _ ⟨?_, ?_, ?_⟩ (fun x hx => ?_)
    rotate_left 3
    · simp (disch := omega) only [am_up_a]
    · rw [am_up_s]; omega
    · simp (disch := decide) only [am_up_n, am_up_a]; exact h2
    · intro i i0 i1
      by_cases ei : i = m
      · subst ei
        simp (disch := decide) only [am_up_a, am_up_s, px_tl_s]
        exact ⟨trivial, trivial, trivial, trivial, trivial⟩
      · have := px_tl_n (T := T) (m := m) (s := s) (a := a) (b := b) (c := c) (e := e) ei
        rw [this.1, this.2.1, this.2.2.1, this.2.2.2.1, this.2.2.2.2]
        have k := h3 i i0 (by omega)
        simp (disch := first | decide | exact ei) only [am_up_a, am_up_n]
        exact k
  · have e24 : m = 24 := by omega
    have z := q1 e24
    first | (simp (disch := omega) only [KT, h1, GA, GR, GRc, GO, GI, GL, GV, am_w_i, am_ga, am_it, am_if, true_and, and_true, or_true, true_or, ne_eq, not_false_eq_true, not_true_eq_false, false_imp_iff, true_imp_iff, Int.reduceEq, Int.reduceLT, Int.reduceLE, Int.reduceAdd, Int.reduceSub, Int.reduceMul, Int.reduceNeg]; exact z) | simp (disch := omega) only [KT, h1, z, GA, GR, GRc, GO, GI, GL, GV, am_w_i, am_ga, am_it, am_if, true_and, and_true, or_true, true_or, ne_eq, not_false_eq_true, not_true_eq_false, false_imp_iff, true_imp_iff, Int.reduceEq, Int.reduceLT, Int.reduceLE, Int.reduceAdd, Int.reduceSub, Int.reduceMul, Int.reduceNeg]
theorem s260 {d : Nat} {w : Nat × Nat × Nat × Nat} {I L : Nat → Int → Int} {T T' : (Nat → Int → Int)} {m : Nat} {kb s a b c e : Int} (hT : GDm T m kb I) (hm : m ≤ 24) (hT' : (∀ i, i ≠ (m : Int) → T' 0 i = T 0 i ∧ T' 1 i = T 1 i ∧ T' 2 i = T 2 i ∧ T' 3 i = T 3 i ∧ T' 4 i = T 4 i) ∧ T' 0 m = s ∧ (s ≠ 2 → T' 1 m = b ∧ T' 2 m = c ∧ T' 4 m = e) ∧ (s = 1 → T' 3 m = a) ∧ (s = 2 → T' 1 m = a)) {Q : Option am_V → am_H → Prop} (q1 : m = 24 → Q (some (vI (-1))) (mkH w I L)) (q2 : m < 24 → ∀ I', GDm T' (m + 1) kb I' → (∀ a, a ≠ 99 → a ≠ 134 → I' a = I a) → (∀ j, j ≠ 70 → I' 99 j = I 99 j) → Q (some (vI (m : Int))) (mkH w I' L)) : am_Sp d 260 [vR (some 99), vI s, vI a, vI b, vI c, vI e] (mkH w I L) Q := by
  obtain ⟨h1, h2, h3⟩ := hT
  rw [S260]
  by_cases c0 : m < 24
  · simp (disch := omega) only [Kk, Kn, h1, B260_27, B260_37, B260_47, B260_58, B260_69, B260_79, am_up_a, am_up_s, GA, GR, GRc, GO, GI, GL, GV, am_w_i, am_ga, am_it, am_if, true_and, and_true, or_true, true_or, ne_eq, not_false_eq_true, not_true_eq_false, false_imp_iff, true_imp_iff, Int.reduceEq, Int.reduceLT, Int.reduceLE, Int.reduceAdd, Int.reduceSub, Int.reduceMul, Int.reduceNeg]
    rw [show (m : Int) + 1 - 1 = m by omega]
    refine q2 c0 _ ⟨?_, ?_, ?_⟩ (fun x y z => ?_) (fun j hj => ?_)
    · rw [am_up_s]; omega
    · rw [am_up_n _ _ _ _ (by decide)]; simp (disch := decide) only [am_up_a]; exact h2
    · intro i i0 i1
      rw [am_up_a _ _ _ _ (by decide)]
      by_cases ei : i = m
      · subst ei
        obtain ⟨-, t0, t1, t2, t3⟩ := hT'
        rw [t0]
        simp (disch := omega) only [am_up_n, am_up_s]
        exact ⟨trivial, fun y => by obtain ⟨p1, p2, p3⟩ := t1 y; exact ⟨p1.symm, p2.symm, p3.symm⟩, fun y => (t2 y).symm, fun y => (t3 y).symm⟩
      · obtain ⟨p0, p1, p2, p3, p4⟩ := hT'.1 i ei
        rw [p0, p1, p2, p3, p4]
        have k := h3 i i0 (by omega)
        simp (disch := omega) only [am_up_n]
        exact k
    · simp (disch := assumption) only [am_up_a]
    · rw [am_up_n _ _ _ _ hj]; simp (disch := decide) only [am_up_a]
  · have e24 : m = 24 := by omega
    have z := q1 e24
    rw [e24] at h1
    first | (simp (disch := omega) only [Kk, h1, GA, GR, GRc, GO, GI, GL, GV, am_w_i, am_ga, am_it, am_if, true_and, and_true, or_true, true_or, ne_eq, not_false_eq_true, not_true_eq_false, false_imp_iff, true_imp_iff, Int.reduceEq, Int.reduceLT, Int.reduceLE, Int.reduceAdd, Int.reduceSub, Int.reduceMul, Int.reduceNeg]; exact z) | simp (disch := omega) only [Kk, h1, z, GA, GR, GRc, GO, GI, GL, GV, am_w_i, am_ga, am_it, am_if, true_and, and_true, or_true, true_or, ne_eq, not_false_eq_true, not_true_eq_false, false_imp_iff, true_imp_iff, Int.reduceEq, Int.reduceLT, Int.reduceLE, Int.reduceAdd, Int.reduceSub, Int.reduceMul, Int.reduceNeg]
