/-! 86: levelling, the reference: pure -/
def lvK (I I' : (Nat → Int → Int)) (c : Prop) (p n : Int) : Prop := (I' = I ∧ (c → 0 ≤ p → p ≤ 400 → 0 ≤ I 132 p ∧ I 132 p ≤ n)) ∨ (c ∧ 0 ≤ p ∧ p ≤ 400 ∧ (I 132 p < 0 ∨ n < I 132 p) ∧ I' = am_up I 132 p n)
def lvX (E : Int → Int → Int → Prop) (s : Int) (m : Nat) (best : Int) (I0 I1 : (Nat → Int → Int)) : Prop := (∀ a, a ≠ 132 → I1 a = I0 a) ∧ ∀ p, 0 ≤ p → p ≤ 400 → I1 132 p = I0 132 p ∨ (I0 132 best ≤ I1 132 p ∧ (I0 132 p < 0 ∨ I1 132 p < I0 132 p) ∧ I1 132 p ≤ 99 * ((m : Int) + 1) ∧ ∃ n, n ≤ m + 1 ∧ lvW E s n p (I1 132 p))
theorem lvX.b {E : Int → Int → Int → Prop} {s : Int} {m : Nat} {best : Int} {I0 I1 : (Nat → Int → Int)} (h : lvX E s m best I0 I1) (hb : 0 ≤ best ∧ best ≤ 400) (h0 : 0 ≤ I0 132 best) : I1 132 best = I0 132 best := by
  rcases h.2 best hb.1 hb.2 with e | ⟨a, b, -⟩
  · exact e
  · omega
theorem lvX.st {E : Int → Int → Int → Prop} {s : Int} {m : Nat} {best : Int} {I0 I1 I2 : (Nat → Int → Int)} {c : Prop} {p n x : Int} (h : lvX E s m best I0 I1) (hk : lvK I1 I2 c p n) (h0 : 0 ≤ I0 132 best) (hn : n = I0 132 best + x) (hx : 0 ≤ x ∧ x ≤ 99) (hm : I0 132 best ≤ 99 * (m : Int)) (hw : c → 0 ≤ p → p ≤ 400 → ∃ j, j ≤ m + 1 ∧ lvW E s j p n) : lvX E s m best I0 I2 ∧ (∀ q y, 0 ≤ I1 132 q ∧ I1 132 q ≤ y → 0 ≤ I2 132 q ∧ I2 132 q ≤ y) ∧ (c → 0 ≤ p → p ≤ 400 → 0 ≤ I2 132 p ∧ I2 132 p ≤ n) := by
  rcases hk with ⟨rfl, k⟩ | ⟨k1, k2, k3, k4, rfl⟩
  · exact ⟨h, fun _ _ y => y, k⟩
  · refine ⟨⟨fun a ha => by rw [am_up_a _ _ _ _ ha]; exact h.1 a ha, fun q q0 q1 => ?_⟩, fun q y hq => ?_, fun _ _ _ => by rw [am_up_s]; omega⟩
    · by_cases e : q = p
      · subst e
        right
        rw [am_up_s]
        refine ⟨by omega, ?_, by omega, hw k1 k2 k3⟩
        rcases h.2 q q0 q1 with e | ⟨a, b, -⟩ <;> omega
      · rw [am_up_n _ _ _ _ e]; exact h.2 q q0 q1
    · by_cases e : q = p
      · subst e; rw [am_up_s]; omega
      · rw [am_up_n _ _ _ _ e]; exact hq
def lvN (f : Int → Int) : Nat → Int
  | 0 => 0
  | n + 1 => lvN f n + f n
theorem lvN_b {f : Int → Int} : ∀ {n : Nat}, (∀ p : Int, 0 ≤ p → p < n → f p = 0 ∨ f p = 1) → lvN f n ≤ n
  | 0, _ => by simp [lvN]
  | n + 1, h => by
    have := lvN_b (f := f) (n := n) (fun p a b => h p a (by omega))
    have := h n (by omega) (by omega)
    rw [lvN]; omega
theorem lvN_e {f g : Int → Int} : ∀ {n : Nat}, (∀ p : Int, 0 ≤ p → p < n → g p = f p) → lvN g n = lvN f n
  | 0, _ => rfl
  | n + 1, h => by rw [lvN, lvN, lvN_e (fun p a b => h p a (by omega)), h n (by omega) (by omega)]
theorem lvN_u {f g : Int → Int} {q : Int} (h0 : 0 ≤ q) (hf : f q = 0) (hg : g q = 1) (hn : ∀ p, p ≠ q → g p = f p) : ∀ {n : Nat}, q < n → lvN g n = lvN f n + 1
  | 0, h => by omega
  | n + 1, h => by
    rw [lvN, lvN]
    by_cases e : q = n
    · subst e; rw [lvN_e (fun p _ b => hn p (by omega)), hf, hg]; omega
    · rw [lvN_u h0 hf hg hn (n := n) (by omega), hn n (fun y => e y.symm)]; omega
def lvZ (E : Int → Int → Int → Prop) (s : Int) (m : Nat) (I : (Nat → Int → Int)) : Prop := (∀ p, 0 ≤ p → p ≤ 400 → (I 133 p = 0 ∨ I 133 p = 1) ∧ (I 132 p = -1 ∨ (0 ≤ I 132 p ∧ I 132 p ≤ 99 * (m : Int) ∧ ∃ n, n ≤ m ∧ lvW E s n p (I 132 p))) ∧ (I 133 p = 1 → 0 ≤ I 132 p ∧ (∀ q x, E p q x → 0 ≤ I 132 q ∧ I 132 q ≤ I 132 p + x) ∧ ∀ q, 0 ≤ q → q ≤ 400 → 0 ≤ I 132 q → I 133 q = 0 → I 132 p ≤ I 132 q)) ∧ I 132 s = 0 ∧ I 133 200 = 0 ∧ lvN (I 133) 401 = m
theorem lvZ.m {E : Int → Int → Int → Prop} {s : Int} {m : Nat} {I : (Nat → Int → Int)} (h : lvZ E s m I) : m ≤ 400 := by
  obtain ⟨h1, -, h3, h4⟩ := h
  have u := lvN_u (f := I 133) (g := am_up I 133 200 1 133) (q := 200) (by omega) h3 (am_up_s _ _ _ _) (fun p hp => am_up_n _ _ _ _ hp) (n := 401) (by omega)
  have b := lvN_b (f := am_up I 133 200 1 133) (n := 401) (fun p a b => by
    by_cases e : p = 200
    · subst e; exact Or.inr (am_up_s _ _ _ _)
    · rw [am_up_n _ _ _ _ e]; exact (h1 p a (by omega)).1)
  omega
theorem lvZ.st {E : Int → Int → Int → Prop} {s : Int} {m : Nat} {I I2 : (Nat → Int → Int)} {best : Int} (h : lvZ E s m I) (hE : ∀ p q x, E p q x → (0 ≤ p ∧ p ≤ 400) ∧ (0 ≤ q ∧ q ≤ 400)) (hs : 0 ≤ s ∧ s ≤ 400) (hb : 0 ≤ best ∧ best ≤ 400) (b0 : 0 ≤ I 132 best) (b1 : I 133 best = 0) (b2 : ∀ q, 0 ≤ q → q ≤ 400 → 0 ≤ I 132 q → I 133 q = 0 → I 132 best ≤ I 132 q) (b3 : best ≠ 200) (hx : lvX E s m best (am_up I 133 best 1) I2) (hr : ∀ q x, E best q x → 0 ≤ I2 132 q ∧ I2 132 q ≤ I 132 best + x) : lvZ E s (m + 1) I2 := by
  obtain ⟨h1, h2, h3, h4⟩ := h
  have e133 : I2 133 = am_up I 133 best 1 133 := hx.1 133 (by decide)
  have T : ∀ p, 0 ≤ p → p ≤ 400 → I2 132 p = I 132 p ∨ (I 132 best ≤ I2 132 p ∧ (I 132 p < 0 ∨ I2 132 p < I 132 p) ∧ I2 132 p ≤ 99 * ((m : Int) + 1) ∧ ∃ n, n ≤ m + 1 ∧ lvW E s n p (I2 132 p)) := by
    have := hx.2
    rw [am_up_a _ _ _ _ (show (132 : Nat) ≠ 133 by decide)] at this
    exact this
  have S1 : I2 133 best = 1 := by rw [e133, am_up_s]
  have S2 : ∀ p, p ≠ best → I2 133 p = I 133 p := fun p hp => by rw [e133, am_up_n _ _ _ _ hp]
  have Tb : I2 132 best = I 132 best := by rcases T best hb.1 hb.2 with e | ⟨a, b, -⟩ <;> omega
  refine ⟨fun p p0 p1 => ⟨?_, ?_, fun hp => ?_⟩, ?_, ?_, ?_⟩
  · by_cases e : p = best
    · rw [e, S1]; exact Or.inr rfl
    · rw [S2 p e]; exact (h1 p p0 p1).1
  · rcases T p p0 p1 with e | ⟨a, b, c, j⟩
    · rw [e]
      rcases (h1 p p0 p1).2.1 with f | ⟨f1, f2, n, f3, f4⟩
      · exact Or.inl f
      · exact Or.inr ⟨f1, by omega, n, by omega, f4⟩
    · exact Or.inr ⟨by omega, by omega, j⟩
  · by_cases e : p = best
    · subst e
      refine ⟨by omega, fun q x he => by rw [Tb]; exact hr q x he, fun q q0 q1 q2 q3 => ?_⟩
      have qb : q ≠ p := fun y => by rw [y] at q3; omega
      rw [S2 q qb] at q3
      rw [Tb]
      rcases T q q0 q1 with f | ⟨f, -⟩
      · have := b2 q q0 q1 (by omega) q3; omega
      · exact f
    · rw [S2 p e] at hp
      obtain ⟨g1, g2, g3⟩ := (h1 p p0 p1).2.2 hp
      have g4 := g3 best hb.1 hb.2 b0 b1
      have Tp : I2 132 p = I 132 p := by rcases T p p0 p1 with e | ⟨a, b, -⟩ <;> omega
      refine ⟨by omega, fun q x he => ?_, fun q q0 q1 q2 q3 => ?_⟩
      · have k := g2 q x he
        have qr := (hE _ _ _ he).2
        rcases T q qr.1 qr.2 with f | ⟨f1, f2, -⟩ <;> omega
      · have qb : q ≠ best := fun y => by rw [y] at q3; omega
        rw [S2 q qb] at q3
        rcases T q q0 q1 with f | ⟨f, -⟩
        · have := g3 q q0 q1 (by omega) q3; omega
        · omega
  · rcases T s hs.1 hs.2 with e | ⟨a, b, -⟩ <;> omega
  · rw [S2 200 (fun y => b3 y.symm)]; exact h3
  · rw [e133, lvN_u hb.1 b1 (am_up_s _ _ _ _) (fun p hp => am_up_n _ _ _ _ hp) (show best < (401 : Nat) by omega), h4]; omega
theorem lvZ.n {E : Int → Int → Int → Prop} {s : Int} {m : Nat} {I : (Nat → Int → Int)} (h : lvZ E s m I) (hE : ∀ p q x, E p q x → (0 ≤ p ∧ p ≤ 400) ∧ (0 ≤ q ∧ q ≤ 400)) (hs : 0 ≤ s ∧ s ≤ 400) (hn : ∀ p, 0 ≤ p → p ≤ 400 → 0 ≤ I 132 p → I 133 p ≠ 0) : lvR E s (-2) := by
  obtain ⟨h1, h2, h3, h4⟩ := h
  have key : ∀ n p c, lvW E s n p c → (0 ≤ p ∧ p ≤ 400) ∧ I 133 p = 1 := by
    intro n
    induction n with
    | zero =>
      intro p c hw
      obtain ⟨rfl, rfl⟩ := hw
      have a := hn _ hs.1 hs.2 (by omega)
      have b := (h1 _ hs.1 hs.2).1
      exact ⟨hs, by omega⟩
    | succ n ih =>
      intro p c hw
      obtain ⟨p', x, hw, he⟩ := hw
      obtain ⟨r, i⟩ := ih p' _ hw
      have qr := (hE _ _ _ he).2
      have k := ((h1 p' r.1 r.2).2.2 i).2.1 p x he
      have a := hn p qr.1 qr.2 k.1
      have b := (h1 p qr.1 qr.2).1
      exact ⟨qr, by omega⟩
  refine Or.inr ⟨rfl, fun n c hw => ?_⟩
  have := (key n 200 c hw).2
  omega
theorem lvZ.y {E : Int → Int → Int → Prop} {s : Int} {m : Nat} {I : (Nat → Int → Int)} (h : lvZ E s m I) (hE : ∀ p q x, E p q x → (0 ≤ p ∧ p ≤ 400) ∧ (0 ≤ q ∧ q ≤ 400)) (hE0 : ∀ p q x, E p q x → 0 ≤ x) (hs : 0 ≤ s ∧ s ≤ 400) (b0 : 0 ≤ I 132 200) (b2 : ∀ q, 0 ≤ q → q ≤ 400 → 0 ≤ I 132 q → I 133 q = 0 → I 132 200 ≤ I 132 q) : lvR E s (I 132 200) := by
  have hm := h.m
  obtain ⟨h1, h2, h3, h4⟩ := h
  have key : ∀ n p c, lvW E s n p c → (0 ≤ p ∧ p ≤ 400) ∧ ((I 133 p = 1 ∧ I 132 p ≤ c) ∨ I 132 200 ≤ c) := by
    intro n
    induction n with
    | zero =>
      intro p c hw
      obtain ⟨rfl, rfl⟩ := hw
      refine ⟨hs, ?_⟩
      rcases (h1 _ hs.1 hs.2).1 with e | e
      · have := b2 _ hs.1 hs.2 (by omega) e; omega
      · omega
    | succ n ih =>
      intro p c hw
      obtain ⟨p', x, hw, he⟩ := hw
      obtain ⟨r, i⟩ := ih p' _ hw
      have qr := (hE _ _ _ he).2
      have x0 := hE0 _ _ _ he
      refine ⟨qr, ?_⟩
      rcases i with ⟨i1, i2⟩ | i
      · have k := ((h1 p' r.1 r.2).2.2 i1).2.1 p x he
        rcases (h1 p qr.1 qr.2).1 with e | e
        · have := b2 p qr.1 qr.2 k.1 e; omega
        · omega
      · omega
  rcases (h1 200 (by omega) (by omega)).2.1 with e | ⟨e1, e2, n, e3, e4⟩
  · omega
  · refine Or.inl ⟨by omega, ⟨n, by omega, e4⟩, fun n c hw => ?_⟩
    have := (key n 200 c hw).2
    omega
