/-! 83: levelling: walks over 401 places -/
def lvC (V : (Nat → Int → Int)) (o e : Int) : Int := if o = 0 then V 8 e else 1
def lvE (V : (Nat → Int → Int)) (k o : Int) (A B : Prop) (p q x : Int) : Prop := (0 ≤ p ∧ p ≤ 400) ∧ (0 ≤ q ∧ q ≤ 400) ∧ ∃ e, (0 ≤ e ∧ e < V 0 1) ∧ V 6 e = k ∧ x = lvC V o e ∧ ((A ∧ q = p + V 7 e) ∨ (B ∧ q = p - V 7 e))
def lvW (E : Int → Int → Int → Prop) (s : Int) : Nat → Int → Int → Prop
  | 0, p, c => p = s ∧ c = 0
  | n + 1, p, c => ∃ p' x, lvW E s n p' (c - x) ∧ E p' p x
theorem lvC_b {V : (Nat → Int → Int)} {o e : Int} (hV : WV V) (h0 : 0 ≤ e) (h1 : e < V 0 1) : 0 ≤ lvC V o e ∧ lvC V o e ≤ 99 := by
  have := (hV.2.2.1 e h0 h1).2.2.1
  unfold lvC; split <;> omega
theorem lvE_b {V : (Nat → Int → Int)} {k o p q x : Int} {A B : Prop} (hV : WV V) (h : lvE V k o A B p q x) : 0 ≤ x ∧ x ≤ 99 := by
  obtain ⟨-, -, e, h1, -, h2, -⟩ := h
  rw [h2]; exact lvC_b hV h1.1 h1.2
theorem lvW_s {E : Int → Int → Int → Prop} {s : Int} {n : Nat} {p q c x : Int} (h : lvW E s n p c) (he : E p q x) : lvW E s (n + 1) q (c + x) := ⟨p, x, by rw [show c + x - x = c by omega]; exact h, he⟩
/-- the class's row: bounds, and a walk for each -/
def lvS (E : Int → Int → Int → Prop) (s : Int) (f : Int → Int) : Prop := ∀ p, 0 ≤ p → p ≤ 400 → (0 ≤ f p ∧ f p ≤ 1000000) ∧ (f p < 1000000 → ∃ n, lvW E s n p (f p))
def lvD (E : Int → Int → Int → Prop) (s : Int) (N : Nat) (f : Int → Int) : Prop := ∀ n, n ≤ N → ∀ p c, lvW E s n p c → f p ≤ c ∨ f 200 ≤ c
theorem lvD_0 {E : Int → Int → Int → Prop} {s : Int} {f : Int → Int} (h : f s ≤ 0) : lvD E s 0 f := by
  intro n hn p c hw
  obtain rfl : n = 0 := by omega
  obtain ⟨rfl, rfl⟩ := hw
  exact Or.inl h
theorem lvD_r {E : Int → Int → Int → Prop} {s : Int} {N : Nat} {f g : Int → Int} (hE : ∀ p q x, E p q x → 0 ≤ x) (h : lvD E s N f) (hm : ∀ q, g q ≤ f q) (hr : ∀ p q x, E p q x → g q ≤ f p + x ∨ g 200 ≤ f p) : lvD E s (N + 1) g := by
  intro n hn p c hw
  have m2 := hm 200
  cases n with
  | zero =>
    have m1 := hm p
    rcases h 0 (by omega) p c hw with a | a <;> omega
  | succ n =>
    obtain ⟨p', x, hw, he⟩ := hw
    have x0 := hE _ _ _ he
    rcases h n (by omega) p' _ hw with a | a
    · rcases hr _ _ _ he with b | b <;> omega
    · omega
theorem lvD_c {E : Int → Int → Int → Prop} {s : Int} {f : Int → Int} (hE : ∀ p q x, E p q x → 0 ≤ x) (h : lvD E s 0 f) (hr : ∀ p q x, E p q x → f q ≤ f p + x ∨ f 200 ≤ f p) : ∀ N, lvD E s N f
  | 0 => h
  | N + 1 => lvD_r hE (lvD_c hE h hr N) (fun _ => Int.le_refl _) hr
theorem lvD_m {E : Int → Int → Int → Prop} {s : Int} {N M : Nat} {f : Int → Int} (h : lvD E s N f) (hM : M ≤ N) : lvD E s M f := fun n hn => h n (by omega)
/-- what the class answers, what the reference answers -/
def lvA (E : Int → Int → Int → Prop) (s v : Int) : Prop := (v < 1000000 ∧ (∃ n, lvW E s n 200 v) ∧ ∀ n, n ≤ 402 → ∀ c, lvW E s n 200 c → v ≤ c) ∨ (v = -2 ∧ ∀ n, n ≤ 402 → ∀ c, lvW E s n 200 c → 1000000 ≤ c)
def lvR (E : Int → Int → Int → Prop) (s v : Int) : Prop := (v < 1000000 ∧ (∃ n, n ≤ 402 ∧ lvW E s n 200 v) ∧ ∀ n c, lvW E s n 200 c → v ≤ c) ∨ (v = -2 ∧ ∀ n c, ¬ lvW E s n 200 c)
theorem lv_same {E : Int → Int → Int → Prop} {s v v' : Int} (h : lvA E s v) (h' : lvR E s v') : v' = v := by
  rcases h with ⟨a, ⟨n, b⟩, c⟩ | ⟨a, b⟩ <;> rcases h' with ⟨a', ⟨n', b'1, b'2⟩, c'⟩ | ⟨a', b'⟩
  · have h1 := c n' b'1 v' b'2
    have h2 := c' n v b
    omega
  · exact absurd b (b' n v)
  · have := b n' b'1 v' b'2; omega
  · omega
/-- one lowering -/
def lvL (I : (Nat → Int → Int)) (p x : Int) : (Nat → Int → Int) := if 0 ≤ p ∧ p ≤ 400 ∧ x < I 89 p then am_up I 89 p x else I
def lvB (I : (Nat → Int → Int)) (p x : Int) : Int := if 0 ≤ p ∧ p ≤ 400 ∧ x < I 89 p then 1 else 0
def lvI (E : Int → Int → Int → Prop) (s : Int) (I0 I1 : (Nat → Int → Int)) (b : Int) : Prop := (b = 0 ∨ b = 1) ∧ (b = 0 → I1 = I0) ∧ (∀ a, a ≠ 89 → I1 a = I0 a) ∧ (∀ q, I1 89 q ≤ I0 89 q) ∧ lvS E s (I1 89)
theorem lvI.rf {E : Int → Int → Int → Prop} {s : Int} {I : (Nat → Int → Int)} (h : lvS E s (I 89)) : lvI E s I I 0 := ⟨Or.inl rfl, fun _ => rfl, fun _ _ => rfl, fun _ => Int.le_refl _, h⟩
theorem lvI.tr {E : Int → Int → Int → Prop} {s : Int} {I0 I1 I2 : (Nat → Int → Int)} {b b' : Int} (h : lvI E s I0 I1 b) (h' : lvI E s I1 I2 b') : lvI E s I0 I2 (if b' = 0 then b else 1) := by
  obtain ⟨a1, a2, a3, a4, a5⟩ := h
  obtain ⟨c1, c2, c3, c4, c5⟩ := h'
  refine ⟨?_, ?_, fun a ha => (c3 a ha).trans (a3 a ha), fun q => Int.le_trans (c4 q) (a4 q), c5⟩
  · split
    · exact a1
    · exact Or.inr rfl
  · split
    · rename_i e; intro y; rw [c2 e, a2 y]
    · intro y; omega
theorem lvL_m {I : (Nat → Int → Int)} {p x : Int} (q : Int) : lvL I p x 89 q ≤ I 89 q := by
  unfold lvL
  split
  · by_cases e : q = p
    · subst e; rw [am_up_s]; omega
    · rw [am_up_n _ _ _ _ e]; exact Int.le_refl _
  · exact Int.le_refl _
theorem lvL_x {I : (Nat → Int → Int)} {p x : Int} (h0 : 0 ≤ p) (h1 : p ≤ 400) : lvL I p x 89 p ≤ x := by
  unfold lvL
  split
  · rw [am_up_s]; exact Int.le_refl _
  · omega
theorem lvL_k {I : (Nat → Int → Int)} {p x q : Int} (h : I 89 q ≤ x) : lvL I p x 89 q = I 89 q := by
  unfold lvL
  split
  · by_cases e : q = p
    · subst e; omega
    · rw [am_up_n _ _ _ _ e]
  · rfl
theorem lv_lo {E : Int → Int → Int → Prop} {s : Int} {I : (Nat → Int → Int)} {p x : Int} (h : lvS E s (I 89)) (h0 : 0 ≤ x) (hw : 0 ≤ p → p ≤ 400 → ∃ n, lvW E s n p x) : lvI E s I (lvL I p x) (lvB I p x) := by
  refine ⟨?_, ?_, ?_, lvL_m, ?_⟩
  · unfold lvB; split
    · exact Or.inr rfl
    · exact Or.inl rfl
  · unfold lvB lvL; split
    · intro y; omega
    · intro _; rfl
  · intro a ha; unfold lvL; split
    · exact am_up_a _ _ _ _ ha
    · rfl
  · unfold lvL
    split
    · rename_i c
      intro q q0 q1
      have hq := h q q0 q1
      by_cases e : q = p
      · subst e; rw [am_up_s]; exact ⟨by omega, fun _ => hw q0 q1⟩
      · rw [am_up_n _ _ _ _ e]; exact hq
    · exact h
