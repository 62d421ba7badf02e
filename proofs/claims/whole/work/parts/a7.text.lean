/-! a7: a text that is kept -/
def lwX (X : (Nat → Int → Int)) : (Int → (Int → Int) → Int) := fun l nm => if X 17 l < 0 then mE else px_val (X 16) nm (X 17 l) (X 18 l - X 17 l).toNat
theorem PX.rw {w : (Nat × Nat × Nat × Nat)} {I X : (Nat → Int → Int)} {sp : Nat} (h : PX w I X) (hw : w.2.2.1 = sp) : RW I sp X := by
  subst hw
  obtain ⟨⟨p1, p2, p3, p4, p5, p6⟩, q, r, t⟩ := h
  have e : ∀ a, 1 ≤ a → a ≤ 14 → ∀ k, I (w.2.2.1 + a) k = X a k := fun a x y k => by rw [r a x y]
  exact ⟨⟨p1, p2, p3⟩, fun k _ _ => ⟨e 1 (by decide) (by decide) k, e 2 (by decide) (by decide) k, e 3 (by decide) (by decide) k⟩, fun k _ _ => ⟨e 5 (by decide) (by decide) k, e 6 (by decide) (by decide) k, e 7 (by decide) (by decide) k, e 8 (by decide) (by decide) k, e 9 (by decide) (by decide) k⟩, fun k _ _ => ⟨e 10 (by decide) (by decide) k, e 11 (by decide) (by decide) k, e 12 (by decide) (by decide) k⟩, fun k _ _ => ⟨e 14 (by decide) (by decide) k, e 13 (by decide) (by decide) k⟩, fun k _ _ => e 4 (by decide) (by decide) k, p4, p5⟩
theorem PX.rl {w : (Nat × Nat × Nat × Nat)} {I X : (Nat → Int → Int)} {sp : Nat} (h : PX w I X) (hw : w.2.2.1 = sp) (hx : LVx X) (h6 : X 0 6 ≤ 64) : RLw I sp (lwX X) := by
  subst hw
  obtain ⟨p, q, r, t16, t17, t18, t0, t1⟩ := h
  intro l l0 l1
  unfold RLl
  rw [t16, t17, t18]
  rcases hx.2 l l0 l1 with z | ⟨m, m1, m2, m3, m4, m5, m6⟩
  · exact Or.inl ⟨z, fun nm => by unfold lwX; rw [if_pos z]⟩
  · exact Or.inr ⟨m, m2, m3, by omega, fun j j0 j1 => (m5 j j0 j1).1, fun nm hn => by unfold lwX; rw [if_neg (by omega), show (X 18 l - X 17 l).toNat = m by omega]⟩
theorem KTx.g {I J : (Nat → Int → Int)} (k : KTx I J) : ∀ a n j, 102 ≤ a → a ≤ 122 → a ≠ 115 → hfN a = n → 0 ≤ j → j < n → J a j = I a (n + j) := fun a n j h1 h2 h3 e j0 j1 => by subst e; exact k.2.2.2 a j h1 h2 h3 j0 j1
theorem KTx.mw {I J X : (Nat → Int → Int)} (k : KTx I J) (h : NX I X) (b : BX X) : MW J X := by
  have g := k.g
  obtain ⟨-, -, ⟨g12, g13, g14, g15⟩, -⟩ := k
  obtain ⟨⟨⟨p1, p2, p3⟩, p4, p5, p6⟩, ⟨q1, q2, q3⟩, r1, r2, r3, r4, r5, r6, r7, r8⟩ := h
  obtain ⟨b1, ⟨b4, b6⟩, b7⟩ := b
  refine ⟨⟨g12.trans p1, g13.trans p2, g14.trans p3⟩, fun k k0 k1 => ?_, fun k k0 k1 => ?_, fun k k0 k1 => ?_, fun k k0 k1 => ?_, fun k k0 k1 => ?_, ?_, by rw [g15, p5, b4]⟩
  · rw [g 103 6 k (by decide) (by decide) (by decide) rfl k0 (by omega), g 104 6 k (by decide) (by decide) (by decide) rfl k0 (by omega), g 105 6 k (by decide) (by decide) (by decide) rfl k0 (by omega)]; exact r1 k k0 k1
  · rw [g 107 8 k (by decide) (by decide) (by decide) rfl k0 (by omega), g 108 8 k (by decide) (by decide) (by decide) rfl k0 (by omega), g 109 8 k (by decide) (by decide) (by decide) rfl k0 (by omega), g 110 8 k (by decide) (by decide) (by decide) rfl k0 (by omega), g 111 8 k (by decide) (by decide) (by decide) rfl k0 (by omega)]; exact r3 k k0 k1
  · rw [g 112 12 k (by decide) (by decide) (by decide) rfl k0 (by omega), g 113 12 k (by decide) (by decide) (by decide) rfl k0 (by omega), g 114 12 k (by decide) (by decide) (by decide) rfl k0 (by omega)]; exact r4 k k0 k1
  · rw [g 116 4 k (by decide) (by decide) (by decide) rfl k0 (by omega), g 116 4 (2 + k) (by decide) (by decide) (by decide) rfl (by omega) (by omega), show 4 + (2 + k) = 6 + k by omega]; exact ⟨(r5 k k0 k1).2, (r5 k k0 k1).1⟩
  · rw [g 106 12 k (by decide) (by decide) (by decide) rfl k0 (by omega)]; exact r2 k k0 k1
  · rw [g 102 1 0 (by decide) (by decide) (by decide) rfl (by decide) (by decide)]; exact q1
theorem KTx.ml {I J X : (Nat → Int → Int)} (k : KTx I J) (h : NX I X) (hx : LVx X) (h6 : X 0 6 ≤ 64) : ML J (lwX X) := by
  have g := k.g
  obtain ⟨-, -, -, -, -, -, -, r6, r7, -⟩ := h
  intro l l0 l1
  unfold MLl
  rw [g 117 3 l (by decide) (by decide) (by decide) rfl l0 l1, g 118 3 l (by decide) (by decide) (by decide) rfl l0 l1, g 119 3 l (by decide) (by decide) (by decide) rfl l0 l1]
  rcases r6 l l0 l1 with ⟨z1, z2⟩ | ⟨z1, z2, z3, z4⟩
  · exact Or.inl ⟨z1, fun nm => by unfold lwX; rw [if_pos z2]⟩
  · rcases hx.2 l l0 l1 with z | ⟨m, m1, m2, m3, m4, m5, m6⟩
    · omega
    · rw [z3, z4]
      have e : ∀ j, X 17 l ≤ j → j < X 18 l → J 120 j = X 19 j ∧ J 121 j = X 20 j ∧ J 122 j = X 21 j := fun j j0 j1 => by
        rw [g 120 64 j (by decide) (by decide) (by decide) rfl (by omega) (by omega), g 121 64 j (by decide) (by decide) (by decide) rfl (by omega) (by omega), g 122 64 j (by decide) (by decide) (by decide) rfl (by omega) (by omega)]
        exact r7 j (by omega) (by omega)
      refine Or.inr ⟨z1, m, m1, m2, m3, by omega, fun j j0 j1 => ?_, fun nm hn => ?_⟩
      · rw [(e j j0 j1).1, (e j j0 j1).2.1, (e j j0 j1).2.2]; exact (m5 j j0 j1).2
      · rw [px_mval_c (kn' := X 19) (pa' := X 20) (ot' := X 21) (fun j j0 j1 => e j j0 (by omega)), ← m6 nm hn]
        unfold lwX; rw [if_neg (by omega), show (X 18 l - X 17 l).toNat = m by omega]
theorem cz_bn_at {I : (Nat → Int → Int)} : (∀ a, a ≠ 99 → ¬ (127 ≤ a ∧ a ≤ 131) → cz_bn I a = I a) ∧ (∀ a, a ≠ 99 → cz_bn I a = cz_af I 0 a) ∧ (∀ x, x ≠ 70 → x ≠ 71 → x ≠ 74 → x ≠ 76 → (x < 60 ∨ 68 ≤ x) → cz_bn I 99 x = I 99 x) ∧ (cz_bn I 99 70 = 0 ∧ cz_bn I 99 71 = -1 ∧ cz_bn I 99 74 = 0 ∧ cz_bn I 99 76 = 0) := by
  obtain ⟨pa, pb, -⟩ := cz_pl_at (I := cz_af I 0)
  have af := (cz_af_at (I := I) (b := 0)).1
  have s1 : ∀ a, a ≠ 99 → cz_bn I a = cz_af I 0 a := fun a ha => by unfold cz_bn; rw [am_up_a _ _ _ _ ha, am_up_a _ _ _ _ ha, am_up_a _ _ _ _ ha, am_up_a _ _ _ _ ha]; exact pa a ha
  refine ⟨fun a h1 h2 => by rw [s1 a h1]; exact af a (by omega), s1, fun x h1 h2 h3 h4 h5 => ?_, ?_, ?_, ?_, ?_⟩
  · unfold cz_bn; rw [am_up_n _ _ _ _ h4, am_up_n _ _ _ _ h3, am_up_n _ _ _ _ h2, am_up_n _ _ _ _ h1, pb x h5, af 99 (by omega)]
  all_goals (unfold cz_bn; simp (disch := decide) only [am_up_n, am_up_s])
theorem MS.bn {I L V : (Nat → Int → Int)} (h : MW I V) : MS (cz_bn I) (am_up L 99 59 (I 102 0)) 0 (px_beg V) := by
  have z := MS.af (L := am_up L 99 59 (I 102 0)) (b := 0) h
  rw [am_up_s, h.2.2.2.2.2.2.1, am_up_e (show px_beg V 0 8 = V 0 3 by rfl)] at z
  rw [h.2.2.2.2.2.2.1]
  exact z.k (fun a x y => cz_bn_at.2.1 a (by omega))
