/-! 9g: the line kind (reference) -/
def finF (s : Nat → Int) (r : Int × Nat × (Nat → Int → Int)) : Int × Nat × (Nat → Int → Int) := if r.1 = 0 then endF s r.2.1 r.2.2 else r
def kdG (s u : Nat → Int) (X : (Nat → Int → Int)) (k : Nat) : Int × Nat × (Nat → Int → Int) := if X 0 0 < 6 then bnd (nnF s u (X 1) (X 0 0).toNat (k + 1)) X (fun a k1 => bnd (nmF s u k1 9) X (fun b k2 => bnd (nmF s u k2 9) X (fun c k3 => (0, k3, am_up (am_up (am_up (am_up X 1 (X 0 0) a) 2 (X 0 0) b) 3 (X 0 0) c) 0 0 (X 0 0 + 1))))) else (2, k, X)
theorem bnd_f {s : Nat → Int} {r : Int × Nat × Int} {X : (Nat → Int → Int)} {f g : Int → Nat → Int × Nat × (Nat → Int → Int)} (h : ∀ a k, f a k = finF s (g a k)) : bnd r X f = finF s (bnd r X g) := by
  unfold bnd
  by_cases c : r.1 = 0
  · rw [if_pos c, if_pos c, h]
  · rw [if_neg c, if_neg c]; unfold finF; rw [if_neg c]
theorem fin_0 {s : Nat → Int} {k : Nat} {X : (Nat → Int → Int)} : endF s k X = finF s (0, k, X) := by unfold finF; rw [if_pos rfl]
theorem kdF_g {s u : Nat → Int} {X : (Nat → Int → Int)} {k : Nat} : kdF s u X k = finF s (kdG s u X k) := by
  unfold kdF kdG
  by_cases c : X 0 0 < 6
  · rw [if_pos c, if_pos c]
    exact bnd_f (fun a k1 => bnd_f (fun b k2 => bnd_f (fun e k3 => fin_0)))
  · rw [if_neg c, if_neg c]; rfl
theorem NX.kd {I I' X : (Nat → Int → Int)} {c : Nat} {a b v : Int} (h : NX I X) (hc : X 0 0 = c) (h1 : I' 103 = am_up I 103 (6 + c) a 103) (h2 : I' 104 = am_up I 104 (6 + c) b 104) (h3 : I' 105 = am_up I 105 (6 + c) v 105) (f : ∀ q, 102 ≤ q → q ≤ 122 → q ≠ 103 → q ≠ 104 → q ≠ 105 → I' q = I q) (g : ∀ x, (17 ≤ x ∧ x ≤ 21) ∨ x = 48 ∨ x = 4 ∨ x = 5 → I' 99 x = I 99 x) (g0 : I' 99 16 = (c : Int) + 1) : NX I' (am_up (am_up (am_up (am_up X 1 c a) 2 c b) 3 c v) 0 0 ((c : Int) + 1)) := by
  obtain ⟨⟨⟨p1, p2, p3⟩, p4, p5, p6⟩, ⟨q1, q2, q3⟩, r1, r2, r3, r4, r5, r6, r7⟩ := h
  unfold NX
  simp (disch := decide) only [am_up_a, am_up_n, am_up_s]
  rw [h1, h2, h3, g 4 (by omega), g 5 (by omega), g 17 (by omega), g 18 (by omega), g 19 (by omega), g 20 (by omega), g 21 (by omega), g 48 (by omega), f 102 (by omega) (by omega) (by omega) (by omega) (by omega), f 106 (by omega) (by omega) (by omega) (by omega) (by omega), f 107 (by omega) (by omega) (by omega) (by omega) (by omega), f 108 (by omega) (by omega) (by omega) (by omega) (by omega), f 109 (by omega) (by omega) (by omega) (by omega) (by omega), f 110 (by omega) (by omega) (by omega) (by omega) (by omega), f 111 (by omega) (by omega) (by omega) (by omega) (by omega), f 112 (by omega) (by omega) (by omega) (by omega) (by omega), f 113 (by omega) (by omega) (by omega) (by omega) (by omega), f 114 (by omega) (by omega) (by omega) (by omega) (by omega), f 115 (by omega) (by omega) (by omega) (by omega) (by omega), f 116 (by omega) (by omega) (by omega) (by omega) (by omega), f 117 (by omega) (by omega) (by omega) (by omega) (by omega), f 118 (by omega) (by omega) (by omega) (by omega) (by omega), f 119 (by omega) (by omega) (by omega) (by omega) (by omega), f 120 (by omega) (by omega) (by omega) (by omega) (by omega), f 121 (by omega) (by omega) (by omega) (by omega) (by omega), f 122 (by omega) (by omega) (by omega) (by omega) (by omega)]
  refine ⟨⟨⟨g0, p2, p3⟩, p4, p5, p6⟩, ⟨q1, q2, q3⟩, fun j j0 j1 => ?_, r2, r3, r4, r5, r6, r7⟩
  by_cases e : j = c
  · subst e; simp only [am_up_s]; exact ⟨trivial, trivial, trivial⟩
  · have := r1 j j0 (by omega)
    rw [am_up_n I _ _ _ (by omega), am_up_n I _ _ _ (by omega), am_up_n I _ _ _ (by omega), am_up_n X _ _ _ e, am_up_n _ _ _ _ e, am_up_n _ _ _ _ e]
    rw [am_up_a _ _ _ _ (show (2 : Nat) ≠ 1 by decide), am_up_a _ _ _ _ (show (3 : Nat) ≠ 2 by decide), am_up_a _ _ _ _ (show (3 : Nat) ≠ 1 by decide)]
    exact this
theorem MCo.bad {w : (Nat × Nat × Nat × Nat)} {I : (Nat → Int → Int)} {s u pl P : Nat → Int} {T : Int → Int} {n : Int} {L X : (Nat → Int → Int)} {r : Int × Nat × Int} {f : Int → Nat → Int × Nat × (Nat → Int → Int)} {Q : Option am_V → am_H → Prop} (h : MCo w I s u pl P T n L (bnd r X f) Q) (h1 : r.1 ≠ 0) {I' : (Nat → Int → Int)} (hc : PF I I') (e0 : I' 99 4 = r.1) (e1 : I' 99 5 = pl r.2.1) : Q (some (vI 0)) (mkH w I' L) := by
  unfold bnd at h
  rw [if_neg h1] at h
  exact h.2 I' hc h1 e0 e1
theorem MCo.ok {w : (Nat × Nat × Nat × Nat)} {I : (Nat → Int → Int)} {s u pl P : Nat → Int} {T : Int → Int} {n : Int} {L X : (Nat → Int → Int)} {r : Int × Nat × Int} {f : Int → Nat → Int × Nat × (Nat → Int → Int)} {Q : Option am_V → am_H → Prop} (h : MCo w I s u pl P T n L (bnd r X f) Q) (h1 : r.1 = 0) : MCo w I s u pl P T n L (f r.2.2 r.2.1) Q := by
  unfold bnd at h
  rw [if_pos h1] at h
  exact h
