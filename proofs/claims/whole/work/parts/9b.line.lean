/-! 9b: lines, pure; the class's picture of a text in the making -/
def bnd (r : Int × Nat × Int) (X : (Nat → Int → Int)) (f : Int → Nat → Int × Nat × (Nat → Int → Int)) : Int × Nat × (Nat → Int → Int) := if r.1 = 0 then f r.2.2 r.2.1 else (r.1, r.2.1, X)
def endF (s : Nat → Int) (k : Nat) (X : (Nat → Int → Int)) : Int × Nat × (Nat → Int → Int) := if s k = 59 then (0, k + 1, X) else (1, k, X)
def bit1 (t b : Int) : Int := am_and (am_shr t b) 1
def bitO (t b : Int) : Int := am_or t (am_shl 1 b)
def kdF (s u : Nat → Int) (X : (Nat → Int → Int)) (k : Nat) : Int × Nat × (Nat → Int → Int) := if X 0 0 < 6 then bnd (nnF s u (X 1) (X 0 0).toNat (k + 1)) X (fun a k1 => bnd (nmF s u k1 9) X (fun b k2 => bnd (nmF s u k2 9) X (fun c k3 => endF s k3 (am_up (am_up (am_up (am_up X 1 (X 0 0) a) 2 (X 0 0) b) 3 (X 0 0) c) 0 0 (X 0 0 + 1))))) else (2, k, X)
def hsF (s u : Nat → Int) (X : (Nat → Int → Int)) (k : Nat) : Int × Nat × (Nat → Int → Int) := if X 0 5 < 12 then bnd (nmF s u (k + 1) 1) X (fun t k1 => bnd (onF s u (X 1) (X 0 0).toNat k1) X (fun e k2 => bnd (sgF s u k2 99) X (fun v k3 => endF s k3 (am_up (am_up X 4 (2 * e + t) v) 0 5 (X 0 5 + 1))))) else (2, k, X)
def ddF (s u : Nat → Int) (X : (Nat → Int → Int)) (k : Nat) : Int × Nat × (Nat → Int → Int) := if X 0 1 < 8 then bnd (nnF s u (X 5) (X 0 1).toNat (k + 1)) X (fun a k1 => bnd (onF s u (X 1) (X 0 0).toNat k1) X (fun e k2 => bnd (sgF s u k2 9) X (fun v k3 => bnd (nmF s u k3 99) X (fun c k4 => bnd (nmF s u k4 100) X (fun o k5 => endF s k5 (am_up (am_up (am_up (am_up (am_up (am_up X 5 (X 0 1) a) 6 (X 0 1) e) 7 (X 0 1) v) 8 (X 0 1) c) 9 (X 0 1) o) 0 1 (X 0 1 + 1))))))) else (2, k, X)
def doF (s u : Nat → Int) (X : (Nat → Int → Int)) (k : Nat) : Int × Nat × (Nat → Int → Int) := if X 0 2 < 12 then bnd (nmF s u (k + 1) 1) X (fun t k1 => bnd (onF s u (X 5) (X 0 1).toNat k1) X (fun e k2 => bnd (nmF s u k2 99) X (fun v k3 => endF s k3 (am_up (am_up (am_up (am_up X 10 (X 0 2) t) 11 (X 0 2) e) 12 (X 0 2) v) 0 2 (X 0 2 + 1))))) else (2, k, X)
def prF (s u : Nat → Int) (a : Nat) (fb most : Int) (X : (Nat → Int → Int)) (k : Nat) : Int × Nat × (Nat → Int → Int) := bnd (nmF s u (k + 1) 1) X (fun t k1 => if bit1 (X 0 7) (fb + t) = 0 then bnd (nmF s u k1 most) X (fun v k2 => endF s k2 (am_up (am_up X 0 7 (bitO (X 0 7) (fb + t))) a t v)) else (3, k1 - 1, X))
def sdF (s u : Nat → Int) (X : (Nat → Int → Int)) (k : Nat) : Int × Nat × (Nat → Int → Int) := if bit1 (X 0 7) 4 = 0 then bnd (nmF s u (k + 1) 99999) X (fun v k1 => endF s k1 (am_up (am_up X 0 7 (bitO (X 0 7) 4)) 0 3 v)) else (3, k, X)
/-- the class's picture: parser, and the world that it fills -/
def PX (w : (Nat × Nat × Nat × Nat)) (I X : (Nat → Int → Int)) : Prop := (I w.2.2.1 0 = X 0 0 ∧ I w.2.2.1 5 = X 0 1 ∧ I w.2.2.1 11 = X 0 2 ∧ I w.2.2.1 17 = X 0 3 ∧ I (w.2.2.1 + 15) 2 = X 0 4 ∧ I (w.2.2.1 + 15) 1 = X 0 6) ∧ (I 44 5 = X 0 5 ∧ I 44 6 = X 0 7) ∧ (∀ a, 1 ≤ a → a ≤ 14 → I (w.2.2.1 + a) = X a) ∧ (I (w.2.2.1 + 16) = X 16 ∧ I (w.2.2.1 + 17) = X 17 ∧ I (w.2.2.1 + 18) = X 18 ∧ I 44 0 = X 0 11 ∧ I 44 1 = X 0 12)
theorem PX.fr {w : (Nat × Nat × Nat × Nat)} {I I' X : (Nat → Int → Int)} (h : PX w I X) (hW : isW w.2.2.1) (f : ∀ a, a ≠ 44 → I' a = I a) (g : ∀ j, j = 0 ∨ j = 1 ∨ j = 5 ∨ j = 6 → I' 44 j = I 44 j) : PX w I' X := by
  have hl := isW_le hW
  unfold PX at h ⊢
  rw [f _ (by omega), f (w.2.2.1 + 15) (by omega), g 5 (by decide), g 6 (by decide), g 0 (by decide), g 1 (by decide), f (w.2.2.1 + 16) (by omega), f (w.2.2.1 + 17) (by omega), f (w.2.2.1 + 18) (by omega)]
  exact ⟨h.1, h.2.1, fun a x y => by rw [f _ (by omega)]; exact h.2.2.1 a x y, h.2.2.2⟩
theorem PX.cf {w : (Nat × Nat × Nat × Nat)} {I I' X : (Nat → Int → Int)} (h : PX w I X) (hW : isW w.2.2.1) (f : CS I I') : PX w I' X := h.fr hW f.1 (fun j hj => f.2 j (by omega))
/-- an array's cell -/
theorem PX.u {w : (Nat × Nat × Nat × Nat)} {I X : (Nat → Int → Int)} {a : Nat} {j v : Int} (h : PX w I X) (hW : isW w.2.2.1) (h1 : 1 ≤ a) (h2 : a ≤ 14) : PX w (am_up I (w.2.2.1 + a) j v) (am_up X a j v) := by
  have hl := isW_le hW
  obtain ⟨p, q, r, t⟩ := h
  unfold PX
  rw [am_up_a I _ _ _ (show w.2.2.1 ≠ w.2.2.1 + a by omega), am_up_a I _ _ _ (show w.2.2.1 + 15 ≠ w.2.2.1 + a by omega), am_up_a I _ _ _ (show 44 ≠ w.2.2.1 + a by omega), am_up_a I _ _ _ (show w.2.2.1 + 16 ≠ w.2.2.1 + a by omega), am_up_a I _ _ _ (show w.2.2.1 + 17 ≠ w.2.2.1 + a by omega), am_up_a I _ _ _ (show w.2.2.1 + 18 ≠ w.2.2.1 + a by omega), am_up_a X _ _ _ (show 0 ≠ a by omega), am_up_a X _ _ _ (show 16 ≠ a by omega), am_up_a X _ _ _ (show 17 ≠ a by omega), am_up_a X _ _ _ (show 18 ≠ a by omega)]
  refine ⟨p, q, fun b x y => ?_, t⟩
  by_cases e : b = a
  · subst e
    funext i
    unfold am_up
    rw [r b x y]
    by_cases ei : i = j
    · rw [if_pos ⟨rfl, ei⟩, if_pos ⟨rfl, ei⟩]
    · rw [if_neg (fun z => ei z.2), if_neg (fun z => ei z.2)]
  · rw [am_up_a I _ _ _ (by omega), am_up_a X _ _ _ e]; exact r b x y
/-- a count of the world -/
theorem PX.c {w : (Nat × Nat × Nat × Nat)} {I X : (Nat → Int → Int)} {i j v : Int} (h : PX w I X) (hW : isW w.2.2.1) (hi : (i = 0 ∧ j = 0) ∨ (i = 5 ∧ j = 1) ∨ (i = 11 ∧ j = 2) ∨ (i = 17 ∧ j = 3)) : PX w (am_up I w.2.2.1 i v) (am_up X 0 j v) := by
  have hl := isW_le hW
  obtain ⟨⟨p1, p2, p3, p4, p5, p6⟩, q, r, t⟩ := h
  unfold PX
  rw [am_up_a I _ _ _ (show w.2.2.1 + 15 ≠ w.2.2.1 by omega), am_up_a I _ _ _ (show 44 ≠ w.2.2.1 by omega), am_up_a I _ _ _ (show w.2.2.1 + 16 ≠ w.2.2.1 by omega), am_up_a I _ _ _ (show w.2.2.1 + 17 ≠ w.2.2.1 by omega), am_up_a I _ _ _ (show w.2.2.1 + 18 ≠ w.2.2.1 by omega), am_up_a X _ _ _ (show 16 ≠ 0 by omega), am_up_a X _ _ _ (show 17 ≠ 0 by omega), am_up_a X _ _ _ (show 18 ≠ 0 by omega)]
  refine ⟨?_, ?_, fun b x y => by rw [am_up_a I _ _ _ (by omega), am_up_a X _ _ _ (by omega)]; exact r b x y, ?_⟩
  · rcases hi with ⟨rfl, rfl⟩ | ⟨rfl, rfl⟩ | ⟨rfl, rfl⟩ | ⟨rfl, rfl⟩ <;> simp [am_up, p1, p2, p3, p4, p5, p6]
  · rcases hi with ⟨rfl, rfl⟩ | ⟨rfl, rfl⟩ | ⟨rfl, rfl⟩ | ⟨rfl, rfl⟩ <;> simp [am_up, q]
  · rcases hi with ⟨rfl, rfl⟩ | ⟨rfl, rfl⟩ | ⟨rfl, rfl⟩ | ⟨rfl, rfl⟩ <;> simp [am_up, t]
/-- the parser's own counts -/
theorem PX.p {w : (Nat × Nat × Nat × Nat)} {I X : (Nat → Int → Int)} {i j v : Int} (h : PX w I X) (hW : isW w.2.2.1) (hi : (i = 5 ∧ j = 5) ∨ (i = 6 ∧ j = 7)) : PX w (am_up I 44 i v) (am_up X 0 j v) := by
  have hl := isW_le hW
  obtain ⟨p, ⟨q1, q2⟩, r, t⟩ := h
  unfold PX
  rw [am_up_a I _ _ _ (show w.2.2.1 ≠ 44 by omega), am_up_a I _ _ _ (show w.2.2.1 + 15 ≠ 44 by omega), am_up_a I _ _ _ (show w.2.2.1 + 16 ≠ 44 by omega), am_up_a I _ _ _ (show w.2.2.1 + 17 ≠ 44 by omega), am_up_a I _ _ _ (show w.2.2.1 + 18 ≠ 44 by omega), am_up_a X _ _ _ (show 16 ≠ 0 by omega), am_up_a X _ _ _ (show 17 ≠ 0 by omega), am_up_a X _ _ _ (show 18 ≠ 0 by omega)]
  refine ⟨?_, ?_, fun b x y => by rw [am_up_a I _ _ _ (by omega), am_up_a X _ _ _ (by omega)]; exact r b x y, ?_⟩
  · rcases hi with ⟨rfl, rfl⟩ | ⟨rfl, rfl⟩ <;> simp [am_up, p]
  · rcases hi with ⟨rfl, rfl⟩ | ⟨rfl, rfl⟩ <;> simp [am_up, q1, q2]
  · rcases hi with ⟨rfl, rfl⟩ | ⟨rfl, rfl⟩ <;> simp [am_up, t]
/-- what a line may change, on the class's side -/
def CW (w : (Nat × Nat × Nat × Nat)) (I I' : (Nat → Int → Int)) : Prop := ∀ a, a ≠ 44 → a ≠ 50 → ¬ (w.2.2.1 ≤ a ∧ a ≤ w.2.2.1 + 20) → I' a = I a
theorem CW.rf {w : (Nat × Nat × Nat × Nat)} {I : (Nat → Int → Int)} : CW w I I := fun _ _ _ _ => rfl
theorem CW.tr {w : (Nat × Nat × Nat × Nat)} {I I' I'' : (Nat → Int → Int)} (h : CW w I I') (h' : CW w I' I'') : CW w I I'' := fun a x y z => (h' a x y z).trans (h a x y z)
theorem CW.cs {w : (Nat × Nat × Nat × Nat)} {I I' : (Nat → Int → Int)} (h : CS I I') : CW w I I' := fun a x _ _ => h.1 a x
theorem CW.cf {w : (Nat × Nat × Nat × Nat)} {I I' : (Nat → Int → Int)} (h : CF I I') : CW w I I' := fun a x _ _ => h.1 a x
theorem CW.up {w : (Nat × Nat × Nat × Nat)} {I I' : (Nat → Int → Int)} {a : Nat} {i v : Int} (h : CW w I I') (ha : a = 44 ∨ a = 50 ∨ (w.2.2.1 ≤ a ∧ a ≤ w.2.2.1 + 20)) : CW w I (am_up I' a i v) := fun b x y z => by
  rw [am_up_a _ _ _ _ (show b ≠ a by omega)]; exact h b x y z
theorem cT.cw {w : (Nat × Nat × Nat × Nat)} {s u pl : Nat → Int} {K : Nat} {I I' : (Nat → Int → Int)} (h : cT s u pl K I) (hW : isW w.2.2.1) (f : CW w I I') : cT s u pl K I' := by
  have hl := isW_le hW
  exact h.fr (f 46 (by decide) (by decide) (by omega)) (f 47 (by decide) (by decide) (by omega)) (f 48 (by decide) (by decide) (by omega))
def LCo (w : (Nat × Nat × Nat × Nat)) (I : (Nat → Int → Int)) (pl : Nat → Int) (L : (Nat → Int → Int)) (r : Int × Nat × (Nat → Int → Int)) (Q : Option am_V → am_H → Prop) : Prop := (∀ I', CW w I I' → r.1 = 0 → PX w I' r.2.2 → I' 44 3 = (r.2.1 : Int) → Q (some (vI 1)) (mkH w I' L)) ∧ (∀ I', CW w I I' → r.1 ≠ 0 → I' 44 0 = r.1 → I' 44 1 = pl r.2.1 → Q (some (vI 0)) (mkH w I' L))
theorem LCo.tr {w : (Nat × Nat × Nat × Nat)} {I I1 : (Nat → Int → Int)} {pl : Nat → Int} {L : (Nat → Int → Int)} {r : Int × Nat × (Nat → Int → Int)} {Q : Option am_V → am_H → Prop} (h : LCo w I pl L r Q) (f : CW w I I1) : LCo w I1 pl L r Q := ⟨fun I' c => h.1 I' (f.tr c), fun I' c => h.2 I' (f.tr c)⟩
theorem LCo.bad {w : (Nat × Nat × Nat × Nat)} {I : (Nat → Int → Int)} {pl : Nat → Int} {L X : (Nat → Int → Int)} {r : Int × Nat × Int} {f : Int → Nat → Int × Nat × (Nat → Int → Int)} {Q : Option am_V → am_H → Prop} (h : LCo w I pl L (bnd r X f) Q) (h1 : r.1 ≠ 0) {I' : (Nat → Int → Int)} (hc : CW w I I') (e0 : I' 44 0 = r.1) (e1 : I' 44 1 = pl r.2.1) : Q (some (vI 0)) (mkH w I' L) := by
  unfold bnd at h
  rw [if_neg h1] at h
  exact h.2 I' hc h1 e0 e1
theorem LCo.ok {w : (Nat × Nat × Nat × Nat)} {I : (Nat → Int → Int)} {pl : Nat → Int} {L X : (Nat → Int → Int)} {r : Int × Nat × Int} {f : Int → Nat → Int × Nat × (Nat → Int → Int)} {Q : Option am_V → am_H → Prop} (h : LCo w I pl L (bnd r X f) Q) (h1 : r.1 = 0) : LCo w I pl L (f r.2.2 r.2.1) Q := by
  unfold bnd at h
  rw [if_pos h1] at h
  exact h
theorem c_end {d : Nat} {w : Nat × Nat × Nat × Nat} {I L : Nat → Int → Int} {s u pl : Nat → Int} {K k : Nat} {X : (Nat → Int → Int)} (hT : cT s u pl K I) (hW : isW w.2.2.1) (hX : PX w I X) (h3 : I 44 3 = k) (hk : k ≤ K) (hK : K ≤ 700) {Q : Option am_V → am_H → Prop} (q : LCo w I pl L (endF s k X) Q) : am_Sp (d + 1) 30 [vR (some 44)] (mkH w I L) Q := by
  obtain ⟨q1, q2⟩ := q
  refine s30 hT h3 hk hK (fun c => ?_) (fun c => ?_)
  · have e : endF s k X = (0, k + 1, X) := by unfold endF; rw [if_pos c]
    rw [e] at q1
    exact q1 _ (CW.rf.up (Or.inl rfl)) rfl (hX.cf hW (CS.rf.up (by decide))) (by rw [am_up_s]; rfl)
  · have e : endF s k X = (1, k, X) := by unfold endF; rw [if_neg c]
    rw [e] at q2
    dsimp only at q2
    exact q2 _ ((CW.rf.up (Or.inl rfl)).up (Or.inl rfl)) (by decide) (by rw [am_up_n _ _ _ _ (by decide), am_up_s]) (am_up_s _ _ _ _)
theorem rd_k {s : Nat → Int} {K k : Nat} (h0 : s K = 0) (hk : k ≤ K) (hs : s k ≠ 0) : k + 1 ≤ K := by
  rcases Nat.lt_or_ge k K with h | h
  · exact h
  · obtain rfl : k = K := by omega
    exact absurd h0 hs
theorem nmF_k {s u : Nat → Int} {K k : Nat} {m : Int} (h0 : s K = 0) (hk : k ≤ K) (h : (nmF s u k m).1 = 0) : (nmF s u k m).2.1 ≤ K := by
  obtain ⟨a, b, -⟩ := nmF_b h
  rw [b]; exact rd_k h0 hk (by omega)
theorem sgF_k {s u : Nat → Int} {K k : Nat} {m : Int} (h0 : s K = 0) (hk : k ≤ K) (h : (sgF s u k m).1 = 0) : (sgF s u k m).2.1 ≤ K := by
  unfold sgF at h ⊢
  by_cases c : s k = 45
  · rw [if_pos c] at h ⊢
    exact nmF_k h0 (rd_k h0 hk (by omega)) h
  · rw [if_neg c] at h ⊢
    exact nmF_k h0 hk h
theorem nnF_b {s u : Nat → Int} {f : Int → Int} {c k : Nat} (h : (nnF s u f c k).1 = 0) : s k = 2 ∧ nnF s u f c k = (0, k + 1, u k) := by
  unfold nnF at h ⊢
  by_cases c1 : s k = 2
  · rw [if_pos c1] at h ⊢
    by_cases c2 : px_find f (u k) c 0 < 0
    · rw [if_pos c2]; exact ⟨c1, rfl⟩
    · rw [if_neg c2] at h; simp at h
  · rw [if_neg c1] at h; simp at h
theorem onF_b {s u : Nat → Int} {f : Int → Int} {c k : Nat} (h : (onF s u f c k).1 = 0) : s k = 2 ∧ 0 ≤ px_find f (u k) c 0 ∧ onF s u f c k = (0, k + 1, px_find f (u k) c 0) := by
  unfold onF at h ⊢
  by_cases c1 : s k = 2
  · rw [if_pos c1] at h ⊢
    by_cases c2 : 0 ≤ px_find f (u k) c 0
    · rw [if_pos c2]; exact ⟨c1, c2, rfl⟩
    · rw [if_neg c2] at h; simp at h
  · rw [if_neg c1] at h; simp at h
theorem px_find_b {f : Int → Int} {x : Int} : ∀ {m i : Nat}, 0 ≤ px_find f x m i → (i : Int) ≤ px_find f x m i ∧ px_find f x m i < (i : Int) + m
  | 0, i, h => by rw [px_find] at h; omega
  | m + 1, i, h => by
    rw [px_find] at h ⊢
    split
    · omega
    · rename_i e
      rw [if_neg e] at h
      have := px_find_b (f := f) (x := x) (m := m) (i := i + 1) h
      omega
