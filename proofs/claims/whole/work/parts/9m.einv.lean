/-! 9m: an E, pure: the steps, and what they keep -/
theorem am_up_px (X : (Nat → Int → Int)) (a : Nat) (i v : Int) : am_up X a i v a = px_up (X a) i v := by
  funext j; unfold am_up px_up
  by_cases c : j = i
  · rw [if_pos ⟨rfl, c⟩, if_pos c]
  · rw [if_neg (fun z => c z.2), if_neg c]
def cbF (f : Int → Int) : Nat → Int
  | 0 => 0
  | n + 1 => cbF f n + (if f n = 40 then 0 else if f n = 113 then 0 else 1)
def coF (f : Int → Int) : Nat → Int
  | 0 => 0
  | n + 1 => coF f n + (if f n = 40 then 1 else 0)
theorem cbF_c {f g : Int → Int} : ∀ n : Nat, (∀ j : Nat, j < n → f j = g j) → cbF f n = cbF g n ∧ coF f n = coF g n
  | 0, _ => ⟨rfl, rfl⟩
  | n + 1, h => by
    have := cbF_c n (fun j x => h j (by omega))
    have e := h n (by omega)
    exact ⟨by rw [cbF, cbF, this.1, e], by rw [coF, coF, this.2, e]⟩
theorem cbF_b {f : Int → Int} : ∀ n : Nat, 0 ≤ cbF f n ∧ 0 ≤ coF f n ∧ cbF f n + coF f n ≤ n
  | 0 => ⟨Int.le_refl _, Int.le_refl _, Int.le_refl _⟩
  | n + 1 => by
    have := cbF_b (f := f) n
    rw [cbF, coF]
    by_cases c : f n = 40
    · rw [if_pos c, if_pos c]; omega
    · rw [if_neg c, if_neg c]; split <;> omega
theorem cbF_u {f : Int → Int} {n : Nat} {v : Int} : cbF (px_up f n v) (n + 1) = cbF f n + (if v = 40 then 0 else if v = 113 then 0 else 1) ∧ coF (px_up f n v) (n + 1) = coF f n + (if v = 40 then 1 else 0) := by
  have c := cbF_c (f := px_up f n v) (g := f) n (fun j x => by unfold px_up; rw [if_neg (by omega)])
  have e : px_up f n v n = v := by unfold px_up; rw [if_pos rfl]
  exact ⟨by rw [cbF, c.1, e], by rw [coF, c.2, e]⟩
def eGr (X : (Nat → Int → Int)) (r k p o : Int) : (Nat → Int → Int) := am_up (am_up (am_up (am_up (am_up (am_up (am_up X 16 (X 0 6) r) 19 (X 0 6) k) 20 (X 0 6) p) 21 (X 0 6) o) 23 (X 0 9) (X 0 6)) 0 9 (X 0 9 + 1)) 0 6 (X 0 6 + 1)
def ePs (X : (Nat → Int → Int)) (v : Int) : (Nat → Int → Int) := am_up (am_up X 22 (X 0 8) v) 0 8 (X 0 8 + 1)
def eCt (X : (Nat → Int → Int)) : (Nat → Int → Int) := am_up X 0 4 (X 0 4 + 1)
def ePn (X : (Nat → Int → Int)) (n : Int) : (Nat → Int → Int) := am_up (am_up X 0 8 (X 0 8 - 1)) 0 9 (X 0 9 - n)
def eP1 (X : (Nat → Int → Int)) : (Nat → Int → Int) := if X 22 (X 0 8 - 1) = 113 then eGr (ePn X 1) (-113) 2 (X 23 (X 0 9 - 1)) (-1) else eGr (ePn X 2) (-(X 22 (X 0 8 - 1))) (mpC (X 22 (X 0 8 - 1))) (X 23 (X 0 9 - 2)) (X 23 (X 0 9 - 1))
def eRl (least : Int) : Nat → (Nat → Int → Int) → (Nat → Int → Int)
  | 0, X => X
  | m + 1, X => if X 22 (X 0 8 - 1) ≠ 40 ∧ least ≤ bdC (X 22 (X 0 8 - 1)) then eRl least m (eP1 X) else X
def eLs (X : (Nat → Int → Int)) : Int := if 0 < X 0 8 then X 22 (X 0 8 - 1) else 0
def eCl (X : (Nat → Int → Int)) : (Nat → Int → Int) := am_up (am_up (eRl 0 (X 0 8).toNat X) 0 8 (eRl 0 (X 0 8).toNat X 0 8 - 1)) 0 10 (eRl 0 (X 0 8).toNat X 0 10 - 1)
def eRs (w : Int) : Int := if bdC w = 4 then 5 else bdC w
/-- what an E may change -/
def XF (X X' : (Nat → Int → Int)) : Prop := (∀ a, a ≠ 0 → a ≠ 16 → ¬ (19 ≤ a ∧ a ≤ 23) → X' a = X a) ∧ (∀ j, j ≠ 4 → j ≠ 6 → ¬ (8 ≤ j ∧ j ≤ 10) → X' 0 j = X 0 j) ∧ X 0 6 ≤ X' 0 6 ∧ ∀ j, j < X 0 6 → X' 16 j = X 16 j ∧ X' 19 j = X 19 j ∧ X' 20 j = X 20 j ∧ X' 21 j = X 21 j
theorem XF.rf {X : (Nat → Int → Int)} : XF X X := ⟨fun _ _ _ _ => rfl, fun _ _ _ _ => rfl, Int.le_refl _, fun _ _ => ⟨rfl, rfl, rfl, rfl⟩⟩
theorem XF.tr {X Y Z : (Nat → Int → Int)} (h : XF X Y) (g : XF Y Z) : XF X Z := ⟨fun a x y z => (g.1 a x y z).trans (h.1 a x y z), fun j x y z => (g.2.1 j x y z).trans (h.2.1 j x y z), Int.le_trans h.2.2.1 g.2.2.1, fun j x => by
  have a := h.2.2.2 j x
  have b := g.2.2.2 j (Int.lt_of_lt_of_le x h.2.2.1)
  exact ⟨b.1.trans a.1, b.2.1.trans a.2.1, b.2.2.1.trans a.2.2.1, b.2.2.2.trans a.2.2.2⟩⟩
theorem XF.z {X Y : (Nat → Int → Int)} {i v : Int} (h : XF X Y) (hi : i = 4 ∨ (8 ≤ i ∧ i ≤ 10)) : XF X (am_up Y 0 i v) := by
  refine ⟨fun a x y z => by rw [am_up_a _ _ _ _ x]; exact h.1 a x y z, fun j x y z => by rw [am_up_n _ _ _ _ (by omega)]; exact h.2.1 j x y z, by rw [am_up_n _ _ _ _ (by omega)]; exact h.2.2.1, fun j x => ?_⟩
  rw [am_up_a _ _ _ _ (by decide), am_up_a _ _ _ _ (by decide), am_up_a _ _ _ _ (by decide), am_up_a _ _ _ _ (by decide)]
  exact h.2.2.2 j x
theorem XF.ps {X Y : (Nat → Int → Int)} {v : Int} (h : XF X Y) : XF X (ePs Y v) := by
  refine XF.z ?_ (by decide)
  refine ⟨fun a x y z => by rw [am_up_a _ _ _ _ (by omega)]; exact h.1 a x y z, fun j x y z => by rw [am_up_a _ _ _ _ (by decide)]; exact h.2.1 j x y z, by rw [am_up_a _ _ _ _ (by decide)]; exact h.2.2.1, fun j x => ?_⟩
  rw [am_up_a _ _ _ _ (by decide), am_up_a _ _ _ _ (by decide), am_up_a _ _ _ _ (by decide), am_up_a _ _ _ _ (by decide)]
  exact h.2.2.2 j x
theorem XF.gr {X Y : (Nat → Int → Int)} {r k p o : Int} (h : XF X Y) : XF X (eGr Y r k p o) := by
  obtain ⟨h1, h2, h3, h4⟩ := h
  unfold eGr
  refine ⟨fun a x y z => ?_, fun j x y z => ?_, ?_, fun j x => ?_⟩
  · rw [am_up_a _ _ _ _ x, am_up_a _ _ _ _ x, am_up_a _ _ _ _ (by omega), am_up_a _ _ _ _ (by omega), am_up_a _ _ _ _ (by omega), am_up_a _ _ _ _ (by omega), am_up_a _ _ _ _ y]; exact h1 a x y z
  · rw [am_up_n _ _ _ _ y, am_up_n _ _ _ _ (by omega)]
    simp (disch := decide) only [am_up_a]
    exact h2 j x y z
  · rw [am_up_s]; omega
  · have e : j ≠ Y 0 6 := by omega
    simp (disch := first | decide | assumption) only [am_up_a, am_up_n]
    exact h4 j x
theorem XF.p1 {X Y : (Nat → Int → Int)} (h : XF X Y) : XF X (eP1 Y) := by
  unfold eP1 ePn
  split
  · exact ((h.z (by decide)).z (by decide)).gr
  · exact ((h.z (by decide)).z (by decide)).gr
theorem XF.rl {least : Int} : ∀ {m : Nat} {X Y : (Nat → Int → Int)}, XF X Y → XF X (eRl least m Y)
  | 0, _, _, h => h
  | m + 1, _, _, h => by
    rw [eRl]; split
    · exact XF.rl h.p1
    · exact h
/-- what holds while an E is read (b = 1: a value is wanted) -/
def EI (a0 b : Int) (X : (Nat → Int → Int)) : Prop := ((0 ≤ a0 ∧ a0 ≤ X 0 6) ∧ 0 ≤ X 0 8) ∧ (∀ j, 0 ≤ j → j < X 0 8 → wcd (X 22 j)) ∧ (X 0 10 = coF (X 22) (X 0 8).toNat ∧ X 0 10 ≤ 8) ∧ X 0 9 = cbF (X 22) (X 0 8).toNat + (1 - b) ∧ (X 0 4 = X 0 6 + X 0 8 - X 0 10 ∧ X 0 4 ≤ 64) ∧ (∀ j, 0 ≤ j → j < X 0 9 → a0 ≤ X 23 j ∧ X 23 j < X 0 6) ∧ (∀ j, a0 ≤ j → j < X 0 6 → px_okr (X 16 j) ∧ px_okk (X 19 j) (X 20 j) (X 21 j) a0 j) ∧ (b = 0 → X 23 (X 0 9 - 1) = X 0 6 - 1) ∧ ∀ nm, nmb nm → EV a0 X (X 0 9) (X 23) nm
theorem EV.fr {a0 n : Int} {X X' : (Nat → Int → Int)} {H nm : Int → Int} (h : EV a0 X n H nm) (e6 : X' 0 6 = X 0 6) (e16 : X' 16 = X 16) (e19 : X' 19 = X 19) (e20 : X' 20 = X 20) (e21 : X' 21 = X 21) : EV a0 X' n H nm := by
  unfold EV at h ⊢; rw [e6, e16, e19, e20, e21]; exact h
theorem EI.bd {a0 b : Int} {X : (Nat → Int → Int)} (h : EI a0 b X) (hb : 0 ≤ b ∧ b ≤ 1) : (0 ≤ X 0 9 ∧ X 0 9 ≤ X 0 8 - X 0 10 + (1 - b)) ∧ (0 ≤ X 0 10 ∧ X 0 10 ≤ X 0 8) ∧ 0 ≤ X 0 6 ∧ X 0 6 ≤ X 0 4 ∧ X 0 4 ≤ 64 ∧ X 0 8 ≤ 72 ∧ X 0 10 ≤ 8 ∧ 0 ≤ X 0 8 := by
  obtain ⟨⟨h0, h1⟩, -, ⟨h3, h3'⟩, h4, ⟨h5, h6⟩, -⟩ := h
  have := cbF_b (f := X 22) (X 0 8).toNat
  omega
theorem EI.ps {a0 b b' v : Int} {X X' : (Nat → Int → Int)} (h : EI a0 b X) (hv : wcd v) (e8 : X' 0 8 = X 0 8 + 1) (e22 : X' 22 = px_up (X 22) (X 0 8) v) (e10 : X' 0 10 = X 0 10 + (if v = 40 then 1 else 0)) (h8 : X' 0 10 ≤ 8) (e9 : X' 0 9 = X 0 9) (hb : (if v = 40 then 0 else if v = 113 then 0 else 1) + (1 - b') = 1 - b) (e4 : X' 0 4 = X 0 4 + (if v = 40 then 0 else 1)) (h4 : X' 0 4 ≤ 64) (hb' : b' ≠ 0) (e6 : X' 0 6 = X 0 6) (e16 : X' 16 = X 16) (e19 : X' 19 = X 19) (e20 : X' 20 = X 20) (e21 : X' 21 = X 21) (e23 : X' 23 = X 23) : EI a0 b' X' := by
  obtain ⟨⟨h0, h1⟩, h2, ⟨h3, h3'⟩, h9, ⟨h5, h6⟩, h7, hr, -, hE⟩ := h
  obtain ⟨n, hn⟩ : ∃ n : Nat, X 0 8 = n := ⟨(X 0 8).toNat, by omega⟩
  have t0 : (X 0 8).toNat = n := by omega
  have t1 : (X' 0 8).toNat = n + 1 := by omega
  have cu := cbF_u (f := X 22) (n := n) (v := v)
  rw [t0] at h3 h9
  unfold EI
  rw [t1, e6, e16, e19, e20, e21, e23, e9, e22, hn, cu.1, cu.2]
  refine ⟨⟨h0, by omega⟩, fun j j0 j1 => ?_, ⟨by omega, h8⟩, by omega, ⟨?_, h4⟩, h7, hr, fun z => absurd z hb', fun nm hnm => (hE nm hnm).fr e6 e16 e19 e20 e21⟩
  · unfold px_up
    by_cases c : j = n
    · rw [if_pos c]; exact hv
    · rw [if_neg c]; exact h2 j j0 (by omega)
  · rw [e4, e8, e10, h5]
    by_cases c : v = 40
    · rw [if_pos c, if_pos c]; omega
    · rw [if_neg c, if_neg c]; omega
theorem EI.op {a0 : Int} {X : (Nat → Int → Int)} (h : EI a0 1 X) (h8 : X 0 10 < 8) : EI a0 1 (ePs (am_up X 0 10 (X 0 10 + 1)) 40) := by
  have h4 := h.2.2.2.2.1.2
  refine h.ps (v := 40) (Or.inl rfl) ?_ ?_ ?_ ?_ ?_ (by decide) ?_ ?_ (by decide) ?_ ?_ ?_ ?_ ?_ ?_ <;> unfold ePs <;> simp (disch := decide) only [am_up_a, am_up_n, am_up_s, am_up_px] <;> first | rfl | (simp; done) | omega
theorem EI.no {a0 : Int} {X : (Nat → Int → Int)} (h : EI a0 1 X) (h8 : X 0 4 < 64) : EI a0 1 (ePs (eCt X) 113) := by
  have h4 := h.2.2.1.2
  refine h.ps (v := 113) (Or.inr (Or.inl rfl)) ?_ ?_ ?_ ?_ ?_ (by decide) ?_ ?_ (by decide) ?_ ?_ ?_ ?_ ?_ ?_ <;> unfold ePs eCt <;> simp (disch := decide) only [am_up_a, am_up_n, am_up_s, am_up_px] <;> first | rfl | (simp; done) | omega
theorem EI.si {a0 v : Int} {X : (Nat → Int → Int)} (h : EI a0 0 X) (hv : wbn v) (h8 : X 0 4 < 64) : EI a0 1 (ePs (eCt X) v) := by
  have h4 := h.2.2.1.2
  have w := wbn_b hv
  have w1 := w.2.1
  have w2 := w.2.2.1
  refine h.ps (v := v) (Or.inr (Or.inr hv)) ?_ ?_ ?_ ?_ ?_ (by rw [if_neg w1, if_neg w2]; decide) ?_ ?_ (by decide) ?_ ?_ ?_ ?_ ?_ ?_ <;> unfold ePs eCt <;> simp (disch := decide) only [am_up_a, am_up_n, am_up_s, am_up_px] <;> first | rfl | (rw [if_neg w1]; omega) | omega
/-- the cells of a state with a knot more -/
theorem eGr_e {X : (Nat → Int → Int)} {r k p o : Int} : (eGr X r k p o 0 6 = X 0 6 + 1 ∧ eGr X r k p o 0 9 = X 0 9 + 1 ∧ eGr X r k p o 0 8 = X 0 8 ∧ eGr X r k p o 0 10 = X 0 10 ∧ eGr X r k p o 0 4 = X 0 4) ∧ (eGr X r k p o 22 = X 22 ∧ eGr X r k p o 23 = px_up (X 23) (X 0 9) (X 0 6)) ∧ (eGr X r k p o 16 = px_up (X 16) (X 0 6) r ∧ eGr X r k p o 19 = px_up (X 19) (X 0 6) k ∧ eGr X r k p o 20 = px_up (X 20) (X 0 6) p ∧ eGr X r k p o 21 = px_up (X 21) (X 0 6) o) := by
  unfold eGr
  simp (disch := decide) only [am_up_a, am_up_n, am_up_s, am_up_px]
  exact ⟨⟨trivial, trivial, trivial, trivial, trivial⟩, ⟨trivial, trivial⟩, trivial, trivial, trivial, trivial⟩
theorem px_up_s {f : Int → Int} {i v : Int} : px_up f i v i = v := by unfold px_up; rw [if_pos rfl]
theorem px_up_n {f : Int → Int} {i v j : Int} (h : j ≠ i) : px_up f i v j = f j := by unfold px_up; rw [if_neg h]
theorem EI.lf {a0 r k p : Int} {X : (Nat → Int → Int)} (h : EI a0 1 X) (h8 : X 0 4 < 64) (hr : (k = 0 ∧ p = r ∧ 0 ≤ r ∧ r ≤ 9999) ∨ (k = 1 ∧ (0 ≤ p ∧ p < 7) ∧ r = -(114 + p))) : EI a0 0 (eGr (eCt X) r k p 0) := by
  have bd := h.bd (by decide)
  obtain ⟨⟨h0, h1⟩, h2, ⟨h3, h3'⟩, h9, ⟨h5, h6⟩, h7, hR, -, hE⟩ := h
  obtain ⟨⟨g6, g9, g8, g10, g4⟩, ⟨g22, g23⟩, g16, g19, g20, g21⟩ := eGr_e (X := eCt X) (r := r) (k := k) (p := p) (o := 0)
  have c6 : eCt X 0 6 = X 0 6 := by unfold eCt; rw [am_up_n _ _ _ _ (by decide)]
  have c8 : eCt X 0 8 = X 0 8 := by unfold eCt; rw [am_up_n _ _ _ _ (by decide)]
  have c9 : eCt X 0 9 = X 0 9 := by unfold eCt; rw [am_up_n _ _ _ _ (by decide)]
  have c10 : eCt X 0 10 = X 0 10 := by unfold eCt; rw [am_up_n _ _ _ _ (by decide)]
  have c4 : eCt X 0 4 = X 0 4 + 1 := by unfold eCt; rw [am_up_s]
  have ca : ∀ a, a ≠ 0 → eCt X a = X a := fun a x => by unfold eCt; rw [am_up_a _ _ _ _ x]
  rw [c6] at g6 g16 g19 g20 g21 g23
  rw [c9] at g9 g23
  rw [ca _ (by decide)] at g16 g19 g20 g21 g22 g23
  rw [c8] at g8; rw [c10] at g10; rw [c4] at g4
  generalize eGr (eCt X) r k p 0 = Y at g6 g9 g8 g10 g4 g22 g23 g16 g19 g20 g21 ⊢
  have hE' : ∀ nm, nmb nm → EV a0 Y (X 0 9 + 1) (px_up (X 23) (X 0 9) (X 0 6)) nm := fun nm hnm => (hE nm hnm).lf (X' := Y) (r := r) (k := k) (p := p) h0.2 g6 (fun j x => by rw [g16, px_up_n (by omega)]) (by rw [g16, px_up_s]) (fun j x => by rw [g19, g20, g21, px_up_n (by omega), px_up_n (by omega), px_up_n (by omega)]; exact ⟨rfl, rfl, rfl⟩) (by rw [g19, g20, g21, px_up_s, px_up_s, px_up_s]; exact ⟨rfl, rfl, rfl⟩) hnm (by omega) (fun j j0 j1 => (h7 j j0 j1).2) hr
  unfold EI
  rw [g8, g10, g9, g4, g6, g22, g23]
  refine ⟨⟨by omega, h1⟩, h2, ⟨h3, h3'⟩, by omega, by omega, fun j j0 j1 => ?_, fun j j0 j1 => ?_, fun _ => ?_, hE'⟩
  · by_cases c : j = X 0 9
    · rw [c, px_up_s]; omega
    · rw [px_up_n c]; have := h7 j j0 (by omega); omega
  · rw [g16, g19, g20, g21]
    by_cases c : j = X 0 6
    · rw [c, px_up_s, px_up_s, px_up_s, px_up_s]
      unfold px_okr px_okk
      exact ⟨by omega, by omega, by omega, by omega, by omega, by omega⟩
    · rw [px_up_n c, px_up_n c, px_up_n c, px_up_n c]; exact hR j j0 (by omega)
  · rw [show X 0 9 + 1 - 1 = X 0 9 by omega, px_up_s]; omega
theorem EI.p1 {a0 : Int} {X : (Nat → Int → Int)} (h : EI a0 0 X) (hw : 0 < X 0 8) (h40 : X 22 (X 0 8 - 1) ≠ 40) : EI a0 0 (eP1 X) ∧ eP1 X 0 8 = X 0 8 - 1 ∧ eP1 X 0 10 = X 0 10 ∧ eP1 X 22 = X 22 ∧ eP1 X 0 4 = X 0 4 := by
  have bd := h.bd (by decide)
  obtain ⟨⟨h0, h1⟩, h2, ⟨h3, h3'⟩, h9, ⟨h5, h6⟩, h7, hR, hL, hE⟩ := h
  obtain ⟨n, hn⟩ : ∃ n : Nat, X 0 8 = (n : Int) + 1 := ⟨(X 0 8 - 1).toNat, by omega⟩
  have t0 : (X 0 8).toNat = n + 1 := by omega
  have t1 : (X 0 8 - 1).toNat = n := by omega
  have t2 : X 0 8 - 1 = (n : Int) := by omega
  have wc := h2 (X 0 8 - 1) (by omega) (by omega)
  rw [t2] at h40 wc
  rw [t0, coF, if_neg h40] at h3
  rw [t0, cbF, if_neg h40] at h9
  have cb := cbF_b (f := X 22) n
  have pa : ∀ m a, a ≠ 0 → ePn X m a = X a := fun m a x => by unfold ePn; rw [am_up_a _ _ _ _ x, am_up_a _ _ _ _ x]
  have p6 : ∀ m, ePn X m 0 6 = X 0 6 := fun m => by unfold ePn; rw [am_up_n _ _ _ _ (by decide), am_up_n _ _ _ _ (by decide)]
  have p10 : ∀ m, ePn X m 0 10 = X 0 10 := fun m => by unfold ePn; rw [am_up_n _ _ _ _ (by decide), am_up_n _ _ _ _ (by decide)]
  have p4 : ∀ m, ePn X m 0 4 = X 0 4 := fun m => by unfold ePn; rw [am_up_n _ _ _ _ (by decide), am_up_n _ _ _ _ (by decide)]
  have p8 : ∀ m, ePn X m 0 8 = X 0 8 - 1 := fun m => by unfold ePn; rw [am_up_n _ _ _ _ (by decide), am_up_s]
  have p9 : ∀ m, ePn X m 0 9 = X 0 9 - m := fun m => by unfold ePn; rw [am_up_s]
  unfold eP1
  rw [t2]
  by_cases c : X 22 n = 113
  · rw [if_pos c] at h9 ⊢
    obtain ⟨⟨g6, g9, g8, g10, g4⟩, ⟨g22, g23⟩, g16, g19, g20, g21⟩ := eGr_e (X := ePn X 1) (r := -113) (k := 2) (p := X 23 (X 0 9 - 1)) (o := -1)
    rw [p6] at g6 g16 g19 g20 g21 g23
    rw [p9] at g9 g23
    rw [pa _ _ (by decide)] at g16 g19 g20 g21 g22 g23
    rw [p8] at g8; rw [p10] at g10; rw [p4] at g4
    rw [show X 0 9 - 1 + 1 = X 0 9 by omega] at g9
    generalize eGr (ePn X 1) (-113) 2 (X 23 (X 0 9 - 1)) (-1) = Y at g6 g9 g8 g10 g4 g22 g23 g16 g19 g20 g21 ⊢
    have hE' : ∀ nm, nmb nm → EV a0 Y (X 0 9) (px_up (X 23) (X 0 9 - 1) (X 0 6)) nm := fun nm hnm => (hE nm hnm).nt (X' := Y) h0.2 g6 (fun j x => by rw [g16, px_up_n (by omega)]) (by rw [g16, px_up_s]) (fun j x => by rw [g19, g20, g21, px_up_n (by omega), px_up_n (by omega), px_up_n (by omega)]; exact ⟨rfl, rfl, rfl⟩) (by rw [g19, g20, g21, px_up_s, px_up_s, px_up_s]; exact ⟨rfl, rfl, rfl⟩) hnm (by omega) h7
    have hp := h7 (X 0 9 - 1) (by omega) (by omega)
    refine ⟨?_, by omega, g10, g22, g4⟩
    unfold EI
    rw [g8, g10, g9, g4, g6, g22, g23, t1]
    refine ⟨⟨by omega, by omega⟩, fun j j0 j1 => h2 j j0 (by omega), ⟨by omega, h3'⟩, by omega, by omega, fun j j0 j1 => ?_, fun j j0 j1 => ?_, fun _ => ?_, hE'⟩
    · by_cases c : j = X 0 9 - 1
      · rw [c, px_up_s]; omega
      · rw [px_up_n c]; have := h7 j j0 (by omega); omega
    · rw [g16, g19, g20, g21]
      by_cases c : j = X 0 6
      · rw [c, px_up_s, px_up_s, px_up_s, px_up_s]
        unfold px_okr px_okk
        exact ⟨by omega, by omega, by omega, by omega, by omega, by omega⟩
      · rw [px_up_n c, px_up_n c, px_up_n c, px_up_n c]; exact hR j j0 (by omega)
    · rw [px_up_s]; omega
  · rw [if_neg c] at h9 ⊢
    have wb : wbn (X 22 n) := by
      rcases wc with z | z | z
      · exact absurd z h40
      · exact absurd z c
      · exact z
    have wv := wbn_b wb
    generalize hs : X 22 (n : Int) = sg at wb wv ⊢
    obtain ⟨⟨g6, g9, g8, g10, g4⟩, ⟨g22, g23⟩, g16, g19, g20, g21⟩ := eGr_e (X := ePn X 2) (r := -sg) (k := mpC sg) (p := X 23 (X 0 9 - 2)) (o := X 23 (X 0 9 - 1))
    rw [p6] at g6 g16 g19 g20 g21 g23
    rw [p9] at g9 g23
    rw [pa _ _ (by decide)] at g16 g19 g20 g21 g22 g23
    rw [p8] at g8; rw [p10] at g10; rw [p4] at g4
    rw [show X 0 9 - 2 + 1 = X 0 9 - 1 by omega] at g9
    generalize eGr (ePn X 2) (-sg) (mpC sg) (X 23 (X 0 9 - 2)) (X 23 (X 0 9 - 1)) = Y at g6 g9 g8 g10 g4 g22 g23 g16 g19 g20 g21 ⊢
    have hE' : ∀ nm, nmb nm → EV a0 Y (X 0 9 - 1) (px_up (X 23) (X 0 9 - 2) (X 0 6)) nm := fun nm hnm => (hE nm hnm).bn (X' := Y) wb h0.2 g6 (fun j x => by rw [g16, px_up_n (by omega)]) (by rw [g16, px_up_s]) (fun j x => by rw [g19, g20, g21, px_up_n (by omega), px_up_n (by omega), px_up_n (by omega)]; exact ⟨rfl, rfl, rfl⟩) (by rw [g19, g20, g21, px_up_s, px_up_s, px_up_s]; exact ⟨rfl, rfl, rfl⟩) hnm (by omega) h7
    have hp := h7 (X 0 9 - 2) (by omega) (by omega)
    have ho := h7 (X 0 9 - 1) (by omega) (by omega)
    refine ⟨?_, by omega, g10, g22, g4⟩
    unfold EI
    rw [g8, g10, g9, g4, g6, g22, g23, t1]
    refine ⟨⟨by omega, by omega⟩, fun j j0 j1 => h2 j j0 (by omega), ⟨by omega, h3'⟩, by omega, by omega, fun j j0 j1 => ?_, fun j j0 j1 => ?_, fun _ => ?_, hE'⟩
    · by_cases c : j = X 0 9 - 2
      · rw [c, px_up_s]; omega
      · rw [px_up_n c]; have := h7 j j0 (by omega); omega
    · rw [g16, g19, g20, g21]
      by_cases c : j = X 0 6
      · rw [c, px_up_s, px_up_s, px_up_s, px_up_s]
        unfold px_okr px_okk
        exact ⟨by omega, by omega, by omega, by omega, by omega, by omega⟩
      · rw [px_up_n c, px_up_n c, px_up_n c, px_up_n c]; exact hR j j0 (by omega)
    · rw [show X 0 9 - 1 - 1 = X 0 9 - 2 by omega, px_up_s]; omega
theorem EI.rl {a0 least : Int} : ∀ {m : Nat} {X : (Nat → Int → Int)}, EI a0 0 X → X 0 8 = m → EI a0 0 (eRl least m X) ∧ (eRl least m X 0 10 = X 0 10 ∧ eRl least m X 22 = X 22 ∧ eRl least m X 0 4 = X 0 4) ∧ (eRl least m X 0 8 = 0 ∨ (0 < eRl least m X 0 8 ∧ (X 22 (eRl least m X 0 8 - 1) = 40 ∨ bdC (X 22 (eRl least m X 0 8 - 1)) < least)))
  | 0, X, h, e => ⟨h, ⟨rfl, rfl, rfl⟩, Or.inl e⟩
  | m + 1, X, h, e => by
    rw [eRl]
    by_cases c : X 22 (X 0 8 - 1) ≠ 40 ∧ least ≤ bdC (X 22 (X 0 8 - 1))
    · rw [if_pos c]
      have p := h.p1 (by omega) c.1
      have r := EI.rl (least := least) (m := m) p.1 (by omega)
      rw [p.2.2.2.1, p.2.2.1, p.2.2.2.2] at r
      exact r
    · rw [if_neg c]
      refine ⟨h, ⟨rfl, rfl, rfl⟩, Or.inr ⟨by omega, ?_⟩⟩
      by_cases c1 : X 22 (X 0 8 - 1) = 40
      · exact Or.inl c1
      · exact Or.inr (by have : ¬ least ≤ bdC (X 22 (X 0 8 - 1)) := fun z => c ⟨c1, z⟩
                         omega)
theorem EI.cl {a0 : Int} {X : (Nat → Int → Int)} (h : EI a0 0 X) (ho : 0 < X 0 10) : EI a0 0 (eCl X) ∧ 0 < eRl 0 (X 0 8).toNat X 0 8 := by
  have bd := h.bd (by decide)
  have r := EI.rl (least := 0) (m := (X 0 8).toNat) h (by omega)
  unfold eCl
  generalize eRl 0 (X 0 8).toNat X = Y at r ⊢
  obtain ⟨y, ⟨y10, y22, y4⟩, yS⟩ := r
  have bY := y.bd (by decide)
  have y8 : 0 < Y 0 8 := by omega
  refine ⟨?_, y8⟩
  obtain ⟨⟨h0, h1⟩, h2, ⟨h3, h3'⟩, h9, ⟨h5, h6⟩, h7, hR, hL, hE⟩ := y
  obtain ⟨n, hn⟩ : ∃ n : Nat, Y 0 8 = (n : Int) + 1 := ⟨(Y 0 8 - 1).toNat, by omega⟩
  have t0 : (Y 0 8).toNat = n + 1 := by omega
  have t1 : (Y 0 8 - 1).toNat = n := by omega
  have t2 : Y 0 8 - 1 = (n : Int) := by omega
  have l40 : Y 22 n = 40 := by
    rcases yS with z | ⟨-, z | z⟩
    · omega
    · rw [y22, ← t2]; exact z
    · rw [← y22, t2] at z
      have w := h2 n (by omega) (by omega)
      by_cases c : Y 22 n = 40
      · exact c
      · have := wcd_p w c; omega
  rw [t0, coF, if_pos l40] at h3
  rw [t0, cbF, if_pos l40] at h9
  unfold EI
  simp (disch := decide) only [am_up_a, am_up_n, am_up_s]
  rw [t1]
  exact ⟨⟨h0, by omega⟩, fun j j0 j1 => h2 j j0 (by omega), ⟨by omega, by omega⟩, by omega, by omega, h7, hR, fun _ => hL rfl, fun nm hnm => (hE nm hnm).fr (by simp (disch := decide) only [am_up_a, am_up_n, am_up_s]) (by simp (disch := decide) only [am_up_a]) (by simp (disch := decide) only [am_up_a]) (by simp (disch := decide) only [am_up_a]) (by simp (disch := decide) only [am_up_a])⟩
theorem EI.fi {a0 : Int} {X : (Nat → Int → Int)} (h : EI a0 0 X) (ho : X 0 10 = 0) (e8 : X 0 8 = 0) : a0 < X 0 6 ∧ X 0 4 = X 0 6 ∧ ∀ nm, nmb nm → px_val (X 16) nm a0 (X 0 6 - a0).toNat = px_mval (X 19) (X 20) (X 21) nm a0 (X 0 6 - a0).toNat := by
  obtain ⟨⟨h0, h1⟩, h2, ⟨h3, h3'⟩, h9, ⟨h5, h6⟩, h7, hR, hL, hE⟩ := h
  have t0 : (X 0 8).toNat = 0 := by omega
  rw [t0, cbF] at h9
  have n1 : X 0 9 = 1 := by omega
  have hl := hL rfl
  rw [n1] at hl
  have := h7 0 (by omega) (by omega)
  rw [show (1 : Int) - 1 = 0 by decide] at hl
  refine ⟨by omega, by omega, fun nm hnm => ?_⟩
  obtain ⟨b1, b2, b3⟩ := hE nm hnm
  obtain ⟨m, hm⟩ : ∃ m : Nat, X 0 6 - a0 = m := ⟨(X 0 6 - a0).toNat, by omega⟩
  have e1 : (X 0 6 - a0).toNat = m := by omega
  rw [e1] at b1 b2 b3 ⊢
  unfold px_val px_mval
  cases hx : (px_mr (X 19) (X 20) (X 21) nm a0 m).1
  · obtain ⟨st, s1, s2⟩ := b3 hx
    rw [s1, n1]
    have s0 := s2 0 (by omega) (by omega)
    rw [hl] at s0
    simp [s0, show a0 + (m : Int) - 1 = X 0 6 - 1 by omega]
  · rw [b2 hx]; simp
theorem EI.st {a0 : Int} {X : (Nat → Int → Int)} (ha : 0 ≤ a0) (e6 : X 0 6 = a0) (e8 : X 0 8 = 0) (e9 : X 0 9 = 0) (e10 : X 0 10 = 0) (e4 : X 0 4 = X 0 6) (h4 : X 0 4 ≤ 64) : EI a0 1 X := by
  unfold EI
  rw [e8, e9, e10]
  refine ⟨⟨by omega, by omega⟩, fun j j0 j1 => by omega, ⟨rfl, by decide⟩, rfl, by omega, fun j j0 j1 => by omega, fun j j0 j1 => by omega, fun z => by omega, fun nm hnm => ?_⟩
  unfold EV
  rw [show (X 0 6 - a0).toNat = 0 by omega]
  exact ⟨fun j j0 j1 => by omega, fun z => by simp [px_mr] at z, fun _ => ⟨fun _ => 0, rfl, fun j j0 j1 => by omega⟩⟩
/-! what stands where a value begins; a sign between two values; an E -/
def ptF (s u : Nat → Int) (X : (Nat → Int → Int)) (k : Nat) : Int × (Nat → Int → Int) := if s k = 40 then (if X 0 10 < 8 then (0, ePs (am_up X 0 10 (X 0 10 + 1)) 40) else (2, X)) else if s k = 3 then (if u k ≤ 9999 ∧ X 0 4 < 64 then (0, eGr (eCt X) (u k) 0 (u k) 0) else (2, X)) else if 114 ≤ s k ∧ s k ≤ 120 then (if X 0 4 < 64 then (0, eGr (eCt X) (-(s k)) 1 (s k - 114) 0) else (2, X)) else if s k = 113 ∧ bdC (eLs X) ≤ 3 then (if X 0 4 < 64 then (0, ePs (eCt X) 113) else (2, X)) else (1, X)
def siF (s : Nat → Int) (X : (Nat → Int → Int)) (k : Nat) : Int × (Nat → Int → Int) := if bdC (s k) = 4 ∧ bdC (eLs (eRl (eRs (s k)) (X 0 8).toNat X)) = 4 then (1, X) else if X 0 4 < 64 then (0, ePs (eCt (eRl (eRs (s k)) (X 0 8).toNat X)) (s k)) else (2, X)
def wnF (s : Nat → Int) (k : Nat) : Int := if s k = 113 ∨ s k = 40 then 1 else 0
def vlF (s u : Nat → Int) : Nat → (Nat → Int → Int) → Int → Nat → Int × Nat × (Nat → Int → Int)
  | 0, X, _, k => (1, k, X)
  | f + 1, X, b, k => if b = 1 then (if (ptF s u X k).1 = 0 then vlF s u f (ptF s u X k).2 (wnF s k) (k + 1) else ((ptF s u X k).1, k, X)) else if s k = 41 ∧ 0 < X 0 10 then vlF s u f (eCl X) 0 (k + 1) else if s k ≠ 113 ∧ 0 < bdC (s k) then (if (siF s X k).1 = 0 then vlF s u f (siF s X k).2 1 (k + 1) else ((siF s X k).1, k, X)) else if 0 < X 0 10 then (1, k, X) else (0, k, eRl 0 (X 0 8).toNat X)
theorem EI.pt {a0 : Int} {X : (Nat → Int → Int)} {s u : Nat → Int} {k : Nat} (h : EI a0 1 X) (hu : s k = 3 → 0 ≤ u k) (h0 : (ptF s u X k).1 = 0) : EI a0 (wnF s k) (ptF s u X k).2 ∧ XF X (ptF s u X k).2 := by
  unfold ptF at h0 ⊢
  unfold wnF
  by_cases c1 : s k = 40
  · rw [if_pos c1] at h0 ⊢
    by_cases c : X 0 10 < 8
    · rw [if_pos c, if_pos (Or.inr c1)]; exact ⟨h.op c, (XF.rf.z (by decide)).ps⟩
    · rw [if_neg c] at h0; simp at h0
  · rw [if_neg c1] at h0 ⊢
    by_cases c2 : s k = 3
    · rw [if_pos c2] at h0 ⊢
      by_cases c : u k ≤ 9999 ∧ X 0 4 < 64
      · rw [if_pos c, if_neg (by omega)]; exact ⟨h.lf c.2 (Or.inl ⟨rfl, rfl, hu c2, c.1⟩), (XF.rf.z (by decide)).gr⟩
      · rw [if_neg c] at h0; simp at h0
    · rw [if_neg c2] at h0 ⊢
      by_cases c3 : 114 ≤ s k ∧ s k ≤ 120
      · rw [if_pos c3] at h0 ⊢
        by_cases c : X 0 4 < 64
        · rw [if_pos c, if_neg (by omega)]; exact ⟨h.lf c (Or.inr ⟨rfl, by omega, by omega⟩), (XF.rf.z (by decide)).gr⟩
        · rw [if_neg c] at h0; simp at h0
      · rw [if_neg c3] at h0 ⊢
        by_cases c4 : s k = 113 ∧ bdC (eLs X) ≤ 3
        · rw [if_pos c4] at h0 ⊢
          by_cases c : X 0 4 < 64
          · rw [if_pos c, if_pos (Or.inl c4.1)]; exact ⟨h.no c, (XF.rf.z (by decide)).ps⟩
          · rw [if_neg c] at h0; simp at h0
        · rw [if_neg c4] at h0; simp at h0
theorem EI.sg {a0 : Int} {X : (Nat → Int → Int)} {s : Nat → Int} {k : Nat} (h : EI a0 0 X) (hw : wbn (s k)) (h0 : (siF s X k).1 = 0) : EI a0 1 (siF s X k).2 ∧ XF X (siF s X k).2 := by
  have bd := h.bd (by decide)
  have r := EI.rl (least := eRs (s k)) (m := (X 0 8).toNat) h (by omega)
  unfold siF at h0 ⊢
  by_cases c1 : bdC (s k) = 4 ∧ bdC (eLs (eRl (eRs (s k)) (X 0 8).toNat X)) = 4
  · rw [if_pos c1] at h0; simp at h0
  · rw [if_neg c1] at h0 ⊢
    by_cases c : X 0 4 < 64
    · rw [if_pos c]; exact ⟨r.1.si hw (by rw [r.2.1.2.2]; exact c), (XF.rf.rl.z (by decide)).ps⟩
    · rw [if_neg c] at h0; simp at h0
