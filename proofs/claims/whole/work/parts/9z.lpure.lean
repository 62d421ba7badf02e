/-! 9z: what a line keeps, pure -/
def LVx (X : (Nat → Int → Int)) : Prop := (X 0 11 = 0 ∧ X 0 12 = -1) ∧ ∀ l, 0 ≤ l → l < 3 → X 17 l < 0 ∨ ∃ m : Nat, 1 ≤ m ∧ 0 ≤ X 17 l ∧ X 18 l = X 17 l + m ∧ X 18 l ≤ X 0 6 ∧ (∀ j, X 17 l ≤ j → j < X 18 l → px_okr (X 16 j) ∧ px_okk (X 19 j) (X 20 j) (X 21 j) (X 17 l) j) ∧ ∀ nm, nmb nm → px_val (X 16) nm (X 17 l) m = px_mval (X 19) (X 20) (X 21) nm (X 17 l) m
theorem LVx.fr {X Y : (Nat → Int → Int)} (h : LVx X) (f : ∀ a, 16 ≤ a → a ≤ 21 → Y a = X a) (g : Y 0 6 = X 0 6 ∧ Y 0 11 = X 0 11 ∧ Y 0 12 = X 0 12) : LVx Y := by
  unfold LVx at h ⊢
  rw [f 16 (by decide) (by decide), f 17 (by decide) (by decide), f 18 (by decide) (by decide), f 19 (by decide) (by decide), f 20 (by decide) (by decide), f 21 (by decide) (by decide), g.1, g.2.1, g.2.2]
  exact h
def WXx (X : (Nat → Int → Int)) : Prop := BX X ∧ WV X ∧ LVx X
theorem nm_p {s u : Nat → Int} {k : Nat} {m : Int} (h : (nmF s u k m).1 = 0) : k < (nmF s u k m).2.1 := by rw [(nmF_b h).2.1]; omega
theorem nn_p {s u : Nat → Int} {k c : Nat} {f : Int → Int} (h : (nnF s u f c k).1 = 0) : k < (nnF s u f c k).2.1 := by rw [(nnF_b h).2]; dsimp only; omega
theorem on_p {s u : Nat → Int} {k c : Nat} {f : Int → Int} (h : (onF s u f c k).1 = 0) : k < (onF s u f c k).2.1 := by rw [(onF_b h).2.2]; dsimp only; omega
theorem sg_p {s u : Nat → Int} {k : Nat} {m : Int} (h : (sgF s u k m).1 = 0) : k < (sgF s u k m).2.1 := by
  unfold sgF at h ⊢
  by_cases c : s k = 45
  · rw [if_pos c] at h ⊢; have := nm_p h; dsimp only; omega
  · rw [if_neg c] at h ⊢; exact nm_p h
/-- what a line owes, pure -/
def LPo (K k : Nat) (t : Int × Nat × (Nat → Int → Int)) : Prop := t.1 = 0 → WXx t.2.2 ∧ k < t.2.1 ∧ t.2.1 ≤ K
theorem LPo.b {K k : Nat} {r : Int × Nat × Int} {X : (Nat → Int → Int)} {f : Int → Nat → Int × Nat × (Nat → Int → Int)} (h1 : r.1 = 0 → LPo K k (f r.2.2 r.2.1)) : LPo K k (bnd r X f) := by
  unfold bnd
  by_cases c : r.1 = 0
  · rw [if_pos c]; exact h1 c
  · rw [if_neg c]; exact fun z => absurd z c
theorem LPo.e {s u : Nat → Int} {K k k1 : Nat} {X : (Nat → Int → Int)} (hu : TU s u K) (hk : k < k1) (h1 : k1 ≤ K) (h : WXx X) : LPo K k (endF s k1 X) := by
  unfold endF
  by_cases c : s k1 = 59
  · rw [if_pos c]; exact fun _ => ⟨h, by dsimp only; omega, rd_k hu.1 h1 (by omega)⟩
  · rw [if_neg c]; exact fun z => absurd z (by simp)
theorem LPo.n {K k k1 : Nat} {X : (Nat → Int → Int)} {f : Int} (h : f ≠ 0) : LPo K k (f, k1, X) := fun z => absurd z h
theorem lp_kd {s u : Nat → Int} {K k : Nat} {X : (Nat → Int → Int)} (hu : TU s u K) (hk : k < K) (h : WXx X) : LPo K k (kdF s u X k) := by
  unfold kdF
  by_cases c : X 0 0 < 6
  · rw [if_pos c]
    refine LPo.b (fun x1 => ?_)
    have v1 := nnF_v hu hk x1; have p1 := nn_p x1
    generalize nnF s u (X 1) (X 0 0).toNat (k + 1) = r1 at x1 v1 p1
    refine LPo.b (fun x2 => ?_)
    have v2 := nmF_v hu v1.2 x2; have p2 := nm_p x2
    generalize nmF s u r1.2.1 9 = r2 at x2 v2 p2
    refine LPo.b (fun x3 => ?_)
    have v3 := nmF_v hu v2.2.2 x3; have p3 := nm_p x3
    generalize nmF s u r2.2.1 9 = r3 at x3 v3 p3
    refine LPo.e hu (by omega) v3.2.2 ?_
    obtain ⟨⟨b1, b4, b7⟩, ⟨w1, w2, w3, w4, w5, w6, w7⟩, lv⟩ := h
    refine ⟨?_, ?_, lv.fr (fun a x y => by rw [am_up_a _ _ _ _ (by omega), am_up_a _ _ _ _ (by omega), am_up_a _ _ _ _ (by omega), am_up_a _ _ _ _ (by omega)]) (by simp (disch := decide) only [am_up_a, am_up_n, and_self])⟩
    · unfold BX; simp (disch := decide) only [am_up_a, am_up_n, am_up_s]; omega
    · unfold WV; simp (disch := decide) only [am_up_a, am_up_n, am_up_s]
      refine ⟨by omega, fun j j0 j1 => ?_, fun j j0 j1 => ?_, w4, w5, w6, w7⟩
      · by_cases e : j = X 0 0
        · subst e; rw [am_up_s, am_up_s]; omega
        · rw [am_up_n _ _ _ _ e, am_up_n _ _ _ _ e, am_up_a _ _ _ _ (by decide), am_up_a _ _ _ _ (by decide), am_up_a _ _ _ _ (by decide)]; exact w2 j j0 (by omega)
      · have := w3 j j0 j1; omega
  · rw [if_neg c]; exact LPo.n (by decide)
theorem lp_hs {s u : Nat → Int} {K k : Nat} {X : (Nat → Int → Int)} (hu : TU s u K) (hk : k < K) (h : WXx X) : LPo K k (hsF s u X k) := by
  unfold hsF
  by_cases c : X 0 5 < 12
  · rw [if_pos c]
    refine LPo.b (fun x1 => ?_)
    have v1 := nmF_v hu hk x1; have p1 := nm_p x1
    generalize nmF s u (k + 1) 1 = r1 at x1 v1 p1
    refine LPo.b (fun x2 => ?_)
    have v2 := onF_v hu v1.2.2 x2; have p2 := on_p x2
    generalize onF s u (X 1) (X 0 0).toNat r1.2.1 = r2 at x2 v2 p2
    refine LPo.b (fun x3 => ?_)
    have v3 := sgF_v hu v2.2 x3; have p3 := sg_p x3
    generalize sgF s u r2.2.1 99 = r3 at x3 v3 p3
    refine LPo.e hu (by omega) v3.2 ?_
    obtain ⟨⟨b1, b4, b7⟩, ⟨w1, w2, w3, w4, w5, w6, w7⟩, lv⟩ := h
    refine ⟨?_, ?_, lv.fr (fun a x y => by rw [am_up_a _ _ _ _ (by omega), am_up_a _ _ _ _ (by omega)]) (by simp (disch := decide) only [am_up_a, am_up_n, and_self])⟩
    · unfold BX; simp (disch := decide) only [am_up_a, am_up_n, am_up_s]; omega
    · unfold WV; simp (disch := decide) only [am_up_a, am_up_n, am_up_s]
      refine ⟨w1, w2, w3, w4, w5, fun j j0 j1 => ?_, w7⟩
      by_cases e : j = 2 * r2.2.2 + r1.2.2
      · subst e; rw [am_up_s]; omega
      · rw [am_up_n _ _ _ _ e]; exact w6 j j0 j1
  · rw [if_neg c]; exact LPo.n (by decide)
theorem lp_dd {s u : Nat → Int} {K k : Nat} {X : (Nat → Int → Int)} (hu : TU s u K) (hk : k < K) (h : WXx X) : LPo K k (ddF s u X k) := by
  unfold ddF
  by_cases c : X 0 1 < 8
  · rw [if_pos c]
    refine LPo.b (fun x1 => ?_)
    have v1 := nnF_v hu hk x1; have p1 := nn_p x1
    generalize nnF s u (X 5) (X 0 1).toNat (k + 1) = r1 at x1 v1 p1
    refine LPo.b (fun x2 => ?_)
    have v2 := onF_v hu v1.2 x2; have p2 := on_p x2
    generalize onF s u (X 1) (X 0 0).toNat r1.2.1 = r2 at x2 v2 p2
    refine LPo.b (fun x3 => ?_)
    have v3 := sgF_v hu v2.2 x3; have p3 := sg_p x3
    generalize sgF s u r2.2.1 9 = r3 at x3 v3 p3
    refine LPo.b (fun x4 => ?_)
    have v4 := nmF_v hu v3.2 x4; have p4 := nm_p x4
    generalize nmF s u r3.2.1 99 = r4 at x4 v4 p4
    refine LPo.b (fun x5 => ?_)
    have v5 := nmF_v hu v4.2.2 x5; have p5 := nm_p x5
    generalize nmF s u r4.2.1 100 = r5 at x5 v5 p5
    refine LPo.e hu (by omega) v5.2.2 ?_
    obtain ⟨⟨b1, b4, b7⟩, ⟨w1, w2, w3, w4, w5, w6, w7⟩, lv⟩ := h
    refine ⟨?_, ?_, lv.fr (fun a x y => by rw [am_up_a _ _ _ _ (by omega), am_up_a _ _ _ _ (by omega), am_up_a _ _ _ _ (by omega), am_up_a _ _ _ _ (by omega), am_up_a _ _ _ _ (by omega), am_up_a _ _ _ _ (by omega)]) (by simp (disch := decide) only [am_up_a, am_up_n, and_self])⟩
    · unfold BX; simp (disch := decide) only [am_up_a, am_up_n, am_up_s]; omega
    · unfold WV; simp (disch := decide) only [am_up_a, am_up_n, am_up_s]
      refine ⟨by omega, w2, fun j j0 j1 => ?_, fun j j0 j1 => ?_, w5, w6, w7⟩
      · by_cases e : j = X 0 1
        · subst e; simp (disch := decide) only [am_up_a, am_up_s]; omega
        · simp (disch := first | decide | assumption) only [am_up_a, am_up_n]; exact w3 j j0 (by omega)
      · have := w4 j j0 j1; omega
  · rw [if_neg c]; exact LPo.n (by decide)
theorem lp_do {s u : Nat → Int} {K k : Nat} {X : (Nat → Int → Int)} (hu : TU s u K) (hk : k < K) (h : WXx X) : LPo K k (doF s u X k) := by
  unfold doF
  by_cases c : X 0 2 < 12
  · rw [if_pos c]
    refine LPo.b (fun x1 => ?_)
    have v1 := nmF_v hu hk x1; have p1 := nm_p x1
    generalize nmF s u (k + 1) 1 = r1 at x1 v1 p1
    refine LPo.b (fun x2 => ?_)
    have v2 := onF_v hu v1.2.2 x2; have p2 := on_p x2
    generalize onF s u (X 5) (X 0 1).toNat r1.2.1 = r2 at x2 v2 p2
    refine LPo.b (fun x3 => ?_)
    have v3 := nmF_v hu v2.2 x3; have p3 := nm_p x3
    generalize nmF s u r2.2.1 99 = r3 at x3 v3 p3
    refine LPo.e hu (by omega) v3.2.2 ?_
    obtain ⟨⟨b1, b4, b7⟩, ⟨w1, w2, w3, w4, w5, w6, w7⟩, lv⟩ := h
    refine ⟨?_, ?_, lv.fr (fun a x y => by rw [am_up_a _ _ _ _ (by omega), am_up_a _ _ _ _ (by omega), am_up_a _ _ _ _ (by omega), am_up_a _ _ _ _ (by omega)]) (by simp (disch := decide) only [am_up_a, am_up_n, and_self])⟩
    · unfold BX; simp (disch := decide) only [am_up_a, am_up_n, am_up_s]; omega
    · unfold WV; simp (disch := decide) only [am_up_a, am_up_n, am_up_s]
      refine ⟨by omega, w2, w3, fun j j0 j1 => ?_, w5, w6, w7⟩
      by_cases e : j = X 0 2
      · subst e; simp (disch := decide) only [am_up_a, am_up_s]; omega
      · simp (disch := first | decide | assumption) only [am_up_a, am_up_n]; exact w4 j j0 (by omega)
  · rw [if_neg c]; exact LPo.n (by decide)
theorem lp_pr {s u : Nat → Int} {K k a : Nat} {fb most : Int} {X : (Nat → Int → Int)} (hu : TU s u K) (hk : k < K) (ha : (a = 13 ∧ fb = 0 ∧ most = 999) ∨ (a = 14 ∧ fb = 2 ∧ most = 9)) (h : WXx X) : LPo K k (prF s u a fb most X k) := by
  unfold prF
  refine LPo.b (fun x1 => ?_)
  have v1 := nmF_v hu hk x1; have p1 := nm_p x1
  generalize nmF s u (k + 1) 1 = r1 at x1 v1 p1
  by_cases c : bit1 (X 0 7) (fb + r1.2.2) = 0
  · rw [if_pos c]
    refine LPo.b (fun x2 => ?_)
    have v2 := nmF_v hu v1.2.2 x2; have p2 := nm_p x2
    generalize nmF s u r1.2.1 most = r2 at x2 v2 p2
    refine LPo.e hu (by omega) v2.2.2 ?_
    obtain ⟨⟨b1, b4, b7⟩, ⟨w1, w2, w3, w4, w5, w6, w7⟩, lv⟩ := h
    have bo := (bit1_o (t := X 0 7) (b := fb + r1.2.2) (c := 0) b7 (by omega) (by decide)).2
    rcases ha with ⟨rfl, rfl, rfl⟩ | ⟨rfl, rfl, rfl⟩
    · refine ⟨?_, ?_, lv.fr (fun a x y => by rw [am_up_a _ _ _ _ (by omega), am_up_a _ _ _ _ (by omega)]) (by simp (disch := decide) only [am_up_a, am_up_n, and_self])⟩
      · unfold BX; simp (disch := decide) only [am_up_a, am_up_n, am_up_s]; exact ⟨b1, b4, bo⟩
      · unfold WV; simp (disch := decide) only [am_up_a, am_up_n, am_up_s]
        refine ⟨w1, w2, w3, w4, fun j j0 j1 => ?_, w6, w7⟩
        by_cases e : j = r1.2.2
        · subst e; rw [am_up_s]; have := w5 r1.2.2 j0 j1; omega
        · rw [am_up_n _ _ _ _ e, am_up_a _ _ _ _ (by decide)]; exact w5 j j0 j1
    · refine ⟨?_, ?_, lv.fr (fun a x y => by rw [am_up_a _ _ _ _ (by omega), am_up_a _ _ _ _ (by omega)]) (by simp (disch := decide) only [am_up_a, am_up_n, and_self])⟩
      · unfold BX; simp (disch := decide) only [am_up_a, am_up_n, am_up_s]; exact ⟨b1, b4, bo⟩
      · unfold WV; simp (disch := decide) only [am_up_a, am_up_n, am_up_s]
        refine ⟨w1, w2, w3, w4, fun j j0 j1 => ?_, w6, w7⟩
        by_cases e : j = r1.2.2
        · subst e; rw [am_up_s]; have := w5 r1.2.2 j0 j1; omega
        · rw [am_up_n _ _ _ _ e, am_up_a _ _ _ _ (by decide)]; exact w5 j j0 j1
  · rw [if_neg c]; exact LPo.n (by decide)
theorem lp_sd {s u : Nat → Int} {K k : Nat} {X : (Nat → Int → Int)} (hu : TU s u K) (hk : k < K) (h : WXx X) : LPo K k (sdF s u X k) := by
  unfold sdF
  by_cases c : bit1 (X 0 7) 4 = 0
  · rw [if_pos c]
    refine LPo.b (fun x1 => ?_)
    have v1 := nmF_v hu hk x1; have p1 := nm_p x1
    generalize nmF s u (k + 1) 99999 = r1 at x1 v1 p1
    refine LPo.e hu (by omega) v1.2.2 ?_
    obtain ⟨⟨b1, b4, b7⟩, ⟨w1, w2, w3, w4, w5, w6, w7⟩, lv⟩ := h
    have bo := (bit1_o (t := X 0 7) (b := 4) (c := 0) b7 (by decide) (by decide)).2
    refine ⟨?_, ?_, lv.fr (fun a x y => by rw [am_up_a _ _ _ _ (by omega), am_up_a _ _ _ _ (by omega)]) (by simp (disch := decide) only [am_up_a, am_up_n, and_self])⟩
    · unfold BX; simp (disch := decide) only [am_up_a, am_up_n, am_up_s]; exact ⟨b1, b4, bo⟩
    · unfold WV; simp (disch := decide) only [am_up_a, am_up_n, am_up_s]
      exact ⟨w1, w2, w3, w4, w5, w6, by omega⟩
  · rw [if_neg c]; exact LPo.n (by decide)
