/-! a0: what the line law keeps; a text, pure -/
theorem vlF_p {s u : Nat → Int} : ∀ {f : Nat} {X : (Nat → Int → Int)} {b : Int} {k : Nat}, k ≤ (vlF s u f X b k).2.1
  | 0, X, b, k => Nat.le_refl _
  | f + 1, X, b, k => by
    have ih := fun {X : (Nat → Int → Int)} {b : Int} => vlF_p (s := s) (u := u) (f := f) (X := X) (b := b) (k := k + 1)
    rw [vlF]
    repeat' split
    all_goals first
      | exact Nat.le_trans (Nat.le_succ k) ih
      | exact Nat.le_refl _
theorem lw0_z {X Y : (Nat → Int → Int)} {l : Int} (xf : XF (lw0 X l) Y) : (∀ j, j ≠ 4 → j ≠ 6 → ¬ (8 ≤ j ∧ j ≤ 10) → Y 0 j = X 0 j) ∧ (∀ a, a ≠ 0 → a ≠ 16 → a ≠ 17 → ¬ (19 ≤ a ∧ a ≤ 23) → Y a = X a) ∧ Y 17 = px_up (X 17) l (X 0 6) ∧ ∀ j, j < X 0 6 → Y 16 j = X 16 j ∧ Y 19 j = X 19 j ∧ Y 20 j = X 20 j ∧ Y 21 j = X 21 j := by
  refine ⟨fun j a b c => ?_, fun a a0 b c e => ?_, ?_, fun j hj => ?_⟩
  · rw [xf.2.1 j a b c]; unfold lw0
    rw [am_up_n _ _ _ _ (by omega), am_up_n _ _ _ _ (by omega), am_up_n _ _ _ _ (by omega), am_up_a _ _ _ _ (by decide)]
  · rw [xf.1 a a0 b e]; unfold lw0
    rw [am_up_a _ _ _ _ a0, am_up_a _ _ _ _ a0, am_up_a _ _ _ _ a0, am_up_a _ _ _ _ c]
  · rw [xf.1 17 (by decide) (by decide) (by decide)]; unfold lw0
    rw [am_up_a _ _ _ _ (by decide), am_up_a _ _ _ _ (by decide), am_up_a _ _ _ _ (by decide), am_up_px]
  · have z6 : lw0 X l 0 6 = X 0 6 := by unfold lw0; simp (disch := decide) only [am_up_a, am_up_n]
    have := xf.2.2.2 j (by omega)
    unfold lw0 at this
    simp (disch := decide) only [am_up_a] at this
    exact this
theorem px_val_c {row row' nm : Int → Int} {a : Int} {m : Nat} (h : ∀ j, a ≤ j → j < a + m → row j = row' j) : px_val row nm a m = px_val row' nm a m := by
  unfold px_val; rw [px_rp_c m h]
theorem px_mval_c {kn pa ot kn' pa' ot' nm : Int → Int} {a : Int} {m : Nat} (h : ∀ j, a ≤ j → j < a + m → kn j = kn' j ∧ pa j = pa' j ∧ ot j = ot' j) : px_mval kn pa ot nm a m = px_mval kn' pa' ot' nm a m := by
  unfold px_mval; rw [px_mr_c m h]
theorem lp_lw {s u : Nat → Int} {K k : Nat} {X : (Nat → Int → Int)} (hu : TU s u K) (hk : k < K) (h : WXx X) : LPo K k (lwF s u K X k) := by
  unfold lwF
  by_cases c1 : 108 ≤ s (k + 1) ∧ s (k + 1) ≤ 110
  · rw [if_pos c1]
    by_cases c2 : X 17 (s (k + 1) - 108) < 0
    · rw [if_pos c2]
      obtain ⟨⟨b1, ⟨b4, b6⟩, b7⟩, ⟨w1, w2, w3, w4, w5, w6, w7⟩, lv⟩ := h
      obtain ⟨l, hl⟩ : ∃ l : Int, s (k + 1) - 108 = l := ⟨_, rfl⟩
      rw [hl] at c2 ⊢
      have kK := rd_k hu.1 hk (show s (k + 1) ≠ 0 by omega)
      have z6 : lw0 X l 0 6 = X 0 6 := by unfold lw0; simp (disch := decide) only [am_up_a, am_up_n]
      have z4 : lw0 X l 0 4 = X 0 4 := by unfold lw0; simp (disch := decide) only [am_up_a, am_up_n]
      have z8 : lw0 X l 0 8 = 0 := by unfold lw0; simp (disch := decide) only [am_up_a, am_up_n, am_up_s]
      have z9 : lw0 X l 0 9 = 0 := by unfold lw0; simp (disch := decide) only [am_up_a, am_up_n, am_up_s]
      have z10 : lw0 X l 0 10 = 0 := by unfold lw0; simp (disch := decide) only [am_up_a, am_up_n, am_up_s]
      have I0 : EI (X 0 6) 1 (lw0 X l) := EI.st b6.1 z6 z8 z9 z10 (by omega) (by omega)
      have ve := vlF_e (f := K - (k + 1)) hu kK I0 (Or.inr rfl)
      have vk := vlF_k (s := s) (u := u) hu.1 (f := K - (k + 1)) (X := lw0 X l) (b := 1) kK
      have vp := vlF_p (s := s) (u := u) (f := K - (k + 1)) (X := lw0 X l) (b := 1) (k := k + 2)
      generalize vlF s u (K - (k + 1)) (lw0 X l) 1 (k + 2) = r at ve vk vp
      unfold lwE
      by_cases c3 : r.1 = 0
      · rw [if_pos c3]
        have ve := ve c3
        refine LPo.e hu (by omega) (vk c3) ?_
        obtain ⟨y, y10, y8, xf⟩ := ve
        have fi := y.fi y10 y8
        have bY := y.bd (by decide)
        have hR := y.2.2.2.2.2.2.1
        obtain ⟨u0, ua, u17, uk⟩ := lw0_z xf
        refine ⟨?_, ?_, ?_⟩
        · unfold BX; simp (disch := decide) only [am_up_a, u0]; exact ⟨b1, by omega, b7⟩
        · unfold WV; simp (disch := decide) only [am_up_a, u0, ua]; exact ⟨w1, w2, w3, w4, w5, w6, w7⟩
        · unfold LVx; simp (disch := decide) only [am_up_a, am_up_px, u17, ua, u0]
          refine ⟨lv.1, ?_⟩
          intro l' l0 l1
          by_cases c : l' = l
          · subst c
            rw [px_up_s, px_up_s]
            refine Or.inr ⟨(r.2.2 0 6 - X 0 6).toNat, by omega, b6.1, by omega, by omega, fun j j0 j1 => hR j j0 j1, fi.2.2⟩
          · rw [px_up_n c, px_up_n c]
            rcases lv.2 l' l0 l1 with z | ⟨m, m1, m2, m3, m4, m5, m6⟩
            · exact Or.inl z
            · refine Or.inr ⟨m, m1, m2, m3, by omega, fun j j0 j1 => ?_, fun nm hn => ?_⟩
              · have := uk j (by omega)
                rw [this.1, this.2.1, this.2.2.1, this.2.2.2]; exact m5 j j0 j1
              · rw [px_val_c (row' := X 16) (fun j j0 j1 => (uk j (by omega)).1), px_mval_c (kn' := X 19) (pa' := X 20) (ot' := X 21) (fun j j0 j1 => (uk j (by omega)).2)]
                exact m6 nm hn
      · rw [if_neg c3]; exact LPo.n c3
    · rw [if_neg c2]; exact LPo.n (by decide)
  · rw [if_neg c1]; exact LPo.n (by decide)
theorem lnF_w {s u : Nat → Int} {K k : Nat} {X : (Nat → Int → Int)} (hu : TU s u K) (hk : k < K) (h : WXx X) : LPo K k (lnF s u K X k) := by
  unfold lnF
  by_cases c0 : s k = 100
  · rw [if_pos c0]; exact lp_kd hu hk h
  · rw [if_neg c0]
    by_cases c1 : s k = 101
    · rw [if_pos c1]; exact lp_hs hu hk h
    · rw [if_neg c1]
      by_cases c2 : s k = 102
      · rw [if_pos c2]; exact lp_dd hu hk h
      · rw [if_neg c2]
        by_cases c3 : s k = 103
        · rw [if_pos c3]; exact lp_do hu hk h
        · rw [if_neg c3]
          by_cases c4 : s k = 104
          · rw [if_pos c4]; exact lp_pr hu hk (Or.inl ⟨rfl, rfl, rfl⟩) h
          · rw [if_neg c4]
            by_cases c5 : s k = 105
            · rw [if_pos c5]; exact lp_pr hu hk (Or.inr ⟨rfl, rfl, rfl⟩) h
            · rw [if_neg c5]
              by_cases c6 : s k = 106
              · rw [if_pos c6]; exact lp_sd hu hk h
              · rw [if_neg c6]
                by_cases c7 : s k = 107
                · rw [if_pos c7]; exact lp_lw hu hk h
                · rw [if_neg c7]; exact LPo.n (by decide)
/-- a text: (fault, token, picture), lines -/
def txF (s u : Nat → Int) (K : Nat) : Nat → (Nat → Int → Int) → Nat → Int → (Int × Nat × (Nat → Int → Int)) × Int
  | 0, X, k, n => ((1, k, X), n)
  | f + 1, X, k, n => if s k = 0 then ((0, k, X), n) else if (lnF s u K X k).1 = 0 then txF s u K f (lnF s u K X k).2.2 (lnF s u K X k).2.1 (n + 1) else (lnF s u K X k, n)
theorem txF_w {s u : Nat → Int} {K : Nat} (hu : TU s u K) (h0 : ∀ k, k < K → s k ≠ 0) : ∀ {f : Nat} {X : (Nat → Int → Int)} {k : Nat} {n : Int}, k ≤ K → WXx X → (txF s u K f X k n).1.1 = 0 → WXx (txF s u K f X k n).1.2.2
  | 0, X, k, n, hk, h, z => by rw [txF] at z; simp at z
  | f + 1, X, k, n, hk, h, z => by
    rw [txF] at z ⊢
    by_cases c : s k = 0
    · rw [if_pos c]; exact h
    · rw [if_neg c] at z ⊢
      have kK := rd_k hu.1 hk c
      have lp := lnF_w hu kK h
      by_cases c1 : (lnF s u K X k).1 = 0
      · rw [if_pos c1] at z ⊢
        exact txF_w hu h0 (lp c1).2.2 (lp c1).1 z
      · rw [if_neg c1] at z; exact absurd z c1
