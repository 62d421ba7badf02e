/-! 75: where no luck is drawn, the number does not matter -/
theorem am_up_c {σ : (Nat → Int → Int)} {a : Nat} {i v x : Int} (h : a ≠ 0 ∨ i ≠ 8) : am_up (am_up σ 0 8 x) a i v = am_up (am_up σ a i v) 0 8 x := by
  funext b j
  unfold am_up
  by_cases h1 : b = a ∧ j = i
  · by_cases h2 : b = 0 ∧ j = 8
    · omega
    · simp [h1, h2]; omega
  · by_cases h2 : b = 0 ∧ j = 8
    · simp [h1, h2]; omega
    · simp [h1, h2]
theorem am_up_88 {σ : (Nat → Int → Int)} {x y : Int} : am_up (am_up σ 0 8 x) 0 8 y = am_up σ 0 8 y := by
  funext b j; unfold am_up
  by_cases h2 : b = 0 ∧ j = 8 <;> simp [h2]
theorem px_nm_8 {V σ : (Nat → Int → Int)} {F : Int → Int} {k t x : Int} : px_nm V F (am_up σ 0 8 x) k t = px_nm V F σ k t := by
  funext j
  unfold px_nm px_gap
  rw [am_up_a _ _ _ _ (by decide), am_up_n _ _ _ _ (by decide), am_up_n _ _ _ _ (by decide)]
theorem px_heal_8 {V σ : (Nat → Int → Int)} {lw : (Int → (Int → Int) → Int)} {F : Int → Int} {k t x : Int} : px_heal V lw F (am_up σ 0 8 x) k t = am_up (px_heal V lw F σ k t) 0 8 x := by
  unfold px_heal px_by
  rw [px_nm_8, am_up_a σ 0 8 x (by decide), am_up_c (Or.inl (by decide))]
theorem px_add_8 {V σ : (Nat → Int → Int)} {t e x : Int} : px_add V (am_up σ 0 8 x) t e = am_up (px_add V σ t e) 0 8 x := by
  unfold px_add
  rw [am_up_a σ 0 8 x (by decide), am_up_c (Or.inl (by decide))]
theorem px_lk_8 {F : Int → Int} (h : F 7 ≠ 0) (x odds : Int) : px_lk F x odds = (decide (F 7 = 2 ∨ 50 ≤ odds), x) := by unfold px_lk; rw [if_neg h]
theorem px_try_x {V σ : (Nat → Int → Int)} {lw : (Int → (Int → Int) → Int)} {F : Int → Int} {i x : Int} (h : F 7 ≠ 0) : px_try V lw F (am_up σ 0 8 x) i = am_up (px_try V lw F σ i) 0 8 x := by
  unfold px_try px_odds
  rw [px_nm_8, am_up_a σ 0 8 x (show (2 : Nat) ≠ 0 by decide), px_lk_8 h, px_lk_8 h]
  dsimp only
  split
  · rw [am_up_c (Or.inl (by decide))]
  · split
    · rw [am_up_c (σ := σ) (a := 2) (Or.inl (by decide)), am_up_88, am_up_s, px_add_8, am_up_c (a := 3) (Or.inl (by decide)), px_add_8, am_up_c (a := 3) (Or.inl (by decide)), am_up_88]
    · rw [am_up_c (σ := σ) (a := 2) (Or.inl (by decide)), am_up_88, am_up_s, am_up_c (a := 3) (Or.inl (by decide)), am_up_c (a := 3) (Or.inl (by decide)), am_up_88]
theorem px_for_8 {f : Nat → (Nat → Int → Int) → (Nat → Int → Int)} {x : Int} (h : ∀ i σ, f i (am_up σ 0 8 x) = am_up (f i σ) 0 8 x) : ∀ (n : Nat) (σ : (Nat → Int → Int)), px_for f n (am_up σ 0 8 x) = am_up (px_for f n σ) 0 8 x
  | 0, _ => rfl
  | n + 1, σ => by rw [px_for, px_for_8 h n σ, h]; rfl
theorem px_lv_8 {V σ : (Nat → Int → Int)} {x : Int} : px_lv V (am_up σ 0 8 x) = px_lv V σ := by
  unfold px_lv
  have e : px_isl V (am_up σ 0 8 x) = px_isl V σ := by unfold px_isl; rw [am_up_a σ 0 8 x (show (1 : Nat) ≠ 0 by decide)]
  by_cases c : px_isl V σ
  · rw [@if_pos _ (px_islD V σ) c, @if_pos _ (px_islD V _) (e ▸ c)]
  · rw [@if_neg _ (px_islD V σ) c, @if_neg _ (px_islD V _) (by rw [e]; exact c)]
theorem px_day_x {V σ : (Nat → Int → Int)} {lw : (Int → (Int → Int) → Int)} {F : Int → Int} {x : Int} (h : F 7 ≠ 0) : px_day V lw F (am_up σ 0 8 x) = am_up (px_day V lw F σ) 0 8 x := by
  have a1 : px_d1 V lw F (am_up σ 0 8 x) = am_up (px_d1 V lw F σ) 0 8 x := by
    unfold px_d1
    refine px_for_8 (fun i σ => ?_) _ _
    rw [am_up_n σ 0 8 x (show (3 : Int) ≠ 8 by decide)]
    split
    · exact px_try_x h
    · rfl
  have a2 : ∀ σ, px_d2 V lw F (am_up σ 0 8 x) = am_up (px_d2 V lw F σ) 0 8 x := by
    intro σ; unfold px_d2
    split
    · rfl
    · exact px_for_8 (fun i σ => by rw [px_heal_8, px_heal_8]) _ _
  have a3 : ∀ σ, px_d3 V F (am_up σ 0 8 x) = am_up (px_d3 V F σ) 0 8 x := by
    intro σ; unfold px_d3 px_wg
    split
    · rfl
    · rw [am_up_a σ 0 8 x (show (2 : Nat) ≠ 0 by decide), am_up_c (Or.inl (by decide)), am_up_a _ 0 8 x (show (2 : Nat) ≠ 0 by decide), am_up_c (Or.inl (by decide))]
  have a4 : ∀ σ, px_d4 V (am_up σ 0 8 x) = am_up (px_d4 V σ) 0 8 x := by
    intro σ; unfold px_d4
    rw [px_lv_8, am_up_n σ 0 8 x (show (4 : Int) ≠ 8 by decide), am_up_n σ 0 8 x (show (3 : Int) ≠ 8 by decide), am_up_c (Or.inr (by decide)), am_up_c (Or.inr (by decide))]
  unfold px_day
  rw [a1, a2, a3, a4]
theorem px_days_x {V σ : (Nat → Int → Int)} {lw : (Int → (Int → Int) → Int)} {F : Int → Int} {x : Int} (h : F 7 ≠ 0) : ∀ n, px_days V lw F n (am_up σ 0 8 x) = am_up (px_days V lw F n σ) 0 8 x
  | 0 => rfl
  | n + 1 => by rw [px_days, px_days_x h n, px_day_x h]; rfl
