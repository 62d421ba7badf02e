/-! 34: days, told of numbers alone. V: what a text tells; σ: a state (0: day 3, level days 4, number 8; 1: amounts; 2: purses; 3: outcomes); F: how days are taken (as Course's fields) -/
def px_gap (σ : (Nat → Int → Int)) (k : Int) : Int := iabs (σ 1 (2 * k) - σ 1 (2 * k + 1))
def px_hl (V : (Nat → Int → Int)) (F : Int → Int) (k : Int) : Int := if k = F 5 then F 6 else V 3 k
def px_nm (V : (Nat → Int → Int)) (F : Int → Int) (σ : (Nat → Int → Int)) (k t : Int) : Int → Int := fun j => if j = 0 then σ 1 (2 * k + t) else if j = 1 then σ 1 (2 * k + (1 - t)) else if j = 2 then px_gap σ k else if j = 3 then V 2 k else if j = 4 then px_hl V F k else if j = 5 then σ 0 4 else σ 0 3
def px_lim (v most wo : Int) : Int := if v = mE then wo else am_max 0 (am_min most v)
def px_dist (V : (Nat → Int → Int)) (lw : Int → (Int → Int) → Int) (F : Int → Int) (σ : (Nat → Int → Int)) (n : Nat) : Int := px_sum (fun k => px_lim (lw 0 (px_nm V F σ k 0)) 9999 (px_gap σ k)) n
/-- what comes of odds: the answer, the number behind it -/
def px_lk (F : Int → Int) (x odds : Int) : Bool × Int := if F 7 = 0 then (if odds = 100 then (true, x) else if odds ≤ 0 then (false, x) else (decide ((px_num x / 65536) % 100 < odds), px_num x)) else (decide (F 7 = 2 ∨ 50 ≤ odds), x)
def px_odds (V : (Nat → Int → Int)) (lw : Int → (Int → Int) → Int) (F : Int → Int) (σ : (Nat → Int → Int)) (i : Int) : Int := px_lim (lw 2 (px_nm V F σ (V 6 (V 11 i)) (V 10 i))) 100 (V 9 (V 11 i))
def px_add (V : (Nat → Int → Int)) (σ : (Nat → Int → Int)) (t e : Int) : (Nat → Int → Int) := am_up σ 1 (2 * V 6 e + t) (px_cl (σ 1 (2 * V 6 e + t) + V 7 e))
def px_cost (V : (Nat → Int → Int)) (F : Int → Int) (i : Int) : Int := if F 2 = 0 then 0 else V 8 (V 11 i)
def px_try (V : (Nat → Int → Int)) (lw : Int → (Int → Int) → Int) (F : Int → Int) (σ : (Nat → Int → Int)) (i : Int) : (Nat → Int → Int) :=
  if σ 2 (V 10 i) < px_cost V F i then am_up σ 3 i 3
  else if (px_lk F (σ 0 8) (px_odds V lw F σ i)).1 = true then am_up (px_add V (am_up (am_up σ 2 (V 10 i) (σ 2 (V 10 i) - px_cost V F i)) 0 8 (px_lk F (σ 0 8) (px_odds V lw F σ i)).2) (V 10 i) (V 11 i)) 3 i 1
  else am_up (am_up (am_up σ 2 (V 10 i) (σ 2 (V 10 i) - px_cost V F i)) 0 8 (px_lk F (σ 0 8) (px_odds V lw F σ i)).2) 3 i 2
def px_by (V : (Nat → Int → Int)) (lw : Int → (Int → Int) → Int) (F : Int → Int) (σ : (Nat → Int → Int)) (k t : Int) : Int := px_lim (lw 1 (px_nm V F σ k t)) 9 (px_hl V F k)
def px_hv (a b : Int) : Int := if a ≤ 0 then am_min 0 (a + b) else am_max 0 (a - b)
def px_heal (V : (Nat → Int → Int)) (lw : Int → (Int → Int) → Int) (F : Int → Int) (σ : (Nat → Int → Int)) (k t : Int) : (Nat → Int → Int) := am_up σ 1 (2 * k + t) (px_hv (σ 1 (2 * k + t)) (px_by V lw F σ k t))
def px_d1 (V : (Nat → Int → Int)) (lw : Int → (Int → Int) → Int) (F : Int → Int) (σ : (Nat → Int → Int)) : (Nat → Int → Int) := px_for (fun i σ' => if V 12 i = σ' 0 3 ∧ V 10 i ≠ F 4 then px_try V lw F σ' i else σ') (V 0 2).toNat σ
def px_d2 (V : (Nat → Int → Int)) (lw : Int → (Int → Int) → Int) (F : Int → Int) (σ : (Nat → Int → Int)) : (Nat → Int → Int) := if F 1 = 0 then σ else px_for (fun k σ' => px_heal V lw F (px_heal V lw F σ' k 0) k 1) (V 0 0).toNat σ
def px_wg (V : (Nat → Int → Int)) (σ : (Nat → Int → Int)) (t : Int) : (Nat → Int → Int) := am_up σ 2 t (am_min 9999 (σ 2 t + V 14 t))
def px_d3 (V : (Nat → Int → Int)) (F : Int → Int) (σ : (Nat → Int → Int)) : (Nat → Int → Int) := if F 3 = 0 then σ else px_wg V (px_wg V σ 0) 1
def px_isl (V : (Nat → Int → Int)) (σ : (Nat → Int → Int)) : Prop := ∀ k : Nat, k < (V 0 0).toNat → σ 1 (2 * (k : Int)) = σ 1 (2 * (k : Int) + 1)
def px_islD (V : (Nat → Int → Int)) (σ : (Nat → Int → Int)) : Decidable (px_isl V σ) := by unfold px_isl; exact inferInstance
def px_lv (V : (Nat → Int → Int)) (σ : (Nat → Int → Int)) : Int := @ite Int (px_isl V σ) (px_islD V σ) 1 0
def px_d4 (V : (Nat → Int → Int)) (σ : (Nat → Int → Int)) : (Nat → Int → Int) := am_up (am_up σ 0 4 (σ 0 4 + px_lv V σ)) 0 3 (σ 0 3 + 1)
def px_day (V : (Nat → Int → Int)) (lw : Int → (Int → Int) → Int) (F : Int → Int) (σ : (Nat → Int → Int)) : (Nat → Int → Int) := px_d4 V (px_d3 V F (px_d2 V lw F (px_d1 V lw F σ)))
def px_days (V : (Nat → Int → Int)) (lw : Int → (Int → Int) → Int) (F : Int → Int) : Nat → (Nat → Int → Int) → (Nat → Int → Int)
  | 0, σ => σ
  | n + 1, σ => px_day V lw F (px_days V lw F n σ)
/-- what is so of a text -/
def WV (V : (Nat → Int → Int)) : Prop := ((0 ≤ V 0 0 ∧ V 0 0 ≤ 6) ∧ (0 ≤ V 0 1 ∧ V 0 1 ≤ 8) ∧ (0 ≤ V 0 2 ∧ V 0 2 ≤ 12)) ∧ (∀ k, 0 ≤ k → k < V 0 0 → (0 ≤ V 2 k ∧ V 2 k ≤ 9) ∧ (0 ≤ V 3 k ∧ V 3 k ≤ 9)) ∧ (∀ k, 0 ≤ k → k < V 0 1 → (0 ≤ V 6 k ∧ V 6 k < V 0 0) ∧ (-9 ≤ V 7 k ∧ V 7 k ≤ 9) ∧ (0 ≤ V 8 k ∧ V 8 k ≤ 99) ∧ (0 ≤ V 9 k ∧ V 9 k ≤ 100)) ∧ (∀ k, 0 ≤ k → k < V 0 2 → (0 ≤ V 10 k ∧ V 10 k < 2) ∧ (0 ≤ V 11 k ∧ V 11 k < V 0 1) ∧ (0 ≤ V 12 k ∧ V 12 k ≤ 99)) ∧ (∀ k, 0 ≤ k → k < 2 → (0 ≤ V 14 k ∧ V 14 k ≤ 9) ∧ (0 ≤ V 13 k ∧ V 13 k ≤ 999)) ∧ (∀ k, 0 ≤ k → k < 12 → -99 ≤ V 4 k ∧ V 4 k ≤ 99) ∧ (0 ≤ V 0 3 ∧ V 0 3 ≤ 99999)
/-- what is so of a state, up to day D -/
def WS (D : Int) (σ : (Nat → Int → Int)) : Prop := bA (σ 1) ∧ (∀ t, 0 ≤ t → t < 2 → 0 ≤ σ 2 t ∧ σ 2 t ≤ 9999) ∧ (0 ≤ σ 0 3 ∧ σ 0 3 ≤ D) ∧ (0 ≤ σ 0 4 ∧ σ 0 4 ≤ σ 0 3) ∧ (0 ≤ σ 0 8 ∧ σ 0 8 ≤ 2147483647) ∧ D ≤ 20000
theorem WS.mo {D D' : Int} {σ : (Nat → Int → Int)} (h : WS D σ) (hD : D ≤ D') (h2 : D' ≤ 20000) : WS D' σ := by
  obtain ⟨a, b, c, e, f, g⟩ := h; exact ⟨a, b, ⟨c.1, by omega⟩, e, f, h2⟩
theorem px_lim_b {v most wo : Int} (h0 : 0 ≤ most) (h1 : 0 ≤ wo ∧ wo ≤ most) : 0 ≤ px_lim v most wo ∧ px_lim v most wo ≤ most := by
  unfold px_lim am_max am_min; split
  · exact h1
  · split <;> split <;> omega
theorem px_cl_b (x : Int) : -999 ≤ px_cl x ∧ px_cl x ≤ 999 := by unfold px_cl am_max am_min; split <;> split <;> omega
theorem px_hv_b {a b : Int} (h : -999 ≤ a ∧ a ≤ 999) (hb : 0 ≤ b) : -999 ≤ px_hv a b ∧ px_hv a b ≤ 999 := by
  unfold px_hv am_max am_min; split <;> split <;> omega
theorem bA_up {σ : (Nat → Int → Int)} {i v : Int} (h : bA (σ 1)) (hv : -999 ≤ v ∧ v ≤ 999) : bA (am_up σ 1 i v 1) := by
  intro j h1 h2
  by_cases e : j = i
  · subst e; rw [am_up_s]; exact hv
  · rw [am_up_n _ _ _ _ e]; exact h j h1 h2
theorem bP_up {σ : (Nat → Int → Int)} {i v : Int} (h : ∀ t, 0 ≤ t → t < 2 → 0 ≤ σ 2 t ∧ σ 2 t ≤ 9999) (hv : 0 ≤ v ∧ v ≤ 9999) : ∀ t, 0 ≤ t → t < 2 → 0 ≤ am_up σ 2 i v 2 t ∧ am_up σ 2 i v 2 t ≤ 9999 := by
  intro j h1 h2
  by_cases e : j = i
  · subst e; rw [am_up_s]; exact hv
  · rw [am_up_n _ _ _ _ e]; exact h j h1 h2
/-- writes into a state -/
theorem WS.u1 {D : Int} {σ : (Nat → Int → Int)} {i v : Int} (h : WS D σ) (hv : -999 ≤ v ∧ v ≤ 999) : WS D (am_up σ 1 i v) := by
  obtain ⟨a, b, c, e, f, g⟩ := h
  have e0 : am_up σ 1 i v 0 = σ 0 := am_up_a _ _ _ _ (by decide)
  have e2 : am_up σ 1 i v 2 = σ 2 := am_up_a _ _ _ _ (by decide)
  unfold WS; rw [e0, e2]; exact ⟨bA_up a hv, b, c, e, f, g⟩
theorem WS.u2 {D : Int} {σ : (Nat → Int → Int)} {i v : Int} (h : WS D σ) (hv : 0 ≤ v ∧ v ≤ 9999) : WS D (am_up σ 2 i v) := by
  obtain ⟨a, b, c, e, f, g⟩ := h
  have e0 : am_up σ 2 i v 0 = σ 0 := am_up_a _ _ _ _ (by decide)
  have e1 : am_up σ 2 i v 1 = σ 1 := am_up_a _ _ _ _ (by decide)
  unfold WS; rw [e0, e1]; exact ⟨a, bP_up b hv, c, e, f, g⟩
theorem WS.u3 {D : Int} {σ : (Nat → Int → Int)} {i v : Int} (h : WS D σ) : WS D (am_up σ 3 i v) := by
  obtain ⟨a, b, c, e, f, g⟩ := h
  have e0 : am_up σ 3 i v 0 = σ 0 := am_up_a _ _ _ _ (by decide)
  have e1 : am_up σ 3 i v 1 = σ 1 := am_up_a _ _ _ _ (by decide)
  have e2 : am_up σ 3 i v 2 = σ 2 := am_up_a _ _ _ _ (by decide)
  unfold WS; rw [e0, e1, e2]; exact ⟨a, b, c, e, f, g⟩
theorem WS.u8 {D : Int} {σ : (Nat → Int → Int)} {v : Int} (h : WS D σ) (hv : 0 ≤ v ∧ v ≤ 2147483647) : WS D (am_up σ 0 8 v) := by
  obtain ⟨a, b, c, e, f, g⟩ := h
  have e1 : am_up σ 0 8 v 1 = σ 1 := am_up_a _ _ _ _ (by decide)
  have e2 : am_up σ 0 8 v 2 = σ 2 := am_up_a _ _ _ _ (by decide)
  unfold WS; rw [e1, e2, am_up_s, am_up_n _ _ _ _ (show (3 : Int) ≠ 8 by decide), am_up_n _ _ _ _ (show (4 : Int) ≠ 8 by decide)]; exact ⟨a, b, c, e, hv, g⟩
theorem px_lk_b {F : Int → Int} {x odds : Int} (h : 0 ≤ x ∧ x ≤ 2147483647) : 0 ≤ (px_lk F x odds).2 ∧ (px_lk F x odds).2 ≤ 2147483647 := by
  have := px_num_b x
  unfold px_lk
  split
  · split
    · exact h
    · split
      · exact h
      · exact ⟨this.1, by show px_num x ≤ _; omega⟩
  · exact h
/-- the flags -/
def WF (F : Int → Int) : Prop := 0 ≤ F 6 ∧ F 6 ≤ 9
theorem px_hl_b {V : (Nat → Int → Int)} {F : Int → Int} {k : Int} (hV : WV V) (hF : WF F) (h0 : 0 ≤ k) (h1 : k < V 0 0) : 0 ≤ px_hl V F k ∧ px_hl V F k ≤ 9 := by
  unfold px_hl; split
  · exact hF
  · exact (hV.2.1 k h0 h1).2
theorem WS.try_ {V : (Nat → Int → Int)} {lw : Int → (Int → Int) → Int} {F : Int → Int} {D : Int} {σ : (Nat → Int → Int)} {i : Int} (hV : WV V) (h : WS D σ) (h0 : 0 ≤ i) (h1 : i < V 0 2) : WS D (px_try V lw F σ i) := by
  have a := hV.2.2.2.1 i h0 h1
  have b := hV.2.2.1 _ a.2.1.1 a.2.1.2
  have c := h.2.1 _ a.1.1 a.1.2
  have hc : 0 ≤ px_cost V F i := by unfold px_cost; split <;> omega
  have hn := px_lk_b (F := F) (odds := px_odds V lw F σ i) h.2.2.2.2.1
  unfold px_try
  split
  · exact h.u3
  · split
    · exact (((h.u2 (by omega)).u8 hn).u1 (px_cl_b _)).u3
    · exact ((h.u2 (by omega)).u8 hn).u3
theorem WS.heal {V : (Nat → Int → Int)} {lw : Int → (Int → Int) → Int} {F : Int → Int} {D : Int} {σ : (Nat → Int → Int)} {k t : Int} (hV : WV V) (hF : WF F) (h : WS D σ) (h0 : 0 ≤ k) (h1 : k < V 0 0) (ht : 0 ≤ t ∧ t < 2) : WS D (px_heal V lw F σ k t) := by
  have hk : V 0 0 ≤ 6 := hV.1.1.2
  exact h.u1 (px_hv_b (h.1 _ (by omega) (by omega)) (px_lim_b (by omega) (px_hl_b hV hF h0 h1)).1)
theorem WS.for_ {D : Int} {f : Nat → (Nat → Int → Int) → (Nat → Int → Int)} : ∀ (n : Nat) (σ : (Nat → Int → Int)), (∀ i σ', i < n → WS D σ' → WS D (f i σ')) → WS D σ → WS D (px_for f n σ)
  | 0, σ, _, h => h
  | n + 1, σ, hf, h => hf n _ (Nat.lt_succ_self n) (WS.for_ n σ (fun i σ' hi => hf i σ' (Nat.lt_succ_of_lt hi)) h)
theorem WS.d1 {V : (Nat → Int → Int)} {lw : Int → (Int → Int) → Int} {F : Int → Int} {D : Int} {σ : (Nat → Int → Int)} (hV : WV V) (h : WS D σ) : WS D (px_d1 V lw F σ) := by
  refine WS.for_ _ _ (fun i σ' hi h' => ?_) h
  have := hV.1.2.2.1
  show WS D (if _ then _ else _)
  split
  · exact h'.try_ hV (by omega) (by omega)
  · exact h'
theorem WS.d2 {V : (Nat → Int → Int)} {lw : Int → (Int → Int) → Int} {F : Int → Int} {D : Int} {σ : (Nat → Int → Int)} (hV : WV V) (hF : WF F) (h : WS D σ) : WS D (px_d2 V lw F σ) := by
  unfold px_d2; split
  · exact h
  · refine WS.for_ _ _ (fun i σ' hi h' => ?_) h
    have := hV.1.1.1
    exact (h'.heal hV hF (by omega) (by omega) (by omega)).heal hV hF (by omega) (by omega) (by omega)
theorem WS.wg {V : (Nat → Int → Int)} {D : Int} {σ : (Nat → Int → Int)} {t : Int} (hV : WV V) (h : WS D σ) (ht : 0 ≤ t ∧ t < 2) : WS D (px_wg V σ t) := by
  have a := h.2.1 t ht.1 ht.2
  have b := hV.2.2.2.2.1 t ht.1 ht.2
  exact h.u2 (by unfold am_min; split <;> omega)
theorem WS.d3 {V : (Nat → Int → Int)} {F : Int → Int} {D : Int} {σ : (Nat → Int → Int)} (hV : WV V) (h : WS D σ) : WS D (px_d3 V F σ) := by
  unfold px_d3; split
  · exact h
  · exact (h.wg hV (by omega)).wg hV (by omega)
theorem px_lv_b (V σ : (Nat → Int → Int)) : 0 ≤ px_lv V σ ∧ px_lv V σ ≤ 1 := by unfold px_lv; split <;> omega
theorem WS.d4 {V : (Nat → Int → Int)} {D : Int} {σ : (Nat → Int → Int)} (h : WS D σ) (hD : D < 20000) : WS (D + 1) (px_d4 V σ) := by
  obtain ⟨a, b, c, e, f, g⟩ := h
  have hl := px_lv_b V σ
  unfold px_d4
  have e1 : am_up (am_up σ 0 4 (σ 0 4 + px_lv V σ)) 0 3 (σ 0 3 + 1) 1 = σ 1 := by rw [am_up_a _ _ _ _ (by decide), am_up_a _ _ _ _ (by decide)]
  have e2 : am_up (am_up σ 0 4 (σ 0 4 + px_lv V σ)) 0 3 (σ 0 3 + 1) 2 = σ 2 := by rw [am_up_a _ _ _ _ (by decide), am_up_a _ _ _ _ (by decide)]
  unfold WS
  rw [e1, e2, am_up_s, am_up_n _ _ _ _ (show (4 : Int) ≠ 3 by decide), am_up_s, am_up_n _ _ _ _ (show (8 : Int) ≠ 3 by decide), am_up_n _ _ _ _ (show (8 : Int) ≠ 4 by decide)]
  exact ⟨a, b, by omega, by omega, f, by omega⟩
theorem WS.day {V : (Nat → Int → Int)} {lw : Int → (Int → Int) → Int} {F : Int → Int} {D : Int} {σ : (Nat → Int → Int)} (hV : WV V) (hF : WF F) (h : WS D σ) (hD : D < 20000) : WS (D + 1) (px_day V lw F σ) := ((((h.d1 hV).d2 hV hF).d3 hV).d4 hD)
theorem WS.days {V : (Nat → Int → Int)} {lw : Int → (Int → Int) → Int} {F : Int → Int} {D : Int} {σ : (Nat → Int → Int)} (hV : WV V) (hF : WF F) (h : WS D σ) (n : Nat) (hn : D + n ≤ 20000) : WS (D + n) (px_days V lw F n σ) := by
  induction n with
  | zero => rw [show D + ((0 : Nat) : Int) = D by omega]; exact h
  | succ n ih =>
    have q := (ih (by omega)).day (lw := lw) hV hF (by omega)
    rw [show D + ((n + 1 : Nat) : Int) = D + n + 1 by omega]
    exact q
