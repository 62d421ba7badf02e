/-! 89: plans, pure -/
theorem px_B_p (V : (Nat → Int → Int)) : 1 ≤ px_B V := by unfold px_B; omega
theorem px_B_w (V : (Nat → Int → Int)) (r : Nat) : 1 ≤ px_B V ^ r := Nat.pow_pos (px_B_p V)
theorem px_dp_n {V σ : (Nat → Int → Int)} {lw : (Int → (Int → Int) → Int)} {t : Int} {e : Nat} (h : ¬ V 8 ((e : Int) - 1) ≤ σ 2 t) : px_dp V lw t e σ = px_dp V lw t 0 σ := by
  unfold px_dp; rw [if_neg (fun y => h y.2), if_neg (fun y => by omega)]
theorem px_pay {V σ : (Nat → Int → Int)} {D t : Int} {e : Nat} (hV : WV V) (ht : 0 ≤ t ∧ t < 2) (hW : WS D σ) (he : e < px_B V) : WS D (if 1 ≤ e ∧ V 8 ((e : Int) - 1) ≤ σ 2 t then px_add V (am_up σ 2 t (σ 2 t - V 8 ((e : Int) - 1))) t ((e : Int) - 1) else σ) := by
  split
  · rename_i c
    unfold px_B at he
    have := (hV.2.2.1 ((e : Int) - 1) (by omega) (by omega)).2.2.1
    have := hW.2.1 t ht.1 ht.2
    exact (hW.u2 (by omega)).add
  · exact hW
theorem NY.u2 {V σ : (Nat → Int → Int)} {i v : Int} (h : NY V σ) : NY V (am_up σ 2 i v) := by
  intro j a b c
  rw [am_up_a _ _ _ _ (by decide)] at c ⊢; exact h j a b c
theorem px_payN {V σ : (Nat → Int → Int)} {t : Int} {e : Nat} (hN : NY V σ) : NY V (if 1 ≤ e ∧ V 8 ((e : Int) - 1) ≤ σ 2 t then px_add V (am_up σ 2 t (σ 2 t - V 8 ((e : Int) - 1))) t ((e : Int) - 1) else σ) := by
  split
  · exact hN.u2.add
  · exact hN
theorem WS.dp {V σ : (Nat → Int → Int)} {lw : (Int → (Int → Int) → Int)} {D t : Int} {e : Nat} (hV : WV V) (ht : 0 ≤ t ∧ t < 2) (hW : WS D σ) (he : e < px_B V) (hD : D < 20000) : WS (D + 1) (px_dp V lw t e σ) := (px_pay hV ht hW he).day hV FT_WF hD
theorem NY.dp {V σ : (Nat → Int → Int)} {lw : (Int → (Int → Int) → Int)} {t : Int} {e : Nat} (hN : NY V σ) : NY V (px_dp V lw t e σ) := (px_payN hN).day
/-- of a code whose first digit is e -/
theorem px_pd_s {V σ : (Nat → Int → Int)} {lw : (Int → (Int → Int) → Int)} {t : Int} {r e x : Nat} (hx : x < px_B V ^ r) : px_pd V lw t (r + 1) σ (e * px_B V ^ r + x) = px_pd V lw t r (px_dp V lw t e σ) x := by
  unfold px_pd
  rw [px_ps, Nat.add_comm (e * px_B V ^ r) x, Nat.add_mul_mod_self_right, Nat.mod_eq_of_lt hx, Nat.add_mul_div_right _ _ (px_B_w V r), Nat.div_eq_of_lt hx, Nat.zero_add]
theorem px_pm_le {f : Nat → Int} : ∀ {m j : Nat}, j ≤ m → (px_pm f m).2 ≤ f j
  | 0, j, h => by obtain rfl : j = 0 := by omega
                  exact Int.le_refl _
  | m + 1, j, h => by
    rw [px_pm]
    by_cases e : j = m + 1
    · subst e; split
      · exact Int.le_refl _
      · omega
    · have := px_pm_le (f := f) (m := m) (j := j) (by omega)
      split
      · dsimp only; omega
      · exact this
theorem px_pm_sk {f : Nat → Int} {m : Nat} : ∀ {k : Nat}, (∀ x, m < x → x ≤ m + k → (px_pm f m).2 ≤ f x) → px_pm f (m + k) = px_pm f m
  | 0, _ => rfl
  | k + 1, h => by
    have ih := px_pm_sk (f := f) (m := m) (k := k) (fun x a b => h x a (by omega))
    rw [show m + (k + 1) = (m + k) + 1 by omega, px_pm, ih]
    have := h (m + k + 1) (by omega) (by omega)
    rw [if_neg (by omega)]
theorem px_pm_c {f g : Nat → Int} : ∀ {m : Nat}, (∀ x, x ≤ m → f x = g x) → px_pm f m = px_pm g m
  | 0, h => by rw [px_pm, px_pm, h 0 (Nat.le_refl _)]
  | m + 1, h => by rw [px_pm, px_pm, px_pm_c (fun x hx => h x (by omega)), h (m + 1) (Nat.le_refl _)]
theorem px_pm_b {f : Nat → Int} : ∀ {m : Nat}, (px_pm f m).1 ≤ m ∧ (px_pm f m).2 = f (px_pm f m).1
  | 0 => ⟨Nat.le_refl _, rfl⟩
  | m + 1 => by
    have := px_pm_b (f := f) (m := m)
    rw [px_pm]
    split
    · exact ⟨Nat.le_refl _, rfl⟩
    · exact ⟨by omega, this.2⟩
/-- what stands found when the codes below m are through -/
def plJ (V : (Nat → Int → Int)) (n : Nat) (f : Nat → Int) (m : Nat) (I : (Nat → Int → Int)) : Prop := (m = 0 ∧ I 64 1 = 2147483647) ∨ (1 ≤ m ∧ I 64 1 = (px_pm f (m - 1)).2 ∧ ∀ j : Nat, j < n → I 65 j = px_dg V n (px_pm f (m - 1)).1 j)
theorem plJ.fr {V : (Nat → Int → Int)} {n m : Nat} {f : Nat → Int} {I I' : (Nat → Int → Int)} (h : plJ V n f m I) (h1 : I' 64 1 = I 64 1) (h2 : I' 65 = I 65) : plJ V n f m I' := by
  unfold plJ at h ⊢; rw [h1, h2]; exact h
theorem plJ.sk {V : (Nat → Int → Int)} {n m k : Nat} {f : Nat → Int} {I : (Nat → Int → Int)} (h : plJ V n f m I) (hm : 1 ≤ m) (hk : ∀ x, x < k → ∃ y, y < m ∧ f (m + x) = f y) : plJ V n f (m + k) I := by
  rcases h with ⟨a, b⟩ | ⟨a, b, c⟩
  · omega
  · right
    have e : px_pm f (m + k - 1) = px_pm f (m - 1) := by
      rw [show m + k - 1 = (m - 1) + k by omega]
      refine px_pm_sk (fun x x0 x1 => ?_)
      obtain ⟨y, y0, y1⟩ := hk (x - m) (by omega)
      rw [show m + (x - m) = x by omega] at y1
      rw [y1]
      exact px_pm_le (by omega)
    rw [e]
    exact ⟨by omega, b, c⟩
theorem plJ.no {V : (Nat → Int → Int)} {n m : Nat} {f : Nat → Int} {I : (Nat → Int → Int)} (h : plJ V n f m I) (hf : f m < 2147483647) (hc : I 64 1 ≤ f m) : plJ V n f (m + 1) I := by
  rcases h with ⟨a, b⟩ | ⟨a, b, c⟩
  · omega
  · right
    have e : px_pm f (m + 1 - 1) = px_pm f (m - 1) := by
      obtain ⟨k, rfl⟩ : ∃ k, m = k + 1 := ⟨m - 1, by omega⟩
      rw [show k + 1 + 1 - 1 = k + 1 by omega, px_pm, show k + 1 - 1 = k by omega] at *
      rw [if_neg (by omega)]
    rw [e]
    exact ⟨by omega, b, c⟩
theorem plJ.ye {V : (Nat → Int → Int)} {n m : Nat} {f : Nat → Int} {I I' : (Nat → Int → Int)} (h : plJ V n f m I) (hc : f m < I 64 1) (h1 : I' 64 1 = f m) (h2 : ∀ j : Nat, j < n → I' 65 j = px_dg V n m j) : plJ V n f (m + 1) I' := by
  right
  have e : px_pm f (m + 1 - 1) = (m, f m) := by
    rcases h with ⟨rfl, b⟩ | ⟨a, b, c⟩
    · rfl
    · obtain ⟨k, rfl⟩ : ∃ k, m = k + 1 := ⟨m - 1, by omega⟩
      rw [show k + 1 + 1 - 1 = k + 1 by omega, px_pm]
      rw [show k + 1 - 1 = k by omega] at b
      rw [if_pos (by omega)]
  rw [e]
  exact ⟨by omega, h1, h2⟩
/-- digits -/
theorem px_dg_e {V : (Nat → Int → Int)} {n r c e x : Nat} (hr : r + 1 ≤ n) (hx : x < px_B V ^ r) (he : e < px_B V) : px_dg V n (c * px_B V ^ (r + 1) + (e * px_B V ^ r + x)) (n - (r + 1)) = (e : Int) - 1 := by
  unfold px_dg
  have hp := px_B_w V r
  rw [show n - 1 - (n - (r + 1)) = r by omega, show c * px_B V ^ (r + 1) + (e * px_B V ^ r + x) = x + (e + c * px_B V) * px_B V ^ r by rw [Nat.pow_succ, Nat.add_mul, Nat.mul_comm (px_B V ^ r) (px_B V), Nat.mul_assoc]; omega, Nat.add_mul_div_right _ _ hp, Nat.div_eq_of_lt hx, Nat.zero_add, Nat.add_mul_mod_self_right, Nat.mod_eq_of_lt he]
