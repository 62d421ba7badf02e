/-! 80: healings -/
theorem px_fs_mr {T : (Nat → Int → Int)} {σ : (Nat → Int → Int)} {dy : Int} {m r : Nat} (hr : r ≤ m) : px_fs T (px_sd T r r) σ dy m = px_fs T (px_sd T r r) σ dy r := px_fs_r (fun j hj => px_sd_z hj r) m hr
theorem px_sa_mr {V : (Nat → Int → Int)} {lw : (Int → (Int → Int) → Int)} {F : Int → Int} {T : (Nat → Int → Int)} {m r : Nat} (hr : r ≤ m) : ∀ n, px_sa V lw F T (px_sd T r r) m n = px_sa V lw F T (px_sd T r r) r n
  | 0 => rfl
  | n + 1 => by rw [px_sa, px_sa, px_sa_mr hr n, px_fs_mr hr]
/-- behind the last day nothing is left to see -/
theorem px_sa_l {V : (Nat → Int → Int)} {lw : (Int → (Int → Int) → Int)} {F : Int → Int} {T : (Nat → Int → Int)} {c : Int → Int} {m last : Nat} (hl : px_ld T c m = last) : ∀ n, last ≤ n → px_sa V lw F T c m n = px_sa V lw F T c m last
  | 0, hn => by rw [show last = 0 by omega]
  | n + 1, hn => by
    by_cases e : last = n + 1
    · rw [e]
    · rw [px_sa, px_sa_l hl n (by omega), px_fs_l (m := m) (by rw [hl]; omega) m (Nat.le_refl _)]; simp
