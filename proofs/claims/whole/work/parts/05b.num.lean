/-! numbers: whole numbers in 32 and 64 bits -/
def am_in (x : Int) : Prop := -2147483648 ≤ x ∧ x ≤ 2147483647
def am_inl (x : Int) : Prop := -9223372036854775808 ≤ x ∧ x ≤ 9223372036854775807
theorem am_w_in (x : Int) : am_in (am_w x) := by unfold am_in am_w; omega
theorem am_wl_in (x : Int) : am_inl (am_wl x) := by unfold am_inl am_wl; omega
theorem am_wb_in (x : Int) : am_in (am_wb x) := by unfold am_in am_wb; omega
theorem am_w_id {x : Int} (h : am_in x) : am_w x = x := by unfold am_in at h; unfold am_w; omega
theorem am_wl_id {x : Int} (h : am_inl x) : am_wl x = x := by unfold am_inl at h; unfold am_wl; omega
theorem am_bm (x : Int) : (Int32.ofInt x).toInt = am_w x := by
  rw [Int32.toInt_ofInt, show Int32.size = 4294967296 from rfl, Int.bmod_def]
  unfold am_w
  split <;> omega
theorem am_bml (x : Int) : (Int64.ofInt x).toInt = am_wl x := by
  rw [Int64.toInt_ofInt, show Int64.size = 18446744073709551616 from rfl, Int.bmod_def]
  unfold am_wl
  split <;> omega
theorem am_toI {x : Int} (h : am_in x) : (Int32.ofInt x).toInt = x := by rw [am_bm, am_w_id h]
theorem am_toL {x : Int} (h : am_inl x) : (Int64.ofInt x).toInt = x := by rw [am_bml, am_wl_id h]
theorem am_ofI (x : Int32) : Int32.ofInt x.toInt = x := by
  exact Int32.ofInt_toInt x
theorem am_ofL (x : Int64) : Int64.ofInt x.toInt = x := by
  exact Int64.ofInt_toInt x
theorem am_I_in (x : Int32) : am_in x.toInt := by
  have h1 := Int32.le_toInt x
  have h2 := Int32.toInt_lt x
  unfold am_in; omega
theorem am_L_in (x : Int64) : am_inl x.toInt := by
  have h1 := Int64.le_toInt x
  have h2 := Int64.toInt_lt x
  unfold am_inl; omega
theorem am_ofI_w (x : Int) : Int32.ofInt (am_w x) = Int32.ofInt x := by
  apply Int32.toInt_inj.mp
  rw [am_bm, am_bm, am_w_id (am_w_in x)]
theorem am_ofL_w (x : Int) : Int64.ofInt (am_wl x) = Int64.ofInt x := by
  apply Int64.toInt_inj.mp
  rw [am_bml, am_bml, am_wl_id (am_wl_in x)]
theorem am_add (x y : Int) : Int32.ofInt x + Int32.ofInt y = Int32.ofInt (am_w (x + y)) := by rw [am_ofI_w, Int32.ofInt_add]
theorem am_sub (x y : Int) : Int32.ofInt x - Int32.ofInt y = Int32.ofInt (am_w (x - y)) := by rw [am_ofI_w, Int32.ofInt_sub]
theorem am_mul (x y : Int) : Int32.ofInt x * Int32.ofInt y = Int32.ofInt (am_w (x * y)) := by rw [am_ofI_w, Int32.ofInt_mul]
theorem am_neg (x : Int) : -Int32.ofInt x = Int32.ofInt (am_w (-x)) := by rw [am_ofI_w, Int32.ofInt_neg]
theorem am_addl (x y : Int) : Int64.ofInt x + Int64.ofInt y = Int64.ofInt (am_wl (x + y)) := by rw [am_ofL_w, Int64.ofInt_add]
theorem am_subl (x y : Int) : Int64.ofInt x - Int64.ofInt y = Int64.ofInt (am_wl (x - y)) := by rw [am_ofL_w, Int64.ofInt_sub]
theorem am_mull (x y : Int) : Int64.ofInt x * Int64.ofInt y = Int64.ofInt (am_wl (x * y)) := by rw [am_ofL_w, Int64.ofInt_mul]
theorem am_negl (x : Int) : -Int64.ofInt x = Int64.ofInt (am_wl (-x)) := by rw [am_ofL_w, Int64.ofInt_neg]
theorem am_eq0 {x : Int} (h : am_in x) {k : Int} (hk : am_in k) : Int32.ofInt x = Int32.ofInt k ↔ x = k := by
  rw [← Int32.toInt_inj, am_toI h, am_toI hk]
theorem am_lt0 {x : Int} (h : am_in x) {k : Int} (hk : am_in k) : Int32.ofInt x < Int32.ofInt k ↔ x < k := by
  rw [Int32.lt_iff_toInt_lt, am_toI h, am_toI hk]
theorem am_le0 {x : Int} (h : am_in x) {k : Int} (hk : am_in k) : Int32.ofInt x ≤ Int32.ofInt k ↔ x ≤ k := by
  rw [Int32.le_iff_toInt_le, am_toI h, am_toI hk]
theorem am_eql {x : Int} (h : am_inl x) {k : Int} (hk : am_inl k) : Int64.ofInt x = Int64.ofInt k ↔ x = k := by
  rw [← Int64.toInt_inj, am_toL h, am_toL hk]
theorem am_ltl {x : Int} (h : am_inl x) {k : Int} (hk : am_inl k) : Int64.ofInt x < Int64.ofInt k ↔ x < k := by
  rw [Int64.lt_iff_toInt_lt, am_toL h, am_toL hk]
theorem am_div {x y : Int} (hx : am_in x) (hy : am_in y) : Int32.ofInt x / Int32.ofInt y = Int32.ofInt (am_w (x.tdiv y)) := by
  apply Int32.toInt_inj.mp
  rw [am_ofI_w, Int32.toInt_div, am_toI hx, am_toI hy, Int32.toInt_ofInt]
theorem am_divl {x y : Int} (hx : am_inl x) (hy : am_inl y) : Int64.ofInt x / Int64.ofInt y = Int64.ofInt (am_wl (x.tdiv y)) := by
  apply Int64.toInt_inj.mp
  rw [am_ofL_w, Int64.toInt_div, am_toL hx, am_toL hy, Int64.toInt_ofInt]
theorem am_tmod_le (x y : Int) : (x.tmod y).natAbs ≤ x.natAbs := by
  rw [Int.natAbs_tmod]
  exact Nat.mod_le _ _
theorem am_tmod_in {x y : Int} (hx : am_in x) : am_in (x.tmod y) := by
  have h1 := am_tmod_le x y
  have h2 : 0 ≤ x → 0 ≤ x.tmod y := fun h => Int.tmod_nonneg y h
  have h3 : x ≤ 0 → x.tmod y ≤ 0 := fun h => by
    have := Int.tmod_nonneg y (show 0 ≤ -x by omega)
    rw [Int.neg_tmod] at this
    omega
  rcases Int.le_total 0 x with q | q
  · have := h2 q; unfold am_in at hx ⊢; omega
  · have := h3 q; unfold am_in at hx ⊢; omega
theorem am_tmod_inl {x y : Int} (hx : am_inl x) : am_inl (x.tmod y) := by
  have h1 := am_tmod_le x y
  have h2 : 0 ≤ x → 0 ≤ x.tmod y := fun h => Int.tmod_nonneg y h
  have h3 : x ≤ 0 → x.tmod y ≤ 0 := fun h => by
    have := Int.tmod_nonneg y (show 0 ≤ -x by omega)
    rw [Int.neg_tmod] at this
    omega
  rcases Int.le_total 0 x with q | q
  · have := h2 q; unfold am_inl at hx ⊢; omega
  · have := h3 q; unfold am_inl at hx ⊢; omega
theorem am_rem {x y : Int} (hx : am_in x) (hy : am_in y) : Int32.ofInt x - Int32.ofInt x / Int32.ofInt y * Int32.ofInt y = Int32.ofInt (x.tmod y) := by
  apply Int32.toInt_inj.mp
  rw [rem_toInt, am_toI hx, am_toI hy, am_toI (am_tmod_in hx)]
theorem am_and_in (x y : Int) : am_in (am_and x y) := am_I_in _
theorem am_or_in (x y : Int) : am_in (am_or x y) := am_I_in _
theorem am_shl_in (x y : Int) : am_in (am_shl x y) := am_I_in _
theorem am_shr_in (x y : Int) : am_in (am_shr x y) := am_I_in _
theorem am_andl_in (x y : Int) : am_inl (am_andl x y) := am_L_in _
theorem am_cmp_in (x y : Int) : am_in (am_cmp x y) := by 
  unfold am_cmp am_in; split
  · omega
  · split <;> omega
theorem am_i2l {x : Int} (hx : am_in x) : (Int32.ofInt x).toInt64 = Int64.ofInt x := by
  apply Int64.toInt_inj.mp
  have : am_inl x := by unfold am_in at hx; unfold am_inl; omega
  rw [Int32.toInt_toInt64, am_toI hx, am_toL this]
theorem am_l2i {x : Int} (hx : am_inl x) : (Int64.ofInt x).toInt32 = Int32.ofInt (am_w x) := by
  apply Int32.toInt_inj.mp
  rw [am_ofI_w, Int64.toInt_toInt32, am_toL hx, Int32.toInt_ofInt]
theorem am_i2b {x : Int} (hx : am_in x) : (Int32.ofInt x).toInt8.toInt32 = Int32.ofInt (am_wb x) := by
  apply Int32.toInt_inj.mp
  rw [Int8.toInt_toInt32, Int32.toInt_toInt8, am_toI hx, am_toI (am_wb_in x), show (2 : Nat) ^ 8 = 256 from rfl, Int.bmod_def]
  unfold am_wb
  split <;> omega
theorem am_reml {x y : Int} (hx : am_inl x) (hy : am_inl y) : Int64.ofInt x - Int64.ofInt x / Int64.ofInt y * Int64.ofInt y = Int64.ofInt (x.tmod y) := by
  have e : x.tmod y = x - x.tdiv y * y := by
    have h := Int.mul_tdiv_add_tmod x y
    rw [Int.mul_comm] at h
    omega
  rw [am_divl hx hy, am_ofL_w, ← Int64.ofInt_mul, ← Int64.ofInt_sub, e]
