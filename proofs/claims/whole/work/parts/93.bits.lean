/-! 93: bits, words -/
theorem px_nI (n : Nat) : Int32.ofInt (n : Int) = nI n := rfl
theorem px_tI {n : Nat} (h : n < 2147483648) : (nI n).toInt = (n : Int) := by
  rw [← px_nI]; exact am_toI (by unfold am_in; omega)
theorem am_sh {n k : Nat} (hs : ((Int32.ofInt (k : Int) &&& 31).toBitVec.smod 32).toNat = k) (h : n * 2 ^ k < 2147483648) : am_shl (n : Int) (k : Int) = ((n * 2 ^ k : Nat) : Int) := by
  unfold am_shl
  rw [px_nI n, pk_shlN _ k hs (by omega), px_tI h]
theorem am_or5 {n c : Nat} (hc : c < 32) (h : n * 32 + c < 2147483648) : am_or ((n * 32 : Nat) : Int) (c : Int) = ((n * 32 + c : Nat) : Int) := by
  unfold am_or
  rw [px_nI, px_nI]
  have e : nI (n * 32) ||| nI c = nI (n * 32 + c) := by
    apply Int32.toBitVec_inj.1
    apply BitVec.eq_of_toNat_eq
    rw [Int32.toBitVec_or, BitVec.toNat_or, pk_tn (by omega), pk_tn (by omega), pk_tn (by omega)]
    have := Nat.shiftLeft_add_eq_or_of_lt (i := 5) (b := c) (by omega) n
    rw [Nat.shiftLeft_eq] at this
    exact this.symm
  rw [e, px_tI h]
theorem am_so {x c : Int} (h0 : 0 ≤ x) (h1 : x < 33554432) (hc : 0 ≤ c ∧ c < 32) : am_or (am_shl x 5) c = x * 32 + c := by
  obtain ⟨n, rfl⟩ : ∃ n : Nat, x = n := ⟨x.toNat, by omega⟩
  obtain ⟨m, rfl⟩ : ∃ m : Nat, c = m := ⟨c.toNat, by omega⟩
  have e := am_sh (n := n) (k := 5) (by decide) (by omega)
  rw [show (((5 : Nat) : Int)) = 5 from rfl, show n * 2 ^ 5 = n * 32 from rfl] at e
  rw [e, am_or5 (by omega) (by omega)]; omega
theorem am_sk {x : Int} {m : Nat} (hm : 1 ≤ m ∧ m ≤ 6) (h0 : 0 ≤ x) (h1 : x < 32 ^ m) : am_shl x (5 * (6 - (m : Int))) = x * 32 ^ (6 - m) := by
  obtain ⟨n, rfl⟩ : ∃ n : Nat, x = n := ⟨x.toNat, by omega⟩
  rcases (show m = 1 ∨ m = 2 ∨ m = 3 ∨ m = 4 ∨ m = 5 ∨ m = 6 by omega) with rfl | rfl | rfl | rfl | rfl | rfl
  · have e := am_sh (n := n) (k := 25) (by decide) (by omega)
    show am_shl (n : Int) ((25 : Nat) : Int) = _
    rw [e]; omega
  · have e := am_sh (n := n) (k := 20) (by decide) (by omega)
    show am_shl (n : Int) ((20 : Nat) : Int) = _
    rw [e]; omega
  · have e := am_sh (n := n) (k := 15) (by decide) (by omega)
    show am_shl (n : Int) ((15 : Nat) : Int) = _
    rw [e]; omega
  · have e := am_sh (n := n) (k := 10) (by decide) (by omega)
    show am_shl (n : Int) ((10 : Nat) : Int) = _
    rw [e]; omega
  · have e := am_sh (n := n) (k := 5) (by decide) (by omega)
    show am_shl (n : Int) ((5 : Nat) : Int) = _
    rw [e]; omega
  · have e := am_sh (n := n) (k := 0) (by decide) (by omega)
    show am_shl (n : Int) ((0 : Nat) : Int) = _
    rw [e]; omega
/-- letters, digits -/
def isL (c : Int) : Prop := 97 ≤ c ∧ c ≤ 122
def isD (c : Int) : Prop := 48 ≤ c ∧ c ≤ 57
def pkN (T : Int → Int) (p : Int) : Nat → Int
  | 0 => 0
  | m + 1 => pkN T p m * 32 + (T (p + m) - 96)
theorem pkN_b {T : Int → Int} {p : Int} : ∀ {m : Nat}, (∀ i : Nat, i < m → isL (T (p + i))) → 0 ≤ pkN T p m ∧ pkN T p m < 32 ^ m
  | 0, _ => by simp [pkN]
  | m + 1, h => by
    have ih := pkN_b (T := T) (p := p) (m := m) (fun i hi => h i (by omega))
    have hl := h m (by omega)
    unfold isL at hl
    rw [pkN, Int.pow_succ]
    omega
def P6 (T : Int → Int) (p : Int) (m : Nat) : Int := pkN T p m * 32 ^ (6 - m)
def dgt (T : Int → Int) (p : Int) (m i : Nat) : Int := if i < m then T (p + i) - 96 else 0
theorem P6_e {T : Int → Int} {p : Int} {m : Nat} (hm : 1 ≤ m ∧ m ≤ 6) : P6 T p m = dgt T p m 0 * 33554432 + dgt T p m 1 * 1048576 + dgt T p m 2 * 32768 + dgt T p m 3 * 1024 + dgt T p m 4 * 32 + dgt T p m 5 := by
  rcases (show m = 1 ∨ m = 2 ∨ m = 3 ∨ m = 4 ∨ m = 5 ∨ m = 6 by omega) with rfl | rfl | rfl | rfl | rfl | rfl <;> simp [P6, pkN, dgt] <;> omega
def cz_of : List Nat := [0, 5, 9, 14, 17, 23, 28, 33, 37, 43, 48, 53, 57, 60, 64, 68, 74, 78, 84, 90, 96, 100]
def cz_ln : List Nat := [4, 3, 4, 2, 5, 4, 4, 3, 5, 4, 4, 3, 2, 3, 3, 5, 3, 5, 5, 5, 3]
def wpI (k : Nat) : Nat := if k = 11 then 12 else if k = 12 then 11 else k
/-- the letters of p.. are word k of the reference -/
def WK (T : Int → Int) (p : Int) (m k : Nat) : Prop := m = cz_ln.getD k 0 ∧ ∀ i : Nat, i < m → T (p + i) = cz_ch.getD (cz_of.getD k 0 + i) 0
theorem cz_k1 : ∀ k : Nat, k < 21 → (1 ≤ cz_ln.getD k 0 ∧ cz_ln.getD k 0 ≤ 5) ∧ cz_of.getD (k + 1) 0 = cz_of.getD k 0 + cz_ln.getD k 0 + 1 ∧ cz_of.getD k 0 < 100 ∧ cz_of.getD k 0 + cz_ln.getD k 0 < 100 ∧ cz_ch.getD (cz_of.getD k 0 + cz_ln.getD k 0) 0 = 32 := by decide
theorem cz_k2 : ∀ k : Nat, k < 21 → ∀ i : Nat, i < cz_ln.getD k 0 → 97 ≤ cz_ch.getD (cz_of.getD k 0 + i) 0 ∧ cz_ch.getD (cz_of.getD k 0 + i) 0 ≤ 122 := by decide
theorem cz_k3 : ∀ k : Nat, k < 21 → P6 (fun j => cz_ch.getD (cz_of.getD k 0 + j.toNat) 0) 0 (cz_ln.getD k 0) = cz_wd.getD (wpI k) 0 := by decide
theorem cz_k4 : ∀ k : Nat, k < 21 → ∀ j : Nat, j < 21 → cz_wd.getD k 0 = cz_wd.getD j 0 → k = j := by decide
theorem wpI_b {k : Nat} (h : k < 21) : wpI k < 21 ∧ wpI (wpI k) = k := by unfold wpI; split <;> (try split) <;> simp <;> omega
theorem dgt_b {T : Int → Int} {p : Int} {m i : Nat} (h : ∀ i : Nat, i < m → isL (T (p + i))) : (0 ≤ dgt T p m i ∧ dgt T p m i ≤ 26) ∧ (i < m → 1 ≤ dgt T p m i) ∧ (m ≤ i → dgt T p m i = 0) := by
  unfold dgt
  split
  · have := h i (by omega); unfold isL at this; omega
  · omega
theorem P6_inj {T T' : Int → Int} {p p' : Int} {m m' : Nat} (hm : 1 ≤ m ∧ m ≤ 6) (hm' : 1 ≤ m' ∧ m' ≤ 6) (h : ∀ i : Nat, i < m → isL (T (p + i))) (h' : ∀ i : Nat, i < m' → isL (T' (p' + i))) (e : P6 T p m = P6 T' p' m') : m = m' ∧ ∀ i : Nat, i < m → T (p + i) = T' (p' + i) := by
  rw [P6_e hm, P6_e hm'] at e
  have a0 := dgt_b (i := 0) h
  have a1 := dgt_b (i := 1) h
  have a2 := dgt_b (i := 2) h
  have a3 := dgt_b (i := 3) h
  have a4 := dgt_b (i := 4) h
  have a5 := dgt_b (i := 5) h
  have b0 := dgt_b (i := 0) h'
  have b1 := dgt_b (i := 1) h'
  have b2 := dgt_b (i := 2) h'
  have b3 := dgt_b (i := 3) h'
  have b4 := dgt_b (i := 4) h'
  have b5 := dgt_b (i := 5) h'
  have e0 : dgt T p m 0 = dgt T' p' m' 0 := by omega
  have e1 : dgt T p m 1 = dgt T' p' m' 1 := by omega
  have e2 : dgt T p m 2 = dgt T' p' m' 2 := by omega
  have e3 : dgt T p m 3 = dgt T' p' m' 3 := by omega
  have e4 : dgt T p m 4 = dgt T' p' m' 4 := by omega
  have e5 : dgt T p m 5 = dgt T' p' m' 5 := by omega
  have em : m = m' := by omega
  subst em
  refine ⟨rfl, fun i hi => ?_⟩
  have key : dgt T p m i = dgt T' p' m i := by
    rcases (show i = 0 ∨ i = 1 ∨ i = 2 ∨ i = 3 ∨ i = 4 ∨ i = 5 by omega) with rfl | rfl | rfl | rfl | rfl | rfl <;> assumption
  unfold dgt at key
  rw [if_pos hi, if_pos hi] at key
  omega
theorem WK_iff {T : Int → Int} {p : Int} {m k : Nat} (hk : k < 21) (hm : 1 ≤ m ∧ m ≤ 6) (h : ∀ i : Nat, i < m → isL (T (p + i))) : WK T p m k ↔ P6 T p m = cz_wd.getD (wpI k) 0 := by
  have k1 := cz_k1 k hk
  have k3 := cz_k3 k hk
  rw [← k3]
  constructor
  · rintro ⟨rfl, a⟩
    rw [P6_e hm, P6_e hm]
    have : ∀ i, dgt T p (cz_ln.getD k 0) i = dgt (fun j => cz_ch.getD (cz_of.getD k 0 + j.toNat) 0) 0 (cz_ln.getD k 0) i := by
      intro i
      unfold dgt
      split
      · rename_i hi; rw [a i hi]; simp
      · rfl
    rw [this, this, this, this, this, this]
  · intro e
    obtain ⟨e1, e2⟩ := P6_inj hm ⟨k1.1.1, by omega⟩ h (fun i hi => by
      have := cz_k2 k hk i hi
      show isL (cz_ch.getD (cz_of.getD k 0 + (0 + (i : Int)).toNat) 0)
      rw [show (0 + (i : Int)).toNat = i by omega]
      exact this) e
    refine ⟨e1, fun i hi => ?_⟩
    have := e2 i hi
    rw [this]
    show cz_ch.getD (cz_of.getD k 0 + (0 + (i : Int)).toNat) 0 = _
    rw [show (0 + (i : Int)).toNat = i by omega]
