/-! 32: the values of laws -/
def mE : Int := -9223372036854775808
def lT : Int := 1000000000000
theorem CMP (a b : Int) : (0 < am_cmp a b ↔ b < a) ∧ (am_cmp a b = 0 ↔ a = b) ∧ (am_cmp a b < 0 ↔ a < b) ∧ (0 ≤ am_cmp a b ↔ b ≤ a) ∧ (am_cmp a b ≤ 0 ↔ a ≤ b) := by
  refine ⟨?_, ?_, ?_, ?_, ?_⟩ <;> unfold am_cmp <;> split
  all_goals first
    | (constructor <;> intro _ <;> omega)
    | (split <;> constructor <;> intro _ <;> omega)
theorem am_iteL (Q : Option am_V → am_H → Prop) (h : am_H) (c : Prop) [Decidable c] (a b : Int) : ((c → Q (some (vL a)) h) ∧ (¬ c → Q (some (vL b)) h)) ↔ Q (some (vL (if c then a else b))) h := by
  split <;> simp_all
theorem am_iteI (Q : Option am_V → am_H → Prop) (h : am_H) (c : Prop) [Decidable c] (a b : Int) : ((c → Q (some (vI a)) h) ∧ (¬ c → Q (some (vI b)) h)) ↔ Q (some (vI (if c then a else b))) h := by
  split <;> simp_all
theorem iabs_n (a : Int) : iabs a = (a.natAbs : Int) := by unfold iabs; split <;> omega
theorem am_absl_i {x : Int} (h1 : -9223372036854775807 ≤ x) (h2 : x ≤ 9223372036854775807) : am_absl x = iabs x := by
  unfold am_absl iabs; split <;> exact am_wl_i (by omega) (by omega)
def px_mul (a b : Int) : Int := if a = 0 then 0 else if iabs b ≤ lT / (iabs a) then a * b else mE
theorem px_mul_b {a b : Int} (hab : iabs b ≤ lT / (iabs a)) : -lT ≤ a * b ∧ a * b ≤ lT := by
  rw [iabs_n, iabs_n] at hab
  have e : (lT : Int) = ((1000000000000 : Nat) : Int) := rfl
  rw [e, ← Int.natCast_ediv] at hab
  have h1 : b.natAbs ≤ 1000000000000 / a.natAbs := by omega
  have h2 : a.natAbs * b.natAbs ≤ 1000000000000 := Nat.le_trans (Nat.mul_le_mul_left _ h1) (Nat.mul_div_le _ _)
  rw [← Int.natAbs_mul] at h2
  rw [e]; omega
def px_join (s a b : Int) : Int := if s = 4 then (if b < a then 0 else 1) else if s = 5 then (if a = b then 0 else 1) else if s = 6 then (if a < b then 0 else 1) else if s = 42 then px_mul a b else if s = 43 then a + b else if s = 45 then a - b else if s = 47 then (if b = 0 then mE else a.tdiv b) else if s = 60 then (if b ≤ a then 0 else 1) else if s = 61 then (if a = b then 1 else 0) else if s = 62 then (if a ≤ b then 0 else 1) else if s = 111 then (if a = 0 then (if b = 0 then 0 else 1) else 1) else if s = 112 then (if a = 0 then 0 else if b = 0 then 0 else 1) else mE
theorem tdiv_b {a b c : Int} (h : -c ≤ a ∧ a ≤ c) : -c ≤ a.tdiv b ∧ a.tdiv b ≤ c := by
  have := Int.natAbs_tdiv_le_natAbs a b
  omega
theorem s16 {d : Nat} {h : am_H} {s a b : Int} (ha : -lT ≤ a ∧ a ≤ lT) (hb : -lT ≤ b ∧ b ≤ lT) (Q : Option am_V → am_H → Prop) : am_Sp d 16 [vI s, vL a, vL b] h Q ↔ Q (some (vL (px_join s a b))) h := by
  unfold lT at ha hb
  rw [S16]
  by_cases h42 : s = 42
  · subst h42
    have e1 := am_absl_i (x := a) (by omega) (by omega)
    have e2 := am_absl_i (x := b) (by omega) (by omega)
    simp (disch := omega) only [B16_144, B16_147, CMP, e1, e2, GA, GR, GRc, GO, GI, GL, GV, am_w_i, am_ga, am_it, am_if, true_and, and_true, or_true, true_or, ne_eq, not_false_eq_true, not_true_eq_false, false_imp_iff, true_imp_iff, Int.reduceEq, Int.reduceLT, Int.reduceLE, Int.reduceAdd, Int.reduceSub, Int.reduceMul, Int.reduceNeg]
    unfold px_join px_mul lT
    simp (disch := omega) only [reduceIte, GA, GR, GRc, GO, GI, GL, GV, am_w_i, am_ga, am_it, am_if, true_and, and_true, or_true, true_or, ne_eq, not_false_eq_true, not_true_eq_false, false_imp_iff, true_imp_iff, Int.reduceEq, Int.reduceLT, Int.reduceLE, Int.reduceAdd, Int.reduceSub, Int.reduceMul, Int.reduceNeg]
    by_cases h0 : a = 0
    · subst h0; simp (disch := omega) only [reduceIte, Int.zero_mul, am_wl_i, GA, GR, GRc, GO, GI, GL, GV, am_w_i, am_ga, am_it, am_if, true_and, and_true, or_true, true_or, ne_eq, not_false_eq_true, not_true_eq_false, false_imp_iff, true_imp_iff, Int.reduceEq, Int.reduceLT, Int.reduceLE, Int.reduceAdd, Int.reduceSub, Int.reduceMul, Int.reduceNeg]
    · have hp : 0 < iabs a := by unfold iabs; split <;> omega
      have e3 : (1000000000000 : Int).tdiv (iabs a) = 1000000000000 / iabs a := Int.tdiv_eq_ediv_of_nonneg (by omega)
      have hq : 0 ≤ 1000000000000 / iabs a ∧ 1000000000000 / iabs a ≤ 1000000000000 := ⟨Int.ediv_nonneg (by omega) (by omega), Int.ediv_le_self _ (by omega)⟩
      simp (disch := omega) only [h0, e3, am_wl_i (x := 1000000000000 / iabs a), if_false, GA, GR, GRc, GO, GI, GL, GV, am_w_i, am_ga, am_it, am_if, true_and, and_true, or_true, true_or, ne_eq, not_false_eq_true, not_true_eq_false, false_imp_iff, true_imp_iff, Int.reduceEq, Int.reduceLT, Int.reduceLE, Int.reduceAdd, Int.reduceSub, Int.reduceMul, Int.reduceNeg]
      by_cases hc : iabs b ≤ 1000000000000 / iabs a
      · have := px_mul_b (a := a) (b := b) (by unfold lT; exact hc)
        unfold lT at this
        simp only [hc, am_wl_i (show -9223372036854775808 ≤ a * b by omega) (by omega), true_imp_iff, not_true_eq_false, false_imp_iff, and_true, if_true]
      · simp only [hc, true_imp_iff, not_false_eq_true, false_imp_iff, true_and, if_false, mE]
  · by_cases h47 : s = 47
    · subst h47
      simp (disch := omega) only [B16_163, CMP, GA, GR, GRc, GO, GI, GL, GV, am_w_i, am_ga, am_it, am_if, true_and, and_true, or_true, true_or, ne_eq, not_false_eq_true, not_true_eq_false, false_imp_iff, true_imp_iff, Int.reduceEq, Int.reduceLT, Int.reduceLE, Int.reduceAdd, Int.reduceSub, Int.reduceMul, Int.reduceNeg]
      unfold px_join
      simp (disch := omega) only [reduceIte, GA, GR, GRc, GO, GI, GL, GV, am_w_i, am_ga, am_it, am_if, true_and, and_true, or_true, true_or, ne_eq, not_false_eq_true, not_true_eq_false, false_imp_iff, true_imp_iff, Int.reduceEq, Int.reduceLT, Int.reduceLE, Int.reduceAdd, Int.reduceSub, Int.reduceMul, Int.reduceNeg]
      by_cases h0 : b = 0
      · subst h0; simp (disch := omega) only [reduceIte, GA, GR, GRc, GO, GI, GL, GV, am_w_i, am_ga, am_it, am_if, true_and, and_true, or_true, true_or, ne_eq, not_false_eq_true, not_true_eq_false, false_imp_iff, true_imp_iff, Int.reduceEq, Int.reduceLT, Int.reduceLE, Int.reduceAdd, Int.reduceSub, Int.reduceMul, Int.reduceNeg]; simp only [mE]
      · have := tdiv_b (b := b) ha
        simp (disch := omega) only [h0, am_wl_i (x := a.tdiv b), if_false, not_false_eq_true, true_imp_iff, GA, GR, GRc, GO, GI, GL, GV, am_w_i, am_ga, am_it, am_if, true_and, and_true, or_true, true_or, ne_eq, not_false_eq_true, not_true_eq_false, false_imp_iff, true_imp_iff, Int.reduceEq, Int.reduceLT, Int.reduceLE, Int.reduceAdd, Int.reduceSub, Int.reduceMul, Int.reduceNeg]
    · unfold px_join
      have e1 := am_wl_i (x := a + b) (by omega) (by omega)
      have e2 := am_wl_i (x := a - b) (by omega) (by omega)
      simp only [B16_187, B16_211, B16_223, B16_175, B16_199, B16_235, B16_266, B16_271, B16_252, B16_253, CMP, h42, h47, e1, e2, false_imp_iff, not_false_eq_true, true_imp_iff, true_and, am_iteL, if_false, ne_eq, mE, ite_not]
def px_up (f : Int → Int) (i v : Int) : Int → Int := fun j => if j = i then v else f j
def px_st (nm : Int → Int) (r : Int) : Option (Nat × (Int → Int)) → Option (Nat × (Int → Int))
  | none => none
  | some (n, st) => if -r ≤ 0 ∨ 114 ≤ -r then (if 64 ≤ n then none else some (n + 1, px_up st n (if -r ≤ 0 then r else nm (-r - 114))))
    else if -r = 113 then (if n < 1 then none else some (n, px_up st ((n : Int) - 1) (if st ((n : Int) - 1) = 0 then 1 else 0)))
    else if n < 2 then none
    else if px_join (-r) (st ((n : Int) - 2)) (st ((n : Int) - 1)) > lT ∨ px_join (-r) (st ((n : Int) - 2)) (st ((n : Int) - 1)) < -lT then none else some (n - 1, px_up st ((n : Int) - 2) (px_join (-r) (st ((n : Int) - 2)) (st ((n : Int) - 1))))
def px_rp (row nm : Int → Int) (a : Int) : Nat → Option (Nat × (Int → Int))
  | 0 => some (0, fun _ => 0)
  | m + 1 => px_st nm (row (a + m)) (px_rp row nm a m)
theorem px_rp_none {row nm : Int → Int} {a : Int} {i : Nat} (h : px_rp row nm a i = none) : ∀ k, px_rp row nm a (i + k) = none
  | 0 => h
  | k + 1 => by rw [← Nat.add_assoc, px_rp, px_rp_none h k]; rfl
def px_val (row nm : Int → Int) (a : Int) (m : Nat) : Int := match px_rp row nm a m with
  | some (n, st) => if n = 1 then st 0 else mE
  | none => mE
theorem px_val_none {row nm : Int → Int} {a : Int} {i m : Nat} (h : px_rp row nm a i = none) (hi : i ≤ m) : px_val row nm a m = mE := by
  obtain ⟨k, rfl⟩ := Nat.exists_eq_add_of_le hi
  rw [px_val, px_rp_none h k]
