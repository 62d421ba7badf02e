/-! 31: runs end in one way; the class State -/
theorem am_det {d j : Nat} {args : List am_V} {h h0 : am_H} {r : Option am_V} (w : am_Sp d j args h (fun r' h' => r' = r ∧ h' = h0)) (Q : Option am_V → am_H → Prop) : am_Sp d j args h Q ↔ Q r h0 := by
  obtain ⟨n, r', h', hr, e1, e2⟩ := w
  subst e1; subst e2
  constructor
  · rintro ⟨k, r2, h2, hr2, q⟩
    have a := am_run_mono (Nat.le_max_left n k) hr
    have b := am_run_mono (Nat.le_max_right n k) hr2
    rw [a] at b
    cases b
    exact q
  · intro q; exact ⟨n, _, _, hr, q⟩
theorem am_it {a b : Prop} (h : a) : (a → b) ↔ b := ⟨fun q => q h, fun q _ => q⟩
theorem am_if {a b : Prop} (h : ¬ a) : (a → b) ↔ True := ⟨fun _ => trivial, fun _ q => absurd q h⟩
theorem am_ga {a b : Prop} (h : a) : (a ∧ b) ↔ b := ⟨fun q => q.2, fun q => ⟨h, q⟩⟩

def bA (f : Int → Int) : Prop := ∀ j, 0 ≤ j → j < 12 → -999 ≤ f j ∧ f j ≤ 999
theorem s59 {d : Nat} {w : Nat × Nat × Nat × Nat} {I L : Nat → Int → Int} {s : Nat} {k t : Int} (hs : isS s) (hk : 0 ≤ k ∧ k < 6) (ht : 0 ≤ t ∧ t < 2) (Q : Option am_V → am_H → Prop) : am_Sp d 59 [vR (some s), vI k, vI t] (mkH w I L) Q ↔ Q (some (vI (I (s + 1) (2 * k + t)))) (mkH w I L) := by
  simp (disch := omega) only [S59, HS hs, am_x2, GA, GR, GRc, GO, GI, GL, GV, am_w_i, am_ga, am_it, am_if, true_and, and_true, or_true, true_or, ne_eq, not_false_eq_true, not_true_eq_false, false_imp_iff, true_imp_iff, Int.reduceEq, Int.reduceLT, Int.reduceLE, Int.reduceAdd, Int.reduceSub, Int.reduceMul, Int.reduceNeg]
theorem s60 {d : Nat} {w : Nat × Nat × Nat × Nat} {I L : Nat → Int → Int} {s : Nat} {k t v : Int} (hs : isS s) (hk : 0 ≤ k ∧ k < 6) (ht : 0 ≤ t ∧ t < 2) (Q : Option am_V → am_H → Prop) : am_Sp d 60 [vR (some s), vI k, vI t, vI v] (mkH w I L) Q ↔ Q none (mkH w (am_up I (s + 1) (2 * k + t) v) L) := by
  simp (disch := omega) only [S60, HS hs, am_x2, GA, GR, GRc, GO, GI, GL, GV, am_w_i, am_ga, am_it, am_if, true_and, and_true, or_true, true_or, ne_eq, not_false_eq_true, not_true_eq_false, false_imp_iff, true_imp_iff, Int.reduceEq, Int.reduceLT, Int.reduceLE, Int.reduceAdd, Int.reduceSub, Int.reduceMul, Int.reduceNeg]
def px_cl (x : Int) : Int := am_max (-999) (am_min 999 x)
theorem s61 {d : Nat} {w : Nat × Nat × Nat × Nat} {I L : Nat → Int → Int} {s : Nat} {k t v : Int} (hs : isS s) (hk : 0 ≤ k ∧ k < 6) (ht : 0 ≤ t ∧ t < 2) (hA : bA (I (s + 1))) (hv : -9999 ≤ v ∧ v ≤ 9999) (Q : Option am_V → am_H → Prop) : am_Sp (d + 1) 61 [vR (some s), vI k, vI t, vI v] (mkH w I L) Q ↔ Q none (mkH w (am_up I (s + 1) (2 * k + t) (px_cl (I (s + 1) (2 * k + t) + v))) L) := by
  have := hA (2 * k + t) (by omega) (by omega)
  simp (disch := omega) only [S61, HS hs, s59 hs hk ht, s60 hs hk ht, am_x2, px_cl, GA, GR, GRc, GO, GI, GL, GV, am_w_i, am_ga, am_it, am_if, true_and, and_true, or_true, true_or, ne_eq, not_false_eq_true, not_true_eq_false, false_imp_iff, true_imp_iff, Int.reduceEq, Int.reduceLT, Int.reduceLE, Int.reduceAdd, Int.reduceSub, Int.reduceMul, Int.reduceNeg]
theorem s62 {d : Nat} {w : Nat × Nat × Nat × Nat} {I L : Nat → Int → Int} {s : Nat} {k : Int} (hs : isS s) (hk : 0 ≤ k ∧ k < 6) (hA : bA (I (s + 1))) (Q : Option am_V → am_H → Prop) : am_Sp (d + 1) 62 [vR (some s), vI k] (mkH w I L) Q ↔ Q (some (vI (iabs (I (s + 1) (2 * k) - I (s + 1) (2 * k + 1))))) (mkH w I L) := by
  have := hA (2 * k) (by omega) (by omega)
  have := hA (2 * k + 1) (by omega) (by omega)
  simp (disch := omega) only [S62, HS hs, s59 hs hk, am_abs_i, am_x2, Int.add_zero, GA, GR, GRc, GO, GI, GL, GV, am_w_i, am_ga, am_it, am_if, true_and, and_true, or_true, true_or, ne_eq, not_false_eq_true, not_true_eq_false, false_imp_iff, true_imp_iff, Int.reduceEq, Int.reduceLT, Int.reduceLE, Int.reduceAdd, Int.reduceSub, Int.reduceMul, Int.reduceNeg]
theorem s63 {d : Nat} {w : Nat × Nat × Nat × Nat} {I L : Nat → Int → Int} {s n : Nat} (hs : isS s) (hn : n ≤ 6) (hA : bA (I (s + 1))) (Q : Option am_V → am_H → Prop) : am_Sp (d + 2) 63 [vR (some s), vI (n : Int)] (mkH w I L) Q ↔ Q (some (vI (if ∀ k : Nat, k < n → I (s + 1) (2 * (k : Int)) = I (s + 1) (2 * (k : Int) + 1) then 1 else 0))) (mkH w I L) := by
  refine am_det ?_ Q
  rw [S63]
  refine am_loop (α := Unit) n (fun i _ => am_WP (d + 2) 63 2 [some (vR (some s)), some (vI (n : Int)), some (vI (i : Int))] [] (mkH w I L) _) (fun i _ => ∀ k : Nat, k < i → I (s + 1) (2 * (k : Int)) = I (s + 1) (2 * (k : Int) + 1)) ?_ ?_ 0 () (Nat.zero_le _) (fun k hk => absurd hk (Nat.not_lt_zero _))
  · intro i _ hi hI ih
    have := hA (2 * (i : Int)) (by omega) (by omega)
    have := hA (2 * (i : Int) + 1) (by omega) (by omega)
    rw [B63_2]
    simp (disch := omega) only [HS hs, s62 (d := d) hs (k := (i : Int)) ⟨by omega, by omega⟩ hA, GA, GR, GRc, GO, GI, GL, GV, am_w_i, am_ga, am_it, am_if, true_and, and_true, or_true, true_or, ne_eq, not_false_eq_true, not_true_eq_false, false_imp_iff, true_imp_iff, Int.reduceEq, Int.reduceLT, Int.reduceLE, Int.reduceAdd, Int.reduceSub, Int.reduceMul, Int.reduceNeg]
    refine ⟨fun e => ?_, fun e => ?_⟩
    · exact ih () (fun k hk => by
        rcases Nat.lt_succ_iff_lt_or_eq.mp hk with q | q
        · exact hI k q
        · subst q; unfold iabs at e; split at e <;> omega)
    · rw [if_neg]
      intro q
      have := q i hi
      apply e; unfold iabs; split <;> omega
  · intro _ hI
    rw [B63_2]
    simp (disch := omega) only [GA, GR, GRc, GO, GI, GL, GV, am_w_i, am_ga, am_it, am_if, true_and, and_true, or_true, true_or, ne_eq, not_false_eq_true, not_true_eq_false, false_imp_iff, true_imp_iff, Int.reduceEq, Int.reduceLT, Int.reduceLE, Int.reduceAdd, Int.reduceSub, Int.reduceMul, Int.reduceNeg]
    rw [if_pos hI]
def px_sum (f : Nat → Int) : Nat → Int
  | 0 => 0
  | n + 1 => px_sum f n + f n
theorem px_sum_b {f : Nat → Int} {c : Int} (hc : 0 ≤ c) : ∀ n : Nat, (∀ k : Nat, k < n → -c ≤ f k ∧ f k ≤ c) → -(n * c) ≤ px_sum f n ∧ px_sum f n ≤ n * c
  | 0, _ => by simp [px_sum]
  | n + 1, h => by
    have a := px_sum_b hc n (fun k hk => h k (by omega))
    have b := h n (by omega)
    have e : ((n + 1 : Nat) : Int) * c = n * c + c := by rw [Int.natCast_add, Int.add_mul]; simp
    rw [px_sum, e]; omega
theorem s64 {d : Nat} {w : Nat × Nat × Nat × Nat} {I L : Nat → Int → Int} {s n : Nat} {t : Int} (hs : isS s) (hn : n ≤ 6) (ht : 0 ≤ t ∧ t < 2) (hA : bA (I (s + 1))) (Q : Option am_V → am_H → Prop) : am_Sp (d + 1) 64 [vR (some s), vI t, vI (n : Int)] (mkH w I L) Q ↔ Q (some (vI (px_sum (fun k => I (s + 1) (2 * (k : Int) + t)) n))) (mkH w I L) := by
  refine am_det ?_ Q
  rw [S64]
  refine am_loop (α := Unit) n (fun i _ => am_WP (d + 1) 64 5 [some (vR (some s)), some (vI t), some (vI (n : Int)), some (vI (px_sum (fun k => I (s + 1) (2 * (k : Int) + t)) i)), some (vI (i : Int))] [] (mkH w I L) _) (fun i _ => True) ?_ ?_ 0 () (Nat.zero_le _) trivial
  · intro i _ hi _ ih
    have a := px_sum_b (f := fun k => I (s + 1) (2 * (k : Int) + t)) (c := 999) (by omega) i (fun k hk => hA _ (by omega) (by omega))
    have b := hA (2 * (i : Int) + t) (by omega) (by omega)
    rw [B64_5]
    simp (disch := omega) only [HS hs, s59 (d := d) hs (k := (i : Int)) ⟨by omega, by omega⟩ ht, GA, GR, GRc, GO, GI, GL, GV, am_w_i, am_ga, am_it, am_if, true_and, and_true, or_true, true_or, ne_eq, not_false_eq_true, not_true_eq_false, false_imp_iff, true_imp_iff, Int.reduceEq, Int.reduceLT, Int.reduceLE, Int.reduceAdd, Int.reduceSub, Int.reduceMul, Int.reduceNeg]
    exact ih () trivial
  · intro _ _
    rw [B64_5]
    simp (disch := omega) only [GA, GR, GRc, GO, GI, GL, GV, am_w_i, am_ga, am_it, am_if, true_and, and_true, or_true, true_or, ne_eq, not_false_eq_true, not_true_eq_false, false_imp_iff, true_imp_iff, Int.reduceEq, Int.reduceLT, Int.reduceLE, Int.reduceAdd, Int.reduceSub, Int.reduceMul, Int.reduceNeg]
/-- the next number of the row -/
def px_num (x : Int) : Int := (x * 1103515245 + 12345) % 2147483648
theorem px_num_b (x : Int) : 0 ≤ px_num x ∧ px_num x < 2147483648 := by unfold px_num; omega
theorem am_and31 (x : Int) : am_and (am_w x) 2147483647 = x % 2147483648 := by
  unfold am_and
  rw [am_ofI_w]
  have e : (Int32.ofInt x &&& Int32.ofInt 2147483647).toInt = (Int32.ofInt x &&& Int32.ofInt 2147483647).toBitVec.toInt := rfl
  rw [e]
  have h2 : (Int32.ofInt x &&& Int32.ofInt 2147483647).toBitVec = BitVec.ofInt 32 x &&& 2147483647#32 := rfl
  rw [h2]
  have h3 : (BitVec.ofInt 32 x &&& 2147483647#32).toNat = (x % 2147483648).toNat := by
    rw [BitVec.toNat_and, BitVec.toNat_ofInt, show (2147483647#32).toNat = 2 ^ 31 - 1 from rfl, Nat.and_two_pow_sub_one_eq_mod]
    omega
  rw [BitVec.toInt_eq_toNat_cond, h3]
  split <;> omega
theorem s65 {d : Nat} {w : Nat × Nat × Nat × Nat} {I L : Nat → Int → Int} {s : Nat} (hs : isS s) (Q : Option am_V → am_H → Prop) : am_Sp d 65 [vR (some s)] (mkH w I L) Q ↔ Q (some (vI (px_num (I s 8) / 65536))) (mkH w (am_up I s 8 (px_num (I s 8))) L) := by
  have e : am_and (am_w (am_w (I s 8 * 1103515245) + 12345)) 2147483647 = px_num (I s 8) := by
    rw [am_and31]; unfold px_num am_w; omega
  have hb := px_num_b (I s 8)
  have e2 : am_w (Int.tdiv (px_num (I s 8)) 65536) = px_num (I s 8) / 65536 := by
    rw [Int.tdiv_eq_ediv_of_nonneg hb.1]; exact am_w_i (by omega) (by omega)
  simp (disch := omega) only [S65, B65_18, HS hs, e, am_up_s, e2, GA, GR, GRc, GO, GI, GL, GV, am_w_i, am_ga, am_it, am_if, true_and, and_true, or_true, true_or, ne_eq, not_false_eq_true, not_true_eq_false, false_imp_iff, true_imp_iff, Int.reduceEq, Int.reduceLT, Int.reduceLE, Int.reduceAdd, Int.reduceSub, Int.reduceMul, Int.reduceNeg]
