/-! 57: parts in least terms: sure, mean; due -/
theorem gcd_st {x y : Nat} : Nat.gcd y (x % y) = Nat.gcd x y := by
  rw [Nat.gcd_comm x y, Nat.gcd_rec y x, Nat.gcd_comm]
theorem half_mod {x y : Nat} {k : Nat} (hy : y < 2 ^ (k + 1)) (h0 : 0 < x % y) (hy0 : 0 < y) : y % (x % y) < 2 ^ k := by
  have h1 := Nat.mod_lt x hy0
  have h2 := Nat.mod_lt y h0
  have h3 : y = (x % y) * (y / (x % y)) + y % (x % y) := (Nat.div_add_mod y (x % y)).symm
  have h4 : 1 ≤ y / (x % y) := Nat.div_pos (Nat.le_of_lt h1) h0
  have h5 : x % y ≤ (x % y) * (y / (x % y)) := Nat.le_mul_of_pos_right _ h4
  have h6 : 2 ^ (k + 1) = 2 * 2 ^ k := by rw [Nat.pow_succ, Nat.mul_comm]
  omega
def px_lt (a : Int) (b : Nat) (t : Int) : Int := (if t = 0 then a else (b : Int)).tdiv (Nat.gcd b a.natAbs : Int)
theorem s127 {d : Nat} {h : am_H} {a t : Int} {b : Nat} (hb : 0 < b ∧ b ≤ 1000000000000) (ha : a.natAbs ≤ 1000000000000) (Q : Option am_V → am_H → Prop) : am_Sp d 127 [vL a, vL (b : Int), vI t] h Q ↔ Q (some (vL (px_lt a b t))) h := by
  refine am_det ?_ Q
  have hg : 0 < Nat.gcd b a.natAbs := Nat.gcd_pos_of_pos_left _ hb.1
  have fin : ∀ (i : Int) (y : Int) (l10 : Option am_V), am_WP d 127 47 [some (vL a), none, some (vL (b : Int)), none, some (vI t), some (vL (Nat.gcd b a.natAbs : Int)), none, some (vL y), none, some (vI i), l10, none] [] h (fun r' h' => r' = some (vL (px_lt a b t)) ∧ h' = h) := by
    intro i y l10
    have t1 := tdiv_b (a := a) (b := (Nat.gcd b a.natAbs : Int)) (c := 1000000000000) (by omega)
    have t2 := tdiv_b (a := (b : Int)) (b := (Nat.gcd b a.natAbs : Int)) (c := 1000000000000) (by omega)
    unfold px_lt
    rw [B127_47]
    by_cases c : t = 0
    · simp (disch := omega) only [c, B127_57, CMP, B127_76, am_wl_i, if_true, GA, GR, GRc, GO, GI, GL, GV, am_w_i, am_ga, am_it, am_if, true_and, and_true, or_true, true_or, ne_eq, not_false_eq_true, not_true_eq_false, false_imp_iff, true_imp_iff, Int.reduceEq, Int.reduceLT, Int.reduceLE, Int.reduceAdd, Int.reduceSub, Int.reduceMul, Int.reduceNeg]
    · simp (disch := omega) only [c, B127_57, CMP, B127_76, am_wl_i, if_false, GA, GR, GRc, GO, GI, GL, GV, am_w_i, am_ga, am_it, am_if, true_and, and_true, or_true, true_or, ne_eq, not_false_eq_true, not_true_eq_false, false_imp_iff, true_imp_iff, Int.reduceEq, Int.reduceLT, Int.reduceLE, Int.reduceAdd, Int.reduceSub, Int.reduceMul, Int.reduceNeg]
  have loop : ∀ (k x y i : Nat) (l10 : Option am_V), y < 2 ^ k → i + 2 * k < 100 → Nat.gcd x y = Nat.gcd b a.natAbs → am_WP d 127 12 [some (vL a), none, some (vL (b : Int)), none, some (vI t), some (vL (x : Int)), none, some (vL (y : Int)), none, some (vI (i : Int)), l10, none] [] h (fun r' h' => r' = some (vL (px_lt a b t)) ∧ h' = h) := by
    intro k
    induction k with
    | zero =>
      intro x y i l10 hy hi e
      obtain rfl : y = 0 := by simpa using hy
      rw [Nat.gcd_zero_right] at e
      rw [B127_12]
      simp (disch := omega) only [CMP, GA, GR, GRc, GO, GI, GL, GV, am_w_i, am_ga, am_it, am_if, true_and, and_true, or_true, true_or, ne_eq, not_false_eq_true, not_true_eq_false, false_imp_iff, true_imp_iff, Int.reduceEq, Int.reduceLT, Int.reduceLE, Int.reduceAdd, Int.reduceSub, Int.reduceMul, Int.reduceNeg]
      rw [e]; exact fin _ _ _
    | succ k ih =>
      intro x y i l10 hy hi e
      by_cases y0 : y = 0
      · subst y0
        rw [Nat.gcd_zero_right] at e
        rw [B127_12]
        simp (disch := omega) only [CMP, GA, GR, GRc, GO, GI, GL, GV, am_w_i, am_ga, am_it, am_if, true_and, and_true, or_true, true_or, ne_eq, not_false_eq_true, not_true_eq_false, false_imp_iff, true_imp_iff, Int.reduceEq, Int.reduceLT, Int.reduceLE, Int.reduceAdd, Int.reduceSub, Int.reduceMul, Int.reduceNeg]
        rw [e]; exact fin _ _ _
      · have e1 : (x : Int).tmod (y : Int) = ((x % y : Nat) : Int) := by rw [tmod_nn (by omega)]; omega
        rw [B127_12]
        simp (disch := omega) only [CMP, e1, GA, GR, GRc, GO, GI, GL, GV, am_w_i, am_ga, am_it, am_if, true_and, and_true, or_true, true_or, ne_eq, not_false_eq_true, not_true_eq_false, false_imp_iff, true_imp_iff, Int.reduceEq, Int.reduceLT, Int.reduceLE, Int.reduceAdd, Int.reduceSub, Int.reduceMul, Int.reduceNeg]
        by_cases r0 : x % y = 0
        · have e2 : Nat.gcd y 0 = Nat.gcd b a.natAbs := by have := gcd_st (x := x) (y := y); rw [r0] at this; rw [this]; exact e
          rw [Nat.gcd_zero_right] at e2
          rw [B127_12, r0]
          simp (disch := omega) only [CMP, GA, GR, GRc, GO, GI, GL, GV, am_w_i, am_ga, am_it, am_if, true_and, and_true, or_true, true_or, ne_eq, not_false_eq_true, not_true_eq_false, false_imp_iff, true_imp_iff, Int.reduceEq, Int.reduceLT, Int.reduceLE, Int.reduceAdd, Int.reduceSub, Int.reduceMul, Int.reduceNeg]
          rw [e2]; exact fin _ _ _
        · have e3 : (y : Int).tmod ((x % y : Nat) : Int) = ((y % (x % y) : Nat) : Int) := by rw [tmod_nn (by omega)]; omega
          have hm := half_mod (x := x) (y := y) (k := k) hy (by omega) (by omega)
          have hr : ¬ ((x % y : Nat) : Int) = 0 := by omega
          rw [B127_12]
          simp (disch := omega) only [CMP, e3, hr, GA, GR, GRc, GO, GI, GL, GV, am_w_i, am_ga, am_it, am_if, true_and, and_true, or_true, true_or, ne_eq, not_false_eq_true, not_true_eq_false, false_imp_iff, true_imp_iff, Int.reduceEq, Int.reduceLT, Int.reduceLE, Int.reduceAdd, Int.reduceSub, Int.reduceMul, Int.reduceNeg]
          have := ih (x % y) (y % (x % y)) (i + 2) (some (vL ((y % (x % y) : Nat) : Int))) hm (by omega) (by rw [gcd_st, gcd_st]; exact e)
          have e4 : ((i + 2 : Nat) : Int) = (i : Int) + 1 + 1 := by omega
          rw [e4] at this
          exact this
  rw [S127]
  have ea : am_absl a = (a.natAbs : Int) := by rw [am_absl_i (by omega) (by omega), iabs_n]
  rw [ea]
  have := loop 40 b a.natAbs 0 none (by omega) (by omega) rfl
  simpa using this
theorem s252 {d : Nat} {h : am_H} {x y : Nat} (Q : Option am_V → am_H → Prop) : am_Sp d 252 [vL (x : Int), vL (y : Int)] h Q ↔ Q (some (vL (Nat.gcd x y : Int))) h := by
  refine am_det ?_ Q
  rw [S252]
  have loop : ∀ (n u v : Nat) (l8 : Option am_V), v ≤ n → Nat.gcd u v = Nat.gcd x y → am_WP d 252 6 [some (vL (x : Int)), none, some (vL (y : Int)), none, some (vL (u : Int)), none, some (vL (v : Int)), none, l8, none] [] h (fun r' h' => r' = some (vL (Nat.gcd x y : Int)) ∧ h' = h) := by
    intro n
    induction n with
    | zero =>
      intro u v l8 hv e
      obtain rfl : v = 0 := by omega
      rw [Nat.gcd_zero_right] at e
      rw [B252_6]
      simp (disch := omega) only [CMP, GA, GR, GRc, GO, GI, GL, GV, am_w_i, am_ga, am_it, am_if, true_and, and_true, or_true, true_or, ne_eq, not_false_eq_true, not_true_eq_false, false_imp_iff, true_imp_iff, Int.reduceEq, Int.reduceLT, Int.reduceLE, Int.reduceAdd, Int.reduceSub, Int.reduceMul, Int.reduceNeg]
      rw [e]
    | succ n ih =>
      intro u v l8 hv e
      by_cases v0 : v = 0
      · subst v0
        rw [Nat.gcd_zero_right] at e
        rw [B252_6]
        simp (disch := omega) only [CMP, GA, GR, GRc, GO, GI, GL, GV, am_w_i, am_ga, am_it, am_if, true_and, and_true, or_true, true_or, ne_eq, not_false_eq_true, not_true_eq_false, false_imp_iff, true_imp_iff, Int.reduceEq, Int.reduceLT, Int.reduceLE, Int.reduceAdd, Int.reduceSub, Int.reduceMul, Int.reduceNeg]
        rw [e]
      · have e1 : (u : Int).tmod (v : Int) = ((u % v : Nat) : Int) := by rw [tmod_nn (by omega)]; omega
        rw [B252_6]
        simp (disch := omega) only [CMP, e1, GA, GR, GRc, GO, GI, GL, GV, am_w_i, am_ga, am_it, am_if, true_and, and_true, or_true, true_or, ne_eq, not_false_eq_true, not_true_eq_false, false_imp_iff, true_imp_iff, Int.reduceEq, Int.reduceLT, Int.reduceLE, Int.reduceAdd, Int.reduceSub, Int.reduceMul, Int.reduceNeg]
        have := Nat.mod_lt u (show 0 < v by omega)
        exact ih v (u % v) _ (by omega) (by rw [gcd_st]; exact e)
  exact loop y x y none (Nat.le_refl _) rfl
theorem pow_b {o : Nat} (ho : o ≤ 100) : ∀ n : Nat, n ≤ 6 → o ^ n ≤ 1000000000000 := by
  intro n hn
  exact Nat.le_trans (Nat.pow_le_pow_left ho n) (Nat.le_trans (Nat.pow_le_pow_right (by omega) hn) (by decide))
theorem q_sure {V σ : (Nat → Int → Int)} {lw : (Int → (Int → Int) → Int)} {e n t : Int} : P2 (GC V lw σ) 126 253 [vI e, vI n, vI t] := by
  by_cases c : (0 ≤ e ∧ e < V 0 1) ∧ (0 ≤ n ∧ n ≤ 6) ∧ (0 ≤ t ∧ t ≤ 1)
  · obtain ⟨c1, c2, c3⟩ := c
    obtain ⟨m, hm⟩ : ∃ m : Nat, n = m := ⟨n.toNat, by omega⟩
    subst hm
    refine ⟨vL (px_lt (((V 9 e).toNat ^ m : Nat) : Int) (100 ^ m) t), fun w I L G d Q q => ?_, fun w I L G d Q q => ?_⟩
    · obtain ⟨⟨hw, hR, hL, hV, hM, hN⟩, rS, mS, wS, ny, ct⟩ := id G
      have h8 := hV.1.2.1
      have h9 := (hV.2.2.1 e c1.1 c1.2).2.2.2
      have b1 := pow_b (o := (V 9 e).toNat) (by omega)
      have b2 := pow_b (o := 100) (by omega)
      rw [S126]
      simp (disch := omega) only [KX, s94 hw hR, s96, c1, c2, c3, if_true, GA, GR, GRc, GO, GI, GL, GV, am_w_i, am_ga, am_it, am_if, true_and, and_true, or_true, true_or, ne_eq, not_false_eq_true, not_true_eq_false, false_imp_iff, true_imp_iff, Int.reduceEq, Int.reduceLT, Int.reduceLE, Int.reduceAdd, Int.reduceSub, Int.reduceMul, Int.reduceNeg]
      refine am_loop (α := Int × Int) m (fun i x => am_WP (d + 20) 126 40 [some (vR (some 0)), some (vI e), some (vI (m : Int)), some (vI t), some (vL x.1), none, some (vL x.2), none, some (vI (i : Int))] [] (mkH w I L) Q) (fun i x => x.1 = (((V 9 e).toNat ^ i : Nat) : Int) ∧ x.2 = ((100 ^ i : Nat) : Int)) ?_ ?_ 0 (1, 1) (Nat.zero_le _) ⟨rfl, rfl⟩
      · intro i ⟨x, y⟩ hi ⟨ex, ey⟩ ih
        dsimp only at ex ey ⊢
        have k1 := b1 (i + 1) (by omega)
        have k2 := b2 (i + 1) (by omega)
        have u1 : x * V 9 e = (((V 9 e).toNat ^ (i + 1) : Nat) : Int) := by rw [ex, Nat.pow_succ, Int.natCast_mul]; congr 1; omega
        have u2 : y * 100 = ((100 ^ (i + 1) : Nat) : Int) := by rw [ey, Nat.pow_succ, Int.natCast_mul]; rfl
        have z := ih (x * V 9 e, y * 100) ⟨u1, u2⟩
        generalize (100 ^ (i + 1) : Nat) = n2 at k2 u2
        generalize ((V 9 e).toNat ^ (i + 1) : Nat) = n1 at k1 u1
        rw [B126_40]
        simp (disch := omega) only [KX, HW hw, (hR.2.2.1 e c1.1 c1.2).2.2.2.2, am_wl_i, GA, GR, GRc, GO, GI, GL, GV, am_w_i, am_ga, am_it, am_if, true_and, and_true, or_true, true_or, ne_eq, not_false_eq_true, not_true_eq_false, false_imp_iff, true_imp_iff, Int.reduceEq, Int.reduceLT, Int.reduceLE, Int.reduceAdd, Int.reduceSub, Int.reduceMul, Int.reduceNeg]
        exact z
      · intro ⟨x, y⟩ ⟨ex, ey⟩
        dsimp only at ex ey ⊢
        subst ex; subst ey
        have k1 := b1 m (by omega)
        have k2 := b2 m (by omega)
        have hp : 0 < 100 ^ m := Nat.pow_pos (by omega)
        rw [B126_40]
        simp (disch := omega) only [s127 (b := 100 ^ m) (a := (((V 9 e).toNat ^ m : Nat) : Int)) ⟨hp, k2⟩ (by omega), GA, GR, GRc, GO, GI, GL, GV, am_w_i, am_ga, am_it, am_if, true_and, and_true, or_true, true_or, ne_eq, not_false_eq_true, not_true_eq_false, false_imp_iff, true_imp_iff, Int.reduceEq, Int.reduceLT, Int.reduceLE, Int.reduceAdd, Int.reduceSub, Int.reduceMul, Int.reduceNeg]
        exact q _ _ _ QR.rf
    · obtain ⟨⟨hw, hR, hL, hV, hM, hN⟩, rS, mS, wS, ny, ct⟩ := id G
      have h8 := hV.1.2.1
      have h9 := (hV.2.2.1 e c1.1 c1.2).2.2.2
      have b1 := pow_b (o := (V 9 e).toNat) (by omega)
      have b2 := pow_b (o := 100) (by omega)
      rw [S253]
      simp (disch := omega) only [Kk, B253_5, s200 hM.t, s153, c1, c2, c3, if_true, GA, GR, GRc, GO, GI, GL, GV, am_w_i, am_ga, am_it, am_if, true_and, and_true, or_true, true_or, ne_eq, not_false_eq_true, not_true_eq_false, false_imp_iff, true_imp_iff, Int.reduceEq, Int.reduceLT, Int.reduceLE, Int.reduceAdd, Int.reduceSub, Int.reduceMul, Int.reduceNeg]
      refine am_loop (α := Int × Int) m (fun i x => am_WP (d + 20) 253 45 [some (vR (some 99)), some (vI e), some (vI (m : Int)), some (vI t), some (vL x.1), none, some (vL x.2), none, some (vI (i : Int)), none] [] (mkH w (am_up I 99 2 0) L) Q) (fun i x => x.1 = (((V 9 e).toNat ^ i : Nat) : Int) ∧ x.2 = ((100 ^ i : Nat) : Int)) ?_ ?_ 0 (1, 1) (Nat.zero_le _) ⟨rfl, rfl⟩
      · intro i ⟨x, y⟩ hi ⟨ex, ey⟩ ih
        dsimp only at ex ey ⊢
        have k1 := b1 (i + 1) (by omega)
        have k2 := b2 (i + 1) (by omega)
        have u1 : x * V 9 e = (((V 9 e).toNat ^ (i + 1) : Nat) : Int) := by rw [ex, Nat.pow_succ, Int.natCast_mul]; congr 1; omega
        have u2 : y * 100 = ((100 ^ (i + 1) : Nat) : Int) := by rw [ey, Nat.pow_succ, Int.natCast_mul]; rfl
        have z := ih (x * V 9 e, y * 100) ⟨u1, u2⟩
        generalize (100 ^ (i + 1) : Nat) = n2 at k2 u2
        generalize ((V 9 e).toNat ^ (i + 1) : Nat) = n1 at k1 u1
        rw [B253_45]
        simp (disch := omega) only [Kk, Kw, am_up_a, (hM.2.2.1 e c1.1 c1.2).2.2.2.2, am_wl_i, GA, GR, GRc, GO, GI, GL, GV, am_w_i, am_ga, am_it, am_if, true_and, and_true, or_true, true_or, ne_eq, not_false_eq_true, not_true_eq_false, false_imp_iff, true_imp_iff, Int.reduceEq, Int.reduceLT, Int.reduceLE, Int.reduceAdd, Int.reduceSub, Int.reduceMul, Int.reduceNeg]
        exact z
      · intro ⟨x, y⟩ ⟨ex, ey⟩
        dsimp only at ex ey ⊢
        subst ex; subst ey
        have k1 := b1 m (by omega)
        have k2 := b2 m (by omega)
        have hp : 0 < 100 ^ m := Nat.pow_pos (by omega)
        have hg : 0 < Nat.gcd (100 ^ m) ((V 9 e).toNat ^ m) := Nat.gcd_pos_of_pos_left _ hp
        have t1 := tdiv_b (a := (((V 9 e).toNat ^ m : Nat) : Int)) (b := (Nat.gcd (100 ^ m) ((V 9 e).toNat ^ m) : Int)) (c := 1000000000000) (by omega)
        have t2 := tdiv_b (a := ((100 ^ m : Nat) : Int)) (b := (Nat.gcd (100 ^ m) ((V 9 e).toNat ^ m) : Int)) (c := 1000000000000) (by omega)
        have z := q _ _ (QR.t (v := 0))
        unfold px_lt at z
        rw [Int.natAbs_natCast] at z
        rw [B253_45]
        simp (disch := omega) only [s252, B253_103, am_wl_i, GA, GR, GRc, GO, GI, GL, GV, am_w_i, am_ga, am_it, am_if, true_and, and_true, or_true, true_or, ne_eq, not_false_eq_true, not_true_eq_false, false_imp_iff, true_imp_iff, Int.reduceEq, Int.reduceLT, Int.reduceLE, Int.reduceAdd, Int.reduceSub, Int.reduceMul, Int.reduceNeg]
        by_cases c4 : t = 0
        · rw [if_pos c4] at z; first | (simp (disch := omega) only [c4, GA, GR, GRc, GO, GI, GL, GV, am_w_i, am_ga, am_it, am_if, true_and, and_true, or_true, true_or, ne_eq, not_false_eq_true, not_true_eq_false, false_imp_iff, true_imp_iff, Int.reduceEq, Int.reduceLT, Int.reduceLE, Int.reduceAdd, Int.reduceSub, Int.reduceMul, Int.reduceNeg]; exact z) | simp (disch := omega) only [c4, z, GA, GR, GRc, GO, GI, GL, GV, am_w_i, am_ga, am_it, am_if, true_and, and_true, or_true, true_or, ne_eq, not_false_eq_true, not_true_eq_false, false_imp_iff, true_imp_iff, Int.reduceEq, Int.reduceLT, Int.reduceLE, Int.reduceAdd, Int.reduceSub, Int.reduceMul, Int.reduceNeg]
        · rw [if_neg c4] at z; first | (simp (disch := omega) only [c4, GA, GR, GRc, GO, GI, GL, GV, am_w_i, am_ga, am_it, am_if, true_and, and_true, or_true, true_or, ne_eq, not_false_eq_true, not_true_eq_false, false_imp_iff, true_imp_iff, Int.reduceEq, Int.reduceLT, Int.reduceLE, Int.reduceAdd, Int.reduceSub, Int.reduceMul, Int.reduceNeg]; exact z) | simp (disch := omega) only [c4, z, GA, GR, GRc, GO, GI, GL, GV, am_w_i, am_ga, am_it, am_if, true_and, and_true, or_true, true_or, ne_eq, not_false_eq_true, not_true_eq_false, false_imp_iff, true_imp_iff, Int.reduceEq, Int.reduceLT, Int.reduceLE, Int.reduceAdd, Int.reduceSub, Int.reduceMul, Int.reduceNeg]
  · refine ⟨vL (-1), fun w I L G d Q q => ?_, fun w I L G d Q q => ?_⟩
    · obtain ⟨⟨hw, hR, hL, hV, hM, hN⟩, rS, mS, wS, ny, ct⟩ := id G
      have z := q _ _ _ QR.rf
      rw [S126]
      by_cases c1 : 0 ≤ e ∧ e < V 0 1
      · by_cases c2 : 0 ≤ n ∧ n ≤ 6
        · have c3 : ¬ (0 ≤ t ∧ t ≤ 1) := fun h => c ⟨c1, c2, h⟩
          simp (disch := omega) only [KX, s94 hw hR, s96, c1, c2, c3, if_true, if_false, B126_27, z, GA, GR, GRc, GO, GI, GL, GV, am_w_i, am_ga, am_it, am_if, true_and, and_true, or_true, true_or, ne_eq, not_false_eq_true, not_true_eq_false, false_imp_iff, true_imp_iff, Int.reduceEq, Int.reduceLT, Int.reduceLE, Int.reduceAdd, Int.reduceSub, Int.reduceMul, Int.reduceNeg]
        · simp (disch := omega) only [KX, s94 hw hR, s96, c1, c2, if_true, if_false, B126_27, z, GA, GR, GRc, GO, GI, GL, GV, am_w_i, am_ga, am_it, am_if, true_and, and_true, or_true, true_or, ne_eq, not_false_eq_true, not_true_eq_false, false_imp_iff, true_imp_iff, Int.reduceEq, Int.reduceLT, Int.reduceLE, Int.reduceAdd, Int.reduceSub, Int.reduceMul, Int.reduceNeg]
      · simp (disch := omega) only [KX, s94 hw hR, c1, if_false, B126_27, z, GA, GR, GRc, GO, GI, GL, GV, am_w_i, am_ga, am_it, am_if, true_and, and_true, or_true, true_or, ne_eq, not_false_eq_true, not_true_eq_false, false_imp_iff, true_imp_iff, Int.reduceEq, Int.reduceLT, Int.reduceLE, Int.reduceAdd, Int.reduceSub, Int.reduceMul, Int.reduceNeg]
    · obtain ⟨⟨hw, hR, hL, hV, hM, hN⟩, rS, mS, wS, ny, ct⟩ := id G
      have z := q _ _ (QR.t (v := 0))
      rw [S253]
      by_cases c1 : 0 ≤ e ∧ e < V 0 1
      · by_cases c2 : 0 ≤ n ∧ n ≤ 6
        · have c3 : ¬ (0 ≤ t ∧ t ≤ 1) := fun h => c ⟨c1, c2, h⟩
          simp (disch := omega) only [Kk, B253_5, s200 hM.t, s153, c1, c2, c3, if_true, if_false, B253_32, z, GA, GR, GRc, GO, GI, GL, GV, am_w_i, am_ga, am_it, am_if, true_and, and_true, or_true, true_or, ne_eq, not_false_eq_true, not_true_eq_false, false_imp_iff, true_imp_iff, Int.reduceEq, Int.reduceLT, Int.reduceLE, Int.reduceAdd, Int.reduceSub, Int.reduceMul, Int.reduceNeg]
        · simp (disch := omega) only [Kk, B253_5, s200 hM.t, s153, c1, c2, if_true, if_false, B253_32, z, GA, GR, GRc, GO, GI, GL, GV, am_w_i, am_ga, am_it, am_if, true_and, and_true, or_true, true_or, ne_eq, not_false_eq_true, not_true_eq_false, false_imp_iff, true_imp_iff, Int.reduceEq, Int.reduceLT, Int.reduceLE, Int.reduceAdd, Int.reduceSub, Int.reduceMul, Int.reduceNeg]
      · simp (disch := omega) only [Kk, B253_5, s200 hM.t, c1, if_false, B253_32, z, GA, GR, GRc, GO, GI, GL, GV, am_w_i, am_ga, am_it, am_if, true_and, and_true, or_true, true_or, ne_eq, not_false_eq_true, not_true_eq_false, false_imp_iff, true_imp_iff, Int.reduceEq, Int.reduceLT, Int.reduceLE, Int.reduceAdd, Int.reduceSub, Int.reduceMul, Int.reduceNeg]
