/-! 53: rests, rest, law, happier, payers, healed -/
def px_gain (own other happy far : Int) : Int := if own = 0 then (if other = 0 then am_max 0 (10 - far) else -(far.tdiv 10)) else (if other = 0 then am_max 5 (happy.tdiv 5) else happy.tdiv 10)
theorem s125 {d : Nat} {h : am_H} {own other happy far : Int} (ho : own = 0 ∨ own = 1) (hh : -100000 ≤ happy ∧ happy ≤ 100000) (hf : 0 ≤ far ∧ far ≤ 100000) (Q : Option am_V → am_H → Prop) : am_Sp d 125 [vI own, vI other, vI happy, vI far] h Q ↔ Q (some (vI (px_gain own other happy far))) h := by
  have t1 := tdiv_b (b := 10) (a := far) (c := 100000) (by omega)
  have t2 := tdiv_b (b := 10) hh
  have t3 := tdiv_b (b := 5) hh
  unfold px_gain
  rcases ho with e | e
  · subst e
    simp (disch := omega) only [S125, B125_24, B125_43, reduceIte, am_iteI, ite_not, GA, GR, GRc, GO, GI, GL, GV, am_w_i, am_ga, am_it, am_if, true_and, and_true, or_true, true_or, ne_eq, not_false_eq_true, not_true_eq_false, false_imp_iff, true_imp_iff, Int.reduceEq, Int.reduceLT, Int.reduceLE, Int.reduceAdd, Int.reduceSub, Int.reduceMul, Int.reduceNeg]
  · subst e
    simp (disch := omega) only [S125, B125_24, B125_43, reduceIte, am_iteI, ite_not, Int.reduceEq, GA, GR, GRc, GO, GI, GL, GV, am_w_i, am_ga, am_it, am_if, true_and, and_true, or_true, true_or, ne_eq, not_false_eq_true, not_true_eq_false, false_imp_iff, true_imp_iff, Int.reduceEq, Int.reduceLT, Int.reduceLE, Int.reduceAdd, Int.reduceSub, Int.reduceMul, Int.reduceNeg]
def px_isr (σ : (Nat → Int → Int)) (n : Nat) (far a b : Int) : Prop := px_gain (1 - a) b (px_hap σ 0 n) far ≤ px_gain a b (px_hap σ 0 n) far ∧ px_gain (1 - b) a (px_hap σ 1 n) far ≤ px_gain b a (px_hap σ 1 n) far
theorem px_dist_b {V σ : (Nat → Int → Int)} {lw : (Int → (Int → Int) → Int)} {F : Int → Int} {D : Int} {n : Nat} (hW : WS D σ) (hn : n ≤ 6) : 0 ≤ px_dist V lw F σ n ∧ px_dist V lw F σ n ≤ n * 9999 := by
  induction n with
  | zero => exact ⟨by simp [px_dist, px_sum], by simp [px_dist, px_sum]⟩
  | succ i ih =>
    have a := ih (by omega)
    have b := px_gap_b (k := i) hW.1 (by omega) (by omega)
    have c := px_lim_b (v := lw 0 (px_nm V F σ i 0)) (most := 9999) (wo := px_gap σ i) (by omega) (by omega)
    have e : px_dist V lw F σ (i + 1) = px_dist V lw F σ i + px_lim (lw 0 (px_nm V F σ i 0)) 9999 (px_gap σ i) := rfl
    rw [e]; omega
theorem s124 {d : Nat} {w : Nat × Nat × Nat × Nat} {I L : Nat → Int → Int} {V σ : (Nat → Int → Int)} {lw : (Int → (Int → Int) → Int)} {a b far : Int} (G : GC V lw σ w I L) (ha : a = 0 ∨ a = 1) (hb : b = 0 ∨ b = 1) (hf : 0 ≤ far ∧ far ≤ 100000) (Q : Option am_V → am_H → Prop) : am_Sp (d + 3) 124 [vR (some 0), vI a, vI b, vI far] (mkH w I L) Q ↔ ((px_isr σ (V 0 0).toNat far a b → Q (some (vI 1)) (mkH w I L)) ∧ (¬ px_isr σ (V 0 0).toNat far a b → Q (some (vI 0)) (mkH w I L))) := by
  obtain ⟨⟨hw, hR, hL, hV, hM, hN⟩, rS, mS, wS, ny, ct⟩ := id G
  have h6 := hV.1.1
  have g1 : I w.1 0 = ((V 0 0).toNat : Int) := by have : I w.1 0 = V 0 0 := hR.1.1; omega
  have b0 := px_hap_b (t := 0) (n := (V 0 0).toNat) wS (by omega) (by omega)
  have b1 := px_hap_b (t := 1) (n := (V 0 0).toNat) wS (by omega) (by omega)
  have a' : 1 - a = 0 ∨ 1 - a = 1 := by omega
  have b' : 1 - b = 0 ∨ 1 - b = 1 := by omega
  unfold px_isr
  rw [S124]
  simp (disch := omega) only [KX, HW hw, HS (show isS 51 from Or.inl rfl), g1, s64 (s := 51) (n := (V 0 0).toNat) (t := 0) (Or.inl rfl) (by omega) (by omega) (rS.bA wS.1), s64 (s := 51) (n := (V 0 0).toNat) (t := 1) (Or.inl rfl) (by omega) (by omega) (rS.bA wS.1), rS.hap (n := (V 0 0).toNat) (t := 0) (by omega) (by omega), rS.hap (n := (V 0 0).toNat) (t := 1) (by omega) (by omega), s125 ha, s125 a', s125 hb, s125 b', B124_80, B124_81, GA, GR, GRc, GO, GI, GL, GV, am_w_i, am_ga, am_it, am_if, true_and, and_true, or_true, true_or, ne_eq, not_false_eq_true, not_true_eq_false, false_imp_iff, true_imp_iff, Int.reduceEq, Int.reduceLT, Int.reduceLE, Int.reduceAdd, Int.reduceSub, Int.reduceMul, Int.reduceNeg]
  generalize px_gain a b (px_hap σ 0 (V 0 0).toNat) far = x1
  generalize px_gain (1 - a) b (px_hap σ 0 (V 0 0).toNat) far = x2
  generalize px_gain b a (px_hap σ 1 (V 0 0).toNat) far = x3
  generalize px_gain (1 - b) a (px_hap σ 1 (V 0 0).toNat) far = x4
  by_cases c1 : x2 ≤ x1
  · by_cases c2 : x4 ≤ x3
    · have d1 : ¬ x1 < x2 := by omega
      have d2 : ¬ x3 < x4 := by omega
      simp [c1, c2, d1, d2]
    · have d1 : ¬ x1 < x2 := by omega
      have d2 : x3 < x4 := by omega
      simp [c1, c2, d1, d2]
  · have d1 : x1 < x2 := by omega
    simp [c1, d1]
