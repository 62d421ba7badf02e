/-! 67: undo, keep, back -/
def uSt (v : Nat) (σ I : (Nat → Int → Int)) : (Nat → Int → Int) := fun a j => if a = 1 then I 136 (14 * (v : Int) + j) else if a = 2 then (if j = 0 then I 136 (14 * (v : Int) + 12) else I 136 (14 * (v : Int) + 13)) else σ a j
theorem uSt_1 {v : Nat} {σ I : (Nat → Int → Int)} {j : Int} : uSt v σ I 1 j = I 136 (14 * (v : Int) + j) := rfl
theorem uSt_o {v : Nat} {σ I : (Nat → Int → Int)} {a : Nat} (h1 : a ≠ 1) (h2 : a ≠ 2) : uSt v σ I a = σ a := by unfold uSt; funext j; rw [if_neg h1, if_neg h2]
theorem GL0.pop {V σ I I' : (Nat → Int → Int)} {v : Nat} (h : GL0 V (v + 1) σ I) (h1 : I' 90 0 = v) (h2 : I' 99 74 = v) (h3 : I' 91 = I 91) (h4 : I' 136 = I 136) : GL0 V v (uSt v σ I) I' := by
  obtain ⟨a, -, -, b⟩ := h
  refine ⟨by omega, h1, h2, fun i hi => ?_⟩
  have o := b i (by omega)
  rw [h3, h4]
  refine ⟨o.1, fun j j0 j1 => ?_, o.2.2⟩
  have nx : uNx v (uSt v σ I) I' i j = uNx (v + 1) σ I i j := by
    unfold uNx
    rw [if_pos (show i + 1 < v + 1 by omega), h4]
    by_cases e : i + 1 < v
    · rw [if_pos e]
    · rw [if_neg e, uSt_1]
      rw [show (v : Int) = (i : Int) + 1 by omega]
  rw [nx]; exact o.2.1 j j0 j1
theorem s20 {d : Nat} {w : Nat × Nat × Nat × Nat} {I L : Nat → Int → Int} {v : Nat} {k : Int} (hu : I 90 0 = (v : Int) + 1) (hv : v < 20) (hk : I 91 (5 * (v : Int)) = k) (hk6 : -1 ≤ k ∧ k < 6) {Q : Option am_V → am_H → Prop} (q : ∀ I', I' 90 0 = (v : Int) → (∀ j, I' 52 j = if 0 ≤ k ∧ j = 2 * k then I 91 (5 * (v : Int) + 1) else if 0 ≤ k ∧ j = 2 * k + 1 then I 91 (5 * (v : Int) + 2) else I 52 j) → I' 53 0 = I 91 (5 * (v : Int) + 3) → I' 53 1 = I 91 (5 * (v : Int) + 4) → Fr (fun a => a = 52 ∨ a = 53 ∨ a = 90) I I' → Q none (mkH w I' L)) : am_Sp (d + 1) 20 [vR (some 90), vR (some 51)] (mkH w I L) Q := by
  have fin : ∀ J, J 91 = I 91 → (∀ j, J 52 j = if 0 ≤ k ∧ j = 2 * k then I 91 (5 * (v : Int) + 1) else if 0 ≤ k ∧ j = 2 * k + 1 then I 91 (5 * (v : Int) + 2) else I 52 j) → J 90 0 = (v : Int) → Fr (fun a => a = 52 ∨ a = 53 ∨ a = 90) I J → am_WP (d + 1) 20 64 [some (vR (some 90)), some (vR (some 51)), some (vI (5 * (v : Int))), some (vI k)] [] (mkH w J L) Q := by
    intro J j1 j2 j3 j4
    have z := q (am_up (am_up J (51 + 2) 0 (J 91 (5 * (v : Int) + 3))) (51 + 2) 1 (J 91 (5 * (v : Int) + 4))) (by simp (disch := decide) only [am_up_a]; exact j3) (fun j => by simp (disch := decide) only [am_up_a]; exact j2 j) (by rw [am_up_n _ _ _ _ (by decide), am_up_s, j1]) (by rw [am_up_s, j1]) ((j4.up (Or.inr (Or.inl rfl))).up (Or.inr (Or.inl rfl)))
    rw [B20_64]
    simp (disch := omega) only [KG, HS (show isS 51 from Or.inl rfl), B20_78, am_up_a, GA, GR, GRc, GO, GI, GL, GV, am_w_i, am_ga, am_it, am_if, true_and, and_true, or_true, true_or, ne_eq, not_false_eq_true, not_true_eq_false, false_imp_iff, true_imp_iff, Int.reduceEq, Int.reduceLT, Int.reduceLE, Int.reduceAdd, Int.reduceSub, Int.reduceMul, Int.reduceNeg]
    exact z
  rw [S20]
  have e1 : (v : Int) + 1 - 1 = v := by omega
  have e2 : (0 : Int) < (v : Int) + 1 := by omega
  simp (disch := omega) only [KG, hu, e1, e2, B20_18, am_up_s, am_up_a, am_x5, hk, GA, GR, GRc, GO, GI, GL, GV, am_w_i, am_ga, am_it, am_if, true_and, and_true, or_true, true_or, ne_eq, not_false_eq_true, not_true_eq_false, false_imp_iff, true_imp_iff, Int.reduceEq, Int.reduceLT, Int.reduceLE, Int.reduceAdd, Int.reduceSub, Int.reduceMul, Int.reduceNeg]
  by_cases c : k < 0
  · have z := fin (am_up I 90 0 v) (am_up_a _ _ _ _ (by decide)) (fun j => by rw [if_neg (by omega), if_neg (by omega), am_up_a _ _ _ _ (by decide)]) (am_up_s _ _ _ _) (Fr.rf.up (Or.inr (Or.inr rfl)))
    first | (simp (disch := omega) only [c, GA, GR, GRc, GO, GI, GL, GV, am_w_i, am_ga, am_it, am_if, true_and, and_true, or_true, true_or, ne_eq, not_false_eq_true, not_true_eq_false, false_imp_iff, true_imp_iff, Int.reduceEq, Int.reduceLT, Int.reduceLE, Int.reduceAdd, Int.reduceSub, Int.reduceMul, Int.reduceNeg]; exact z) | simp (disch := omega) only [c, z, GA, GR, GRc, GO, GI, GL, GV, am_w_i, am_ga, am_it, am_if, true_and, and_true, or_true, true_or, ne_eq, not_false_eq_true, not_true_eq_false, false_imp_iff, true_imp_iff, Int.reduceEq, Int.reduceLT, Int.reduceLE, Int.reduceAdd, Int.reduceSub, Int.reduceMul, Int.reduceNeg]
  · have z := fin (am_up (am_up (am_up I 90 0 v) (51 + 1) (2 * k) (I 91 (5 * (v : Int) + 1))) (51 + 1) (2 * k + 1) (I 91 (5 * (v : Int) + 2))) (by simp (disch := decide) only [am_up_a]) (fun j => ?_) (by simp (disch := decide) only [am_up_a]; exact am_up_s _ _ _ _) (((Fr.rf.up (Or.inr (Or.inr rfl))).up (Or.inl rfl)).up (Or.inl rfl))
    · simp (disch := omega) only [c, KG, HS (show isS 51 from Or.inl rfl), s60 (s := 51) (Or.inl rfl) (k := k) (t := 0) (by omega) (by omega), s60 (s := 51) (Or.inl rfl) (k := k) (t := 1) (by omega) (by omega), am_up_a, Int.add_zero, GA, GR, GRc, GO, GI, GL, GV, am_w_i, am_ga, am_it, am_if, true_and, and_true, or_true, true_or, ne_eq, not_false_eq_true, not_true_eq_false, false_imp_iff, true_imp_iff, Int.reduceEq, Int.reduceLT, Int.reduceLE, Int.reduceAdd, Int.reduceSub, Int.reduceMul, Int.reduceNeg]
      exact z
    · by_cases ej : j = 2 * k + 1
      · subst ej; rw [am_up_s, if_neg (by omega), if_pos (by omega)]
      · rw [am_up_n _ _ _ _ ej]
        by_cases ej2 : j = 2 * k
        · subst ej2; rw [am_up_s, if_pos (by omega)]
        · rw [am_up_n _ _ _ _ ej2, if_neg (by omega), if_neg (by omega), am_up_a _ _ _ _ (by decide)]
theorem s274 {d : Nat} {w : Nat × Nat × Nat × Nat} {I L : Nat → Int → Int} {a ln : Nat} {b : Int} (ha : a ≠ 127 ∧ a ≠ 128) (hk : ∀ J, am_kd (mkH w J L) a = 13) (hl : ∀ J, am_ln (mkH w J L) a = ln) (hb : 0 ≤ b) (hn : b + 14 ≤ ln) (h4 : ln ≤ 4096) {Q : Option am_V → am_H → Prop} (q : ∀ I', (∀ j, 0 ≤ j → j < 12 → I' 127 j = I a (b + j)) → I' 128 0 = I a (b + 12) → I' 128 1 = I a (b + 13) → Fr (fun x => x = 127 ∨ x = 128) I I' → Q none (mkH w I' L)) : am_Sp d 274 [vR (some 99), vR (some a), vI b] (mkH w I L) Q := by
  rw [S274]
  refine am_loop (α := (Nat → Int → Int)) 12 (fun i J => am_WP d 274 2 [some (vR (some 99)), some (vR (some a)), some (vI b), some (vI (i : Int))] [] (mkH w J L) Q) (fun i J => (∀ j, 0 ≤ j → j < (i : Int) → J 127 j = I a (b + j)) ∧ Fr (fun x => x = 127 ∨ x = 128) I J) ?_ ?_ 0 I (Nat.zero_le _) ⟨fun j h1 h2 => by omega, Fr.rf⟩
  · intro i J hi ⟨j1, j3⟩ ih
    have e : J a = I a := j3 a (by omega)
    rw [B274_2]
    simp (disch := omega) only [Kk, Ks, hk, hl, e, B274_19, GA, GR, GRc, GO, GI, GL, GV, am_w_i, am_ga, am_it, am_if, true_and, and_true, or_true, true_or, ne_eq, not_false_eq_true, not_true_eq_false, false_imp_iff, true_imp_iff, Int.reduceEq, Int.reduceLT, Int.reduceLE, Int.reduceAdd, Int.reduceSub, Int.reduceMul, Int.reduceNeg]
    refine ih _ ⟨fun j h1 h2 => ?_, j3.up (Or.inl rfl)⟩
    by_cases ej : j = i
    · subst ej; rw [am_up_s]
    · rw [am_up_n _ _ _ _ (by omega)]; exact j1 j h1 (by omega)
  · intro J ⟨j1, j3⟩
    have e : J a = I a := j3 a (by omega)
    have e2 : am_up J 128 0 (I a (b + 12)) a = I a := by rw [am_up_a _ _ _ _ ha.2]; exact e
    rw [B274_2]
    simp (disch := omega) only [Kk, Ks, hk, hl, e, B274_37, e2, GA, GR, GRc, GO, GI, GL, GV, am_w_i, am_ga, am_it, am_if, true_and, and_true, or_true, true_or, ne_eq, not_false_eq_true, not_true_eq_false, false_imp_iff, true_imp_iff, Int.reduceEq, Int.reduceLT, Int.reduceLE, Int.reduceAdd, Int.reduceSub, Int.reduceMul, Int.reduceNeg]
    refine q _ (fun j h1 h2 => ?_) ?_ ?_ ((j3.up (Or.inr rfl)).up (Or.inr rfl))
    · simp (disch := decide) only [am_up_a]; exact j1 j h1 h2
    · rw [am_up_n _ _ _ _ (by decide), am_up_s]
    · rw [am_up_s]
