/-! 40: the reference: a law's value -/
def bi (e : Bool) : Int := if e = true then 1 else 0
theorem am_up_id (I : (Nat → Int → Int)) (a : Nat) (i : Int) : am_up I a i (I a i) = I := by funext b j; unfold am_up; split <;> simp_all
theorem am_up_e {I : (Nat → Int → Int)} {a : Nat} {i v : Int} (h : I a i = v) : am_up I a i v = I := by rw [← h, am_up_id]
def px_bd (e : Bool) (v : Int) : Bool := e || decide (lT < v ∨ v < -lT)
theorem s191 {d : Nat} {w : Nat × Nat × Nat × Nat} {I L : Nat → Int → Int} {e : Bool} {v : Int} (he : I 99 53 = bi e) (Q : Option am_V → am_H → Prop) : am_Sp d 191 [vR (some 99), vL v] (mkH w I L) Q ↔ Q (some (vL (if px_bd e v = true then 0 else v))) (mkH w (am_up I 99 53 (bi (px_bd e v))) L) := by
  unfold px_bd bi at *
  rw [S191]
  cases e
  · by_cases c1 : lT < v
    · unfold lT at *
      simp (disch := omega) only [Kk, B191_24, B191_29, B191_32, B191_44, CMP, am_up_s, he, c1, GA, GR, GRc, GO, GI, GL, GV, am_w_i, am_ga, am_it, am_if, true_and, and_true, or_true, true_or, ne_eq, not_false_eq_true, not_true_eq_false, false_imp_iff, true_imp_iff, Int.reduceEq, Int.reduceLT, Int.reduceLE, Int.reduceAdd, Int.reduceSub, Int.reduceMul, Int.reduceNeg]
      simp [c1]
    · by_cases c2 : v < -lT
      · unfold lT at *
        simp (disch := omega) only [Kk, B191_24, B191_29, B191_32, B191_44, CMP, am_up_s, he, GA, GR, GRc, GO, GI, GL, GV, am_w_i, am_ga, am_it, am_if, true_and, and_true, or_true, true_or, ne_eq, not_false_eq_true, not_true_eq_false, false_imp_iff, true_imp_iff, Int.reduceEq, Int.reduceLT, Int.reduceLE, Int.reduceAdd, Int.reduceSub, Int.reduceMul, Int.reduceNeg]
        simp [c1, c2]
      · unfold lT at *
        simp (disch := omega) only [Kk, B191_24, B191_29, B191_32, B191_44, CMP, am_up_s, he, GA, GR, GRc, GO, GI, GL, GV, am_w_i, am_ga, am_it, am_if, true_and, and_true, or_true, true_or, ne_eq, not_false_eq_true, not_true_eq_false, false_imp_iff, true_imp_iff, Int.reduceEq, Int.reduceLT, Int.reduceLE, Int.reduceAdd, Int.reduceSub, Int.reduceMul, Int.reduceNeg]
        simp [c1, c2]
  · unfold lT at *
    simp (disch := omega) only [Kk, B191_24, B191_29, B191_32, B191_44, CMP, am_up_s, he, GA, GR, GRc, GO, GI, GL, GV, am_w_i, am_ga, am_it, am_if, true_and, and_true, or_true, true_or, ne_eq, not_false_eq_true, not_true_eq_false, false_imp_iff, true_imp_iff, Int.reduceEq, Int.reduceLT, Int.reduceLE, Int.reduceAdd, Int.reduceSub, Int.reduceMul, Int.reduceNeg]
    simp
def px_cmp (k a b : Int) : Int := if k = 5 then (if b ≤ a then 0 else 1) else if k = 6 then (if b < a then 0 else 1) else if k = 7 then (if a = b then 1 else 0) else if k = 8 then (if a = b then 0 else 1) else if k = 9 then (if a < b then 0 else 1) else (if a ≤ b then 0 else 1)
theorem px_cmp_01 (k a b : Int) : px_cmp k a b = 0 ∨ px_cmp k a b = 1 := by
  unfold px_cmp
  repeat' split
  all_goals simp
theorem s192 {d : Nat} {h : am_H} {k a b : Int} (Q : Option am_V → am_H → Prop) : am_Sp d 192 [vI k, vL a, vL b] h Q ↔ Q (some (vI (px_cmp k a b))) h := by
  unfold px_cmp
  simp (disch := omega) only [S192, B192_47, B192_59, B192_71, B192_83, B192_95, B192_107, CMP, am_iteI, ite_not, GA, GR, GRc, GO, GI, GL, GV, am_w_i, am_ga, am_it, am_if, true_and, and_true, or_true, true_or, ne_eq, not_false_eq_true, not_true_eq_false, false_imp_iff, true_imp_iff, Int.reduceEq, Int.reduceLT, Int.reduceLE, Int.reduceAdd, Int.reduceSub, Int.reduceMul, Int.reduceNeg]
def px_much (a b : Int) : Bool := decide (a ≠ 0 ∧ b ≠ 0 ∧ lT / iabs a < iabs b)
theorem s193 {d : Nat} {w : Nat × Nat × Nat × Nat} {I L : Nat → Int → Int} {e : Bool} {a b : Int} (ha : -lT ≤ a ∧ a ≤ lT) (hb : -lT ≤ b ∧ b ≤ lT) (he : I 99 53 = bi e) (Q : Option am_V → am_H → Prop) : am_Sp d 193 [vR (some 99), vL a, vL b] (mkH w I L) Q ↔ Q (some (vL (if (e || px_much a b) = true then 0 else a * b))) (mkH w (am_up I 99 53 (bi (e || px_much a b))) L) := by
  have end0 : ∀ z : Int, (z = 0 ∨ z = 1) → (px_much a b = decide (z = 1)) → (am_WP d 193 49 [some (vR (some 99)), some (vL a), none, some (vL b), none, none] [vI z] (mkH w I L) Q ↔ Q (some (vL (if (e || px_much a b) = true then 0 else a * b))) (mkH w (am_up I 99 53 (bi (e || px_much a b))) L)) := by
    intro z hz hm
    have hov : px_much a b = false → am_wl (a * b) = a * b := by
      intro hf
      have : -lT ≤ a * b ∧ a * b ≤ lT := by
        by_cases a0 : a = 0
        · subst a0; unfold lT; simp
        · by_cases b0 : b = 0
          · subst b0; unfold lT; simp
          · refine px_mul_b ?_
            unfold px_much at hf
            have := of_decide_eq_false hf
            exact Int.not_lt.mp (fun q => this ⟨a0, b0, q⟩)
      unfold lT at this
      exact am_wl_i (by omega) (by omega)
    rw [B193_49]
    cases e
    · rcases hz with rfl | rfl
      · have hf : px_much a b = false := by rw [hm]; decide
        unfold bi at he
        simp (disch := omega) only [Kk, B193_64, B193_69, B193_72, B193_86, am_up_s, he, hov hf, hf, GA, GR, GRc, GO, GI, GL, GV, am_w_i, am_ga, am_it, am_if, true_and, and_true, or_true, true_or, ne_eq, not_false_eq_true, not_true_eq_false, false_imp_iff, true_imp_iff, Int.reduceEq, Int.reduceLT, Int.reduceLE, Int.reduceAdd, Int.reduceSub, Int.reduceMul, Int.reduceNeg]
        simp [bi]
      · have hf : px_much a b = true := by rw [hm]; decide
        unfold bi at he
        simp (disch := omega) only [Kk, B193_64, B193_69, B193_72, B193_86, am_up_s, he, hf, GA, GR, GRc, GO, GI, GL, GV, am_w_i, am_ga, am_it, am_if, true_and, and_true, or_true, true_or, ne_eq, not_false_eq_true, not_true_eq_false, false_imp_iff, true_imp_iff, Int.reduceEq, Int.reduceLT, Int.reduceLE, Int.reduceAdd, Int.reduceSub, Int.reduceMul, Int.reduceNeg]
        simp [bi]
    · unfold bi at he
      simp (disch := omega) only [Kk, B193_64, B193_69, B193_72, B193_86, am_up_s, he, GA, GR, GRc, GO, GI, GL, GV, am_w_i, am_ga, am_it, am_if, true_and, and_true, or_true, true_or, ne_eq, not_false_eq_true, not_true_eq_false, false_imp_iff, true_imp_iff, Int.reduceEq, Int.reduceLT, Int.reduceLE, Int.reduceAdd, Int.reduceSub, Int.reduceMul, Int.reduceNeg]
      simp [bi]
  have e0 := end0 0 (Or.inl rfl)
  have e1 := end0 1 (Or.inr rfl)
  rw [S193]
  by_cases a0 : a = 0
  · have hm : px_much a b = decide ((0 : Int) = 1) := by unfold px_much; simp [a0]
    simp (disch := omega) only [CMP, a0, B193_48, GA, GR, GRc, GO, GI, GL, GV, am_w_i, am_ga, am_it, am_if, true_and, and_true, or_true, true_or, ne_eq, not_false_eq_true, not_true_eq_false, false_imp_iff, true_imp_iff, Int.reduceEq, Int.reduceLT, Int.reduceLE, Int.reduceAdd, Int.reduceSub, Int.reduceMul, Int.reduceNeg]
    rw [a0] at e0 hm
    exact e0 hm
  · by_cases b0 : b = 0
    · have hm : px_much a b = decide ((0 : Int) = 1) := by unfold px_much; simp [b0]
      simp (disch := omega) only [CMP, a0, b0, B193_48, GA, GR, GRc, GO, GI, GL, GV, am_w_i, am_ga, am_it, am_if, true_and, and_true, or_true, true_or, ne_eq, not_false_eq_true, not_true_eq_false, false_imp_iff, true_imp_iff, Int.reduceEq, Int.reduceLT, Int.reduceLE, Int.reduceAdd, Int.reduceSub, Int.reduceMul, Int.reduceNeg]
      rw [b0] at e0 hm
      exact e0 hm
    · unfold lT at ha hb
      have pa : 0 < iabs a := by unfold iabs; split <;> omega
      have e3 : (1000000000000 : Int).tdiv (iabs a) = 1000000000000 / iabs a := Int.tdiv_eq_ediv_of_nonneg (by omega)
      have hq : 0 ≤ 1000000000000 / iabs a ∧ 1000000000000 / iabs a ≤ 1000000000000 := ⟨Int.ediv_nonneg (by omega) (by omega), Int.ediv_le_self _ (by omega)⟩
      have e4 : am_wl (1000000000000 / iabs a) = 1000000000000 / iabs a := am_wl_i (by omega) (by omega)
      have h39 : am_WP d 193 39 [some (vR (some 99)), some (vL a), none, some (vL b), none, none] [vL (iabs a), vL 1000000000000, vL (iabs b)] (mkH w I L) Q ↔ Q (some (vL (if (e || px_much a b) = true then 0 else a * b))) (mkH w (am_up I 99 53 (bi (e || px_much a b))) L) := by
        rw [B193_39]
        simp (disch := omega) only [CMP, e3, e4, B193_48, GA, GR, GRc, GO, GI, GL, GV, am_w_i, am_ga, am_it, am_if, true_and, and_true, or_true, true_or, ne_eq, not_false_eq_true, not_true_eq_false, false_imp_iff, true_imp_iff, Int.reduceEq, Int.reduceLT, Int.reduceLE, Int.reduceAdd, Int.reduceSub, Int.reduceMul, Int.reduceNeg]
        by_cases c : iabs b ≤ 1000000000000 / iabs a
        · have hm : px_much a b = decide ((0 : Int) = 1) := by unfold px_much lT; simp; intro _ _; exact c
          simp only [c, true_imp_iff, not_true_eq_false, false_imp_iff, and_true]
          exact e0 hm
        · have hm : px_much a b = decide ((1 : Int) = 1) := by unfold px_much lT; simp; exact ⟨a0, b0, by omega⟩
          simp only [c, true_imp_iff, not_false_eq_true, false_imp_iff, true_and]
          exact e1 hm
      have h24 : am_WP d 193 24 [some (vR (some 99)), some (vL a), none, some (vL b), none, none] [vL (iabs b)] (mkH w I L) Q ↔ Q (some (vL (if (e || px_much a b) = true then 0 else a * b))) (mkH w (am_up I 99 53 (bi (e || px_much a b))) L) := by
        rw [B193_24]
        by_cases c : 0 ≤ a
        · have : iabs a = a := by unfold iabs; rw [if_neg (by omega)]
          rw [this] at h39
          simp (disch := omega) only [CMP, GA, GR, GRc, GO, GI, GL, GV, am_w_i, am_ga, am_it, am_if, true_and, and_true, or_true, true_or, ne_eq, not_false_eq_true, not_true_eq_false, false_imp_iff, true_imp_iff, Int.reduceEq, Int.reduceLT, Int.reduceLE, Int.reduceAdd, Int.reduceSub, Int.reduceMul, Int.reduceNeg]
          exact h39
        · have : iabs a = -a := by unfold iabs; rw [if_pos (by omega)]
          rw [this] at h39
          simp (disch := omega) only [CMP, am_wl_i, GA, GR, GRc, GO, GI, GL, GV, am_w_i, am_ga, am_it, am_if, true_and, and_true, or_true, true_or, ne_eq, not_false_eq_true, not_true_eq_false, false_imp_iff, true_imp_iff, Int.reduceEq, Int.reduceLT, Int.reduceLE, Int.reduceAdd, Int.reduceSub, Int.reduceMul, Int.reduceNeg]
          exact h39
      by_cases c : 0 ≤ b
      · have : iabs b = b := by unfold iabs; rw [if_neg (by omega)]
        rw [this] at h24
        simp (disch := omega) only [CMP, a0, b0, GA, GR, GRc, GO, GI, GL, GV, am_w_i, am_ga, am_it, am_if, true_and, and_true, or_true, true_or, ne_eq, not_false_eq_true, not_true_eq_false, false_imp_iff, true_imp_iff, Int.reduceEq, Int.reduceLT, Int.reduceLE, Int.reduceAdd, Int.reduceSub, Int.reduceMul, Int.reduceNeg]
        exact h24
      · have : iabs b = -b := by unfold iabs; rw [if_pos (by omega)]
        rw [this] at h24
        simp (disch := omega) only [CMP, am_wl_i, a0, b0, GA, GR, GRc, GO, GI, GL, GV, am_w_i, am_ga, am_it, am_if, true_and, and_true, or_true, true_or, ne_eq, not_false_eq_true, not_true_eq_false, false_imp_iff, true_imp_iff, Int.reduceEq, Int.reduceLT, Int.reduceLE, Int.reduceAdd, Int.reduceSub, Int.reduceMul, Int.reduceNeg]
        exact h24
def px_mk (k a b : Int) (e : Bool) : Bool × Int := if k = 3 then (e, if a = 0 then 0 else if b = 0 then 0 else 1) else if k = 4 then (e, if a = 0 then (if b = 0 then 0 else 1) else 1)
  else if k = 11 then (px_bd e (a + b), if px_bd e (a + b) = true then 0 else a + b) else if k = 12 then (px_bd e (a - b), if px_bd e (a - b) = true then 0 else a - b)
  else if k = 13 then (e || px_much a b, if (e || px_much a b) = true then 0 else a * b) else if k = 14 then (e || decide (b = 0), if (e || decide (b = 0)) = true then 0 else a.tdiv b)
  else (e, px_cmp k a b)
def px_mo (k p o : Int) (nm : Int → Int) (x : Bool × (Int → Int)) : Bool × Int := if k = 0 then (x.1, p) else if k = 1 then (x.1, nm p) else if k = 2 then (x.1, if x.2 p = 0 then 1 else 0) else px_mk k (x.2 p) (x.2 o) x.1
def px_okk (k p o a i : Int) : Prop := (0 ≤ k ∧ k ≤ 14) ∧ (k = 0 → 0 ≤ p ∧ p ≤ 9999) ∧ (k = 1 → 0 ≤ p ∧ p < 7) ∧ (2 ≤ k → a ≤ p ∧ p < i) ∧ (3 ≤ k → a ≤ o ∧ o < i)
set_option maxHeartbeats 2000000 in
theorem s194 {d : Nat} {w : Nat × Nat × Nat × Nat} {I L : Nat → Int → Int} {x : Bool × (Int → Int)} {nm : Int → Int} {a i : Int} (ha : 0 ≤ a) (hi : 0 ≤ i ∧ i < 64) (hk : px_okk (I 120 i) (I 121 i) (I 122 i) a i) (hx : ∀ j, a ≤ j → j < i → L 126 j = x.2 j ∧ -lT ≤ x.2 j ∧ x.2 j ≤ lT) (hn : ∀ j, 0 ≤ j → j < 7 → L 125 j = nm j) (he : I 99 53 = bi x.1) (Q : Option am_V → am_H → Prop) : am_Sp (d + 2) 194 [vR (some 99), vI i] (mkH w I L) Q ↔ Q (some (vL (px_mo (I 120 i) (I 121 i) (I 122 i) nm x).2)) (mkH w (am_up I 99 53 (bi (px_mo (I 120 i) (I 121 i) (I 122 i) nm x).1)) L) := by
  obtain ⟨k1, k2, k3, k4, k5⟩ := hk
  have same := am_up_e he
  rw [S194]
  by_cases c0 : I 120 i = 0
  · simp (disch := omega) only [Kk, Kl, Kv, c0, GA, GR, GRc, GO, GI, GL, GV, am_w_i, am_ga, am_it, am_if, true_and, and_true, or_true, true_or, ne_eq, not_false_eq_true, not_true_eq_false, false_imp_iff, true_imp_iff, Int.reduceEq, Int.reduceLT, Int.reduceLE, Int.reduceAdd, Int.reduceSub, Int.reduceMul, Int.reduceNeg]
    simp only [px_mo, same, if_true]
  · by_cases c1 : I 120 i = 1
    · have := k3 c1
      simp (disch := omega) only [Kk, Kl, Kv, c1, hn, GA, GR, GRc, GO, GI, GL, GV, am_w_i, am_ga, am_it, am_if, true_and, and_true, or_true, true_or, ne_eq, not_false_eq_true, not_true_eq_false, false_imp_iff, true_imp_iff, Int.reduceEq, Int.reduceLT, Int.reduceLE, Int.reduceAdd, Int.reduceSub, Int.reduceMul, Int.reduceNeg]
      simp [px_mo, same]
    · have p4 := k4 (by omega)
      have v4 := hx _ p4.1 p4.2
      by_cases c2 : I 120 i = 2
      · simp (disch := omega) only [Kk, Kl, Kv, c2, v4.1, B194_72, CMP, am_iteL, ite_not, GA, GR, GRc, GO, GI, GL, GV, am_w_i, am_ga, am_it, am_if, true_and, and_true, or_true, true_or, ne_eq, not_false_eq_true, not_true_eq_false, false_imp_iff, true_imp_iff, Int.reduceEq, Int.reduceLT, Int.reduceLE, Int.reduceAdd, Int.reduceSub, Int.reduceMul, Int.reduceNeg]
        simp [px_mo, same]
      · have p5 := k5 (by omega)
        have v5 := hx _ p5.1 p5.2
        have v4' := v4.2
        have v5' := v5.2
        unfold lT at v4' v5'
        have mo : px_mo (I 120 i) (I 121 i) (I 122 i) nm x = px_mk (I 120 i) (x.2 (I 121 i)) (x.2 (I 122 i)) x.1 := by unfold px_mo; rw [if_neg c0, if_neg c1, if_neg c2]
        rw [mo]
        simp (disch := omega) only [Kk, Kl, Kv, c0, c1, c2, v4.1, v5.1, B194_173, B194_174, B194_188, B194_193, CMP, s192, s191 he, s193 v4.2 v5.2 he, am_wl_i, B194_279, GA, GR, GRc, GO, GI, GL, GV, am_w_i, am_ga, am_it, am_if, true_and, and_true, or_true, true_or, ne_eq, not_false_eq_true, not_true_eq_false, false_imp_iff, true_imp_iff, Int.reduceEq, Int.reduceLT, Int.reduceLE, Int.reduceAdd, Int.reduceSub, Int.reduceMul, Int.reduceNeg]
        have cm : ∀ k, k ≠ 3 → k ≠ 4 → k ≠ 11 → k ≠ 12 → k ≠ 13 → k ≠ 14 → px_mk k (x.2 (I 121 i)) (x.2 (I 122 i)) x.1 = (x.1, px_cmp k (x.2 (I 121 i)) (x.2 (I 122 i))) := by
          intro k h1 h2 h3 h4 h5 h6; unfold px_mk; rw [if_neg h1, if_neg h2, if_neg h3, if_neg h4, if_neg h5, if_neg h6]
        have cb : ∀ k, (px_cmp k (x.2 (I 121 i)) (x.2 (I 122 i)) = 0 → Q (some (vL 0)) (mkH w I L)) ∧ (¬ px_cmp k (x.2 (I 121 i)) (x.2 (I 122 i)) = 0 → Q (some (vL 1)) (mkH w I L)) ↔ Q (some (vL (px_cmp k (x.2 (I 121 i)) (x.2 (I 122 i))))) (mkH w I L) := by
          intro k
          rcases px_cmp_01 k (x.2 (I 121 i)) (x.2 (I 122 i)) with h | h <;> simp [h]
        rcases (show I 120 i = 3 ∨ I 120 i = 4 ∨ I 120 i = 11 ∨ I 120 i = 12 ∨ I 120 i = 13 ∨ I 120 i = 14 ∨ I 120 i = 5 ∨ I 120 i = 6 ∨ I 120 i = 7 ∨ I 120 i = 8 ∨ I 120 i = 9 ∨ I 120 i = 10 by omega) with z | z | z | z | z | z | z | z | z | z | z | z
        · simp (disch := omega) only [z, am_iteL, GA, GR, GRc, GO, GI, GL, GV, am_w_i, am_ga, am_it, am_if, true_and, and_true, or_true, true_or, ne_eq, not_false_eq_true, not_true_eq_false, false_imp_iff, true_imp_iff, Int.reduceEq, Int.reduceLT, Int.reduceLE, Int.reduceAdd, Int.reduceSub, Int.reduceMul, Int.reduceNeg]; simp [px_mk, same]
        · simp (disch := omega) only [z, am_iteL, ite_not, GA, GR, GRc, GO, GI, GL, GV, am_w_i, am_ga, am_it, am_if, true_and, and_true, or_true, true_or, ne_eq, not_false_eq_true, not_true_eq_false, false_imp_iff, true_imp_iff, Int.reduceEq, Int.reduceLT, Int.reduceLE, Int.reduceAdd, Int.reduceSub, Int.reduceMul, Int.reduceNeg]; simp [px_mk, same]
        · simp (disch := omega) only [z, GA, GR, GRc, GO, GI, GL, GV, am_w_i, am_ga, am_it, am_if, true_and, and_true, or_true, true_or, ne_eq, not_false_eq_true, not_true_eq_false, false_imp_iff, true_imp_iff, Int.reduceEq, Int.reduceLT, Int.reduceLE, Int.reduceAdd, Int.reduceSub, Int.reduceMul, Int.reduceNeg]; simp [px_mk]
        · simp (disch := omega) only [z, GA, GR, GRc, GO, GI, GL, GV, am_w_i, am_ga, am_it, am_if, true_and, and_true, or_true, true_or, ne_eq, not_false_eq_true, not_true_eq_false, false_imp_iff, true_imp_iff, Int.reduceEq, Int.reduceLT, Int.reduceLE, Int.reduceAdd, Int.reduceSub, Int.reduceMul, Int.reduceNeg]; simp [px_mk]
        · simp (disch := omega) only [z, GA, GR, GRc, GO, GI, GL, GV, am_w_i, am_ga, am_it, am_if, true_and, and_true, or_true, true_or, ne_eq, not_false_eq_true, not_true_eq_false, false_imp_iff, true_imp_iff, Int.reduceEq, Int.reduceLT, Int.reduceLE, Int.reduceAdd, Int.reduceSub, Int.reduceMul, Int.reduceNeg]; simp [px_mk]
        · have td := tdiv_b (b := x.2 (I 122 i)) v4'
          simp (disch := omega) only [z, GA, GR, GRc, GO, GI, GL, GV, am_w_i, am_ga, am_it, am_if, true_and, and_true, or_true, true_or, ne_eq, not_false_eq_true, not_true_eq_false, false_imp_iff, true_imp_iff, Int.reduceEq, Int.reduceLT, Int.reduceLE, Int.reduceAdd, Int.reduceSub, Int.reduceMul, Int.reduceNeg]
          unfold bi at he
          cases hx1 : x.1
          · rw [hx1] at he
            by_cases b0 : x.2 (I 122 i) = 0
            · simp (disch := omega) only [he, b0, B194_235, B194_240, B194_243, Kk, am_up_s, B194_258, reduceIte, GA, GR, GRc, GO, GI, GL, GV, am_w_i, am_ga, am_it, am_if, true_and, and_true, or_true, true_or, ne_eq, not_false_eq_true, not_true_eq_false, false_imp_iff, true_imp_iff, Int.reduceEq, Int.reduceLT, Int.reduceLE, Int.reduceAdd, Int.reduceSub, Int.reduceMul, Int.reduceNeg]
              simp [px_mk, bi, b0]
            · simp (disch := omega) only [he, b0, B194_235, B194_240, B194_243, Kk, am_up_s, B194_258, am_wl_i, reduceIte, GA, GR, GRc, GO, GI, GL, GV, am_w_i, am_ga, am_it, am_if, true_and, and_true, or_true, true_or, ne_eq, not_false_eq_true, not_true_eq_false, false_imp_iff, true_imp_iff, Int.reduceEq, Int.reduceLT, Int.reduceLE, Int.reduceAdd, Int.reduceSub, Int.reduceMul, Int.reduceNeg]
              simp [px_mk, bi, b0]
          · rw [hx1] at he
            simp (disch := omega) only [he, B194_235, B194_240, B194_243, Kk, am_up_s, B194_258, reduceIte, GA, GR, GRc, GO, GI, GL, GV, am_w_i, am_ga, am_it, am_if, true_and, and_true, or_true, true_or, ne_eq, not_false_eq_true, not_true_eq_false, false_imp_iff, true_imp_iff, Int.reduceEq, Int.reduceLT, Int.reduceLE, Int.reduceAdd, Int.reduceSub, Int.reduceMul, Int.reduceNeg]
            simp [px_mk, bi]
        all_goals
          rw [z, cm _ (by decide) (by decide) (by decide) (by decide) (by decide) (by decide)]
          simp (disch := omega) only [cb, same, GA, GR, GRc, GO, GI, GL, GV, am_w_i, am_ga, am_it, am_if, true_and, and_true, or_true, true_or, ne_eq, not_false_eq_true, not_true_eq_false, false_imp_iff, true_imp_iff, Int.reduceEq, Int.reduceLT, Int.reduceLE, Int.reduceAdd, Int.reduceSub, Int.reduceMul, Int.reduceNeg]
