/-! 9t: an E, the reference: signs that bind -/
def BG (I I' : (Nat → Int → Int)) : Prop := (∀ a, a ≠ 99 → ¬ (120 ≤ a ∧ a ≤ 124) → I' a = I a) ∧ (∀ a j, 120 ≤ a → a ≤ 122 → j < 64 → I' a j = I a j) ∧ ∀ x, x ≠ 20 → ¬ (45 ≤ x ∧ x ≤ 46) → I' 99 x = I 99 x
theorem BG.b {I J : (Nat → Int → Int)} (h : BG I J) : BF I J := ⟨h.1, h.2.1, fun x a b => h.2.2 x a (by omega)⟩
theorem BG.rf {I : (Nat → Int → Int)} : BG I I := ⟨fun _ _ _ => rfl, fun _ _ _ _ _ => rfl, fun _ _ _ => rfl⟩
theorem BG.tr {I J K : (Nat → Int → Int)} (h : BG I J) (g : BG J K) : BG I K := ⟨fun a x y => (g.1 a x y).trans (h.1 a x y), fun a j x y z => (g.2.1 a j x y z).trans (h.2.1 a j x y z), fun x a b => (g.2.2 x a b).trans (h.2.2 x a b)⟩
theorem BG.f {I J : (Nat → Int → Int)} {i v : Int} (h : BG I J) (hi : i = 20 ∨ (45 ≤ i ∧ i ≤ 46)) : BG I (am_up J 99 i v) := ⟨fun a x y => by rw [am_up_a _ _ _ _ x]; exact h.1 a x y, fun a j x y z => by rw [am_up_a _ _ _ _ (by omega)]; exact h.2.1 a j x y z, fun x a b => by rw [am_up_n _ _ _ _ (by omega)]; exact h.2.2 x a b⟩
theorem BG.w {I J : (Nat → Int → Int)} {b : Nat} {i v : Int} (h : BG I J) (hb : b = 123 ∨ b = 124) : BG I (am_up J b i v) := ⟨fun a x y => by rw [am_up_a _ _ _ _ (by omega)]; exact h.1 a x y, fun a j x y z => by rw [am_up_a _ _ _ _ (by omega)]; exact h.2.1 a j x y z, fun x a c => by rw [am_up_a _ _ _ _ (by omega)]; exact h.2.2 x a c⟩
theorem BG.k {I J : (Nat → Int → Int)} {b : Nat} {i v : Int} (h : BG I J) (hb : 120 ≤ b ∧ b ≤ 122) (hi : 64 ≤ i) : BG I (am_up J b i v) := ⟨fun a x y => by rw [am_up_a _ _ _ _ (by omega)]; exact h.1 a x y, fun a j x y z => by
    by_cases c : a = b
    · subst c; rw [am_up_n _ _ _ _ (by omega)]; exact h.2.1 a j x y z
    · rw [am_up_a _ _ _ _ c]; exact h.2.1 a j x y z, fun x a c => by rw [am_up_a _ _ _ _ (by omega)]; exact h.2.2 x a c⟩
theorem BG.gr {I J : (Nat → Int → Int)} {x h k p o : Int} (f : BG I J) (hx : 0 ≤ x) : BG I (am_up (am_up (am_up (am_up (am_up (am_up J 120 (64 + x) k) 121 (64 + x) p) 122 (64 + x) o) 124 h x) 99 46 (h + 1)) 99 20 (x + 1)) := (((((f.k (by decide) (by omega)).k (by decide) (by omega)).k (by decide) (by omega)).w (by decide)).f (by decide)).f (by decide)
theorem ePn_6 {X : (Nat → Int → Int)} {n : Int} : ePn X n 0 6 = X 0 6 ∧ ePn X n 0 9 = X 0 9 - n := by
  unfold ePn; rw [am_up_n _ _ _ _ (by decide), am_up_n _ _ _ _ (by decide), am_up_s]; exact ⟨rfl, rfl⟩
set_option maxHeartbeats 2000000 in
theorem c_b1 {d : Nat} {w : Nat × Nat × Nat × Nat} {I L : Nat → Int → Int} {X : (Nat → Int → Int)} {a0 least : Int} {l2 l3 l4 : Option am_V} (h : NE I X) (he : EI a0 0 X) (h8 : 0 < X 0 8) (h40 : X 22 (X 0 8 - 1) ≠ 40) {Q : Option am_V → am_H → Prop}
    (q1 : X 0 8 = 1 → ∀ G, BG I G → NE G (eP1 X) → Q none (mkH w G L)) (q2 : 1 < X 0 8 → bdC (X 22 (X 0 8 - 1 - 1)) < least → ∀ G, BG I G → NE G (eP1 X) → Q none (mkH w G L))
    (q3 : 1 < X 0 8 → ¬ bdC (X 22 (X 0 8 - 1 - 1)) < least → ∀ G (x2 s0 x3 : Int), BG I G → NE G (eP1 X) → am_WP (d + 1) 184 35 [some (vR (some 99)), some (vI least), some (vI x2), some (vI s0), some (vI x3)] [] (mkH w (am_up G 99 45 (X 0 8 - 1 - 1)) L) Q) : am_WP (d + 1) 184 35 [some (vR (some 99)), some (vI least), l2, l3, l4] [] (mkH w (am_up I 99 45 (X 0 8 - 1)) L) Q := by
  have bd := he.bd (by decide)
  have p := he.p1 h8 h40
  have pb := p.1.bd (by decide)
  rw [eP1_6, p.2.2.2.2] at pb
  have p8 := p.2.1
  have p22 := p.2.2.2.1
  have j123 : am_up I 99 45 (X 0 8 - 1) 123 (X 0 8 - 1) = mpC (X 22 (X 0 8 - 1)) := by rw [am_up_a _ _ _ _ (by decide)]; exact h.2.2.2.1 _ (by omega) (by omega)
  have j46 : am_up I 99 45 (X 0 8 - 1) 99 46 = X 0 9 := by rw [am_up_n _ _ _ _ (by decide)]; exact h.2.1.2.1
  have wc := he.2.1 (X 0 8 - 1) (by omega) (by omega)
  have cnt9 := he.2.2.2.1
  obtain ⟨n, hn⟩ : ∃ n : Nat, X 0 8 = (n : Int) + 1 := ⟨(X 0 8 - 1).toNat, by omega⟩
  have t0 : (X 0 8).toNat = n + 1 := by omega
  have t2 : X 0 8 - 1 = (n : Int) := by omega
  rw [t0, cbF, ← t2, if_neg h40] at cnt9
  have cb := cbF_b (f := X 22) n
  have wc2 : 1 < X 0 8 → rkC (mpC (X 22 (X 0 8 - 1 - 1))) = bdC (X 22 (X 0 8 - 1 - 1)) := fun z => (wcd_r (he.2.1 (X 0 8 - 1 - 1) (by omega) (by omega))).1
  have fin : ∀ (G : (Nat → Int → Int)) (x2 s0 x3 : Int), BG I G → NE G (eP1 X) → (G 99 45 ≤ 0 → Q none (mkH w G L)) ∧ (¬ G 99 45 ≤ 0 → (0 ≤ G 99 45 - 1 ∧ G 99 45 - 1 < 96) ∧ (rkC (G 123 (G 99 45 - 1)) < least → Q none (mkH w G L)) ∧ (¬ rkC (G 123 (G 99 45 - 1)) < least → am_WP (d + 1) 184 35 [some (vR (some 99)), some (vI least), some (vI x2), some (vI s0), some (vI x3)] [] (mkH w (am_up G 99 45 (G 99 45 - 1)) L) Q)) := by
    intro G x2 s0 x3 bf ng
    have g45 : G 99 45 = X 0 8 - 1 := ng.2.1.1.trans p8
    rw [g45]
    refine ⟨fun z => q1 (by omega) G bf ng, fun z => ⟨by omega, ?_⟩⟩
    have g123 : G 123 (X 0 8 - 1 - 1) = mpC (X 22 (X 0 8 - 1 - 1)) := by rw [ng.2.2.2.1 _ (by omega) (by omega), p22]
    rw [g123, wc2 (by omega)]
    exact ⟨fun y => q2 (by omega) y G bf ng, fun y => q3 (by omega) y G x2 s0 x3 bf ng⟩
  clear q1 q2 q3
  rw [B184_35]
  by_cases c : X 22 (X 0 8 - 1) = 113
  · rw [if_pos c] at cnt9
    have ne := (h.w (n := 1) (by decide)).gr (r := -113) (k := 2) (p := X 23 (X 0 9 - 1)) (o := -1)
    rw [ePn_6.1, ePn_6.2, show eGr (ePn X 1) (-113) 2 (X 23 (X 0 9 - 1)) (-1) = eP1 X by unfold eP1; rw [if_pos c]] at ne
    have bf := (((BG.rf (I := I)).f (i := 45) (v := X 0 8 - 1) (by decide)).f (i := 46) (v := X 0 9 - 1) (by decide)).gr (x := X 0 6) (h := X 0 9 - 1) (k := 2) (p := X 23 (X 0 9 - 1)) (o := -1) (by omega)
    have s183' : ∀ Q, am_Sp d 183 [vR (some 99)] (mkH w (am_up I 99 45 (X 0 8 - 1)) L) Q ↔ Q (some (vI (X 23 (X 0 9 - 1)))) (mkH w (am_up (am_up I 99 45 (X 0 8 - 1)) 99 46 (X 0 9 - 1)) L) := fun Q => by
      rw [s183 (by rw [j46]; omega), j46, am_up_a _ _ _ _ (by decide), h.2.2.2.2 _ (by omega) (by omega)]
    have k20 : am_up (am_up I 99 45 (X 0 8 - 1)) 99 46 (X 0 9 - 1) 99 20 = X 0 6 := by rw [am_up_n _ _ _ _ (by decide), am_up_n _ _ _ _ (by decide)]; exact h.1.1
    have k46 : am_up (am_up I 99 45 (X 0 8 - 1)) 99 46 (X 0 9 - 1) 99 46 = X 0 9 - 1 := am_up_s _ _ _ _
    have s182' : ∀ k a b Q, am_Sp d 182 [vR (some 99), vI k, vI a, vI b] (mkH w (am_up (am_up I 99 45 (X 0 8 - 1)) 99 46 (X 0 9 - 1)) L) Q ↔ Q none (mkH w (am_up (am_up (am_up (am_up (am_up (am_up (am_up (am_up I 99 45 (X 0 8 - 1)) 99 46 (X 0 9 - 1)) 120 (64 + X 0 6) k) 121 (64 + X 0 6) a) 122 (64 + X 0 6) b) 124 (X 0 9 - 1) (X 0 6)) 99 46 (X 0 9 - 1 + 1)) 99 20 (X 0 6 + 1)) L) := fun k a b Q => by
      rw [s182 (by rw [k20]; omega) (by rw [k46]; omega), k20, k46]
    have m2 : mpC 113 = 2 := by decide
    have fin := fin _ 2 (-1) (X 23 (X 0 9 - 1)) bf ne
    clear ne bf he h p
    rw [c, m2] at j123
    simp (disch := omega) only [Kk, Kp, am_up_s, j123, B184_58, s183', s182', GA, GR, GRc, GO, GI, GL, GV, am_w_i, am_ga, am_it, am_if, true_and, and_true, or_true, true_or, ne_eq, not_false_eq_true, not_true_eq_false, false_imp_iff, true_imp_iff, Int.reduceEq, Int.reduceLT, Int.reduceLE, Int.reduceAdd, Int.reduceSub, Int.reduceMul, Int.reduceNeg]
    generalize am_up (am_up (am_up (am_up (am_up (am_up (am_up (am_up I 99 45 (X 0 8 - 1)) 99 46 (X 0 9 - 1)) 120 (64 + X 0 6) 2) 121 (64 + X 0 6) (X 23 (X 0 9 - 1))) 122 (64 + X 0 6) (-1)) 124 (X 0 9 - 1) (X 0 6)) 99 46 (X 0 9 - 1 + 1)) 99 20 (X 0 6 + 1) = G at fin ⊢
    refine ⟨fin.1, fun y => ?_⟩
    have y2 := (fin.2 y).1
    have y3 := (fin.2 y).2
    clear fin
    simp (disch := omega) only [Kk, Kp, s181, GA, GR, GRc, GO, GI, GL, GV, am_w_i, am_ga, am_it, am_if, true_and, and_true, or_true, true_or, ne_eq, not_false_eq_true, not_true_eq_false, false_imp_iff, true_imp_iff, Int.reduceEq, Int.reduceLT, Int.reduceLE, Int.reduceAdd, Int.reduceSub, Int.reduceMul, Int.reduceNeg]
    exact y3
  · rw [if_neg c] at cnt9
    have wb : wbn (X 22 (X 0 8 - 1)) := by
      rcases wc with z | z | z
      · exact absurd z h40
      · exact absurd z c
      · exact z
    have wv := wbn_b wb
    have ne := (h.w (n := 2) (by decide)).gr (r := -(X 22 (X 0 8 - 1))) (k := mpC (X 22 (X 0 8 - 1))) (p := X 23 (X 0 9 - 2)) (o := X 23 (X 0 9 - 1))
    rw [ePn_6.1, ePn_6.2, show eGr (ePn X 2) (-(X 22 (X 0 8 - 1))) (mpC (X 22 (X 0 8 - 1))) (X 23 (X 0 9 - 2)) (X 23 (X 0 9 - 1)) = eP1 X by unfold eP1; rw [if_neg c]] at ne
    have bf := (((BG.rf (I := I)).f (i := 45) (v := X 0 8 - 1) (by decide)).f (i := 46) (v := X 0 9 - 2) (by decide)).gr (x := X 0 6) (h := X 0 9 - 2) (k := mpC (X 22 (X 0 8 - 1))) (p := X 23 (X 0 9 - 2)) (o := X 23 (X 0 9 - 1)) (by omega)
    have s183' : ∀ Q, am_Sp d 183 [vR (some 99)] (mkH w (am_up I 99 45 (X 0 8 - 1)) L) Q ↔ Q (some (vI (X 23 (X 0 9 - 1)))) (mkH w (am_up (am_up I 99 45 (X 0 8 - 1)) 99 46 (X 0 9 - 1)) L) := fun Q => by
      rw [s183 (by rw [j46]; omega), j46, am_up_a _ _ _ _ (by decide), h.2.2.2.2 _ (by omega) (by omega)]
    have j46' : am_up (am_up I 99 45 (X 0 8 - 1)) 99 46 (X 0 9 - 1) 99 46 = X 0 9 - 1 := am_up_s _ _ _ _
    have s183'' : ∀ Q, am_Sp d 183 [vR (some 99)] (mkH w (am_up (am_up I 99 45 (X 0 8 - 1)) 99 46 (X 0 9 - 1)) L) Q ↔ Q (some (vI (X 23 (X 0 9 - 2)))) (mkH w (am_up (am_up I 99 45 (X 0 8 - 1)) 99 46 (X 0 9 - 2)) L) := fun Q => by
      rw [s183 (by rw [j46']; omega), j46', am_up2, am_up_a _ _ _ _ (by decide), am_up_a _ _ _ _ (by decide), show X 0 9 - 1 - 1 = X 0 9 - 2 by omega, h.2.2.2.2 _ (by omega) (by omega)]
    have k20 : am_up (am_up I 99 45 (X 0 8 - 1)) 99 46 (X 0 9 - 2) 99 20 = X 0 6 := by rw [am_up_n _ _ _ _ (by decide), am_up_n _ _ _ _ (by decide)]; exact h.1.1
    have k46 : am_up (am_up I 99 45 (X 0 8 - 1)) 99 46 (X 0 9 - 2) 99 46 = X 0 9 - 2 := am_up_s _ _ _ _
    have s182' : ∀ k a b Q, am_Sp d 182 [vR (some 99), vI k, vI a, vI b] (mkH w (am_up (am_up I 99 45 (X 0 8 - 1)) 99 46 (X 0 9 - 2)) L) Q ↔ Q none (mkH w (am_up (am_up (am_up (am_up (am_up (am_up (am_up (am_up I 99 45 (X 0 8 - 1)) 99 46 (X 0 9 - 2)) 120 (64 + X 0 6) k) 121 (64 + X 0 6) a) 122 (64 + X 0 6) b) 124 (X 0 9 - 2) (X 0 6)) 99 46 (X 0 9 - 2 + 1)) 99 20 (X 0 6 + 1)) L) := fun k a b Q => by
      rw [s182 (by rw [k20]; omega) (by rw [k46]; omega), k20, k46]
    have fin := fin _ (mpC (X 22 (X 0 8 - 1))) (X 23 (X 0 9 - 1)) (X 23 (X 0 9 - 2)) bf ne
    have m2 : ¬ mpC (X 22 (X 0 8 - 1)) = 2 := by omega
    clear ne bf he h p wb
    simp (disch := omega) only [Kk, Kp, am_up_s, j123, B184_58, s183', s183'', s182', m2, GA, GR, GRc, GO, GI, GL, GV, am_w_i, am_ga, am_it, am_if, true_and, and_true, or_true, true_or, ne_eq, not_false_eq_true, not_true_eq_false, false_imp_iff, true_imp_iff, Int.reduceEq, Int.reduceLT, Int.reduceLE, Int.reduceAdd, Int.reduceSub, Int.reduceMul, Int.reduceNeg]
    generalize am_up (am_up (am_up (am_up (am_up (am_up (am_up (am_up I 99 45 (X 0 8 - 1)) 99 46 (X 0 9 - 2)) 120 (64 + X 0 6) (mpC (X 22 (X 0 8 - 1)))) 121 (64 + X 0 6) (X 23 (X 0 9 - 2))) 122 (64 + X 0 6) (X 23 (X 0 9 - 1))) 124 (X 0 9 - 2) (X 0 6)) 99 46 (X 0 9 - 2 + 1)) 99 20 (X 0 6 + 1) = G at fin ⊢
    refine ⟨fin.1, fun y => ?_⟩
    have y2 := (fin.2 y).1
    have y3 := (fin.2 y).2
    clear fin
    simp (disch := omega) only [Kk, Kp, s181, GA, GR, GRc, GO, GI, GL, GV, am_w_i, am_ga, am_it, am_if, true_and, and_true, or_true, true_or, ne_eq, not_false_eq_true, not_true_eq_false, false_imp_iff, true_imp_iff, Int.reduceEq, Int.reduceLT, Int.reduceLE, Int.reduceAdd, Int.reduceSub, Int.reduceMul, Int.reduceNeg]
    exact y3
theorem c_bd {d : Nat} {w : (Nat × Nat × Nat × Nat)} {L : (Nat → Int → Int)} {a0 least : Int} {Q : Option am_V → am_H → Prop} (hl : 1 ≤ least) : ∀ (m : Nat) (I X : (Nat → Int → Int)) (l2 l3 l4 : Option am_V), NE I X → EI a0 0 X → X 0 8 = ((m + 1 : Nat) : Int) → (X 22 (X 0 8 - 1) ≠ 40 ∧ least ≤ bdC (X 22 (X 0 8 - 1))) → (∀ I', BG I I' → NE I' (eRl least (m + 1) X) → Q none (mkH w I' L)) → am_WP (d + 1) 184 35 [some (vR (some 99)), some (vI least), l2, l3, l4] [] (mkH w (am_up I 99 45 (X 0 8 - 1)) L) Q
  | 0, I, X, l2, l3, l4, h, he, e8, c, q => by
    rw [eRl, if_pos c, eRl] at q
    exact c_b1 h he (by omega) c.1 (fun _ G f n => q G f n) (fun z => absurd z (by omega)) (fun z => absurd z (by omega))
  | m + 1, I, X, l2, l3, l4, h, he, e8, c, q => by
    have p := he.p1 (by omega) c.1
    rw [eRl, if_pos c] at q
    refine c_b1 h he (by omega) c.1 (fun z => absurd z (by omega)) (fun z y G f n => q G f ?_) (fun z y G x2 s0 x3 f n => ?_)
    · rw [eRl, p.2.1, p.2.2.2.1, if_neg (fun t => by omega)]; exact n
    · have e40 : X 22 (X 0 8 - 1 - 1) ≠ 40 := fun t => by rw [t] at y; exact y (by have : bdC 40 = 0 := by decide
                                                                                   omega)
      have := c_bd (d := d) (w := w) (L := L) (Q := Q) hl m G (eP1 X) (some (vI x2)) (some (vI s0)) (some (vI x3)) n p.1 (by omega) (by rw [p.2.1, p.2.2.2.1]; exact ⟨e40, by omega⟩) (fun I' f' n' => q I' (f.tr f') n')
      rw [p.2.1] at this
      exact this
theorem s184 {d : Nat} {w : Nat × Nat × Nat × Nat} {I L : Nat → Int → Int} {X : (Nat → Int → Int)} {a0 least : Int} (h : NE I X) (he : EI a0 0 X) (hl : 1 ≤ least) {Q : Option am_V → am_H → Prop} (q : ∀ I', BG I I' → NE I' (eRl least (X 0 8).toNat X) → Q none (mkH w I' L)) : am_Sp (d + 1) 184 [vR (some 99), vI least] (mkH w I L) Q := by
  have bd := he.bd (by decide)
  have e45 : I 99 45 = X 0 8 := h.2.1.1
  rw [S184]
  by_cases c0 : X 0 8 ≤ 0
  · have e0 : (X 0 8).toNat = 0 := by omega
    rw [e0, eRl] at q
    have z := q I BG.rf h
    clear q he
    first | (simp (disch := omega) only [Kk, e45, GA, GR, GRc, GO, GI, GL, GV, am_w_i, am_ga, am_it, am_if, true_and, and_true, or_true, true_or, ne_eq, not_false_eq_true, not_true_eq_false, false_imp_iff, true_imp_iff, Int.reduceEq, Int.reduceLT, Int.reduceLE, Int.reduceAdd, Int.reduceSub, Int.reduceMul, Int.reduceNeg]; exact z) | simp (disch := omega) only [Kk, e45, z, GA, GR, GRc, GO, GI, GL, GV, am_w_i, am_ga, am_it, am_if, true_and, and_true, or_true, true_or, ne_eq, not_false_eq_true, not_true_eq_false, false_imp_iff, true_imp_iff, Int.reduceEq, Int.reduceLT, Int.reduceLE, Int.reduceAdd, Int.reduceSub, Int.reduceMul, Int.reduceNeg]
  · obtain ⟨m, hm⟩ : ∃ m : Nat, X 0 8 = ((m + 1 : Nat) : Int) := ⟨(X 0 8 - 1).toNat, by omega⟩
    have em : (X 0 8).toNat = m + 1 := by omega
    rw [em] at q
    have wr := (wcd_r (he.2.1 (X 0 8 - 1) (by omega) (by omega))).1
    have e123 : I 123 (X 0 8 - 1) = mpC (X 22 (X 0 8 - 1)) := h.2.2.2.1 _ (by omega) (by omega)
    by_cases c : X 22 (X 0 8 - 1) ≠ 40 ∧ least ≤ bdC (X 22 (X 0 8 - 1))
    · have g := c_bd (d := d) (w := w) (L := L) (Q := Q) hl m I X none none none h he hm c q
      have c2 := c.2
      clear q he c
      simp (disch := omega) only [Kk, Kp, e45, s181, e123, wr, GA, GR, GRc, GO, GI, GL, GV, am_w_i, am_ga, am_it, am_if, true_and, and_true, or_true, true_or, ne_eq, not_false_eq_true, not_true_eq_false, false_imp_iff, true_imp_iff, Int.reduceEq, Int.reduceLT, Int.reduceLE, Int.reduceAdd, Int.reduceSub, Int.reduceMul, Int.reduceNeg]
      all_goals exact g
    · rw [eRl, if_neg c] at q
      have z := q I BG.rf h
      have c2 : bdC (X 22 (X 0 8 - 1)) < least := by
        by_cases c4 : X 22 (X 0 8 - 1) = 40
        · rw [c4]; have : bdC 40 = 0 := by decide
          omega
        · have : ¬ least ≤ bdC (X 22 (X 0 8 - 1)) := fun t => c ⟨c4, t⟩
          omega
      clear q he c
      first | (simp (disch := omega) only [Kk, Kp, e45, s181, e123, wr, GA, GR, GRc, GO, GI, GL, GV, am_w_i, am_ga, am_it, am_if, true_and, and_true, or_true, true_or, ne_eq, not_false_eq_true, not_true_eq_false, false_imp_iff, true_imp_iff, Int.reduceEq, Int.reduceLT, Int.reduceLE, Int.reduceAdd, Int.reduceSub, Int.reduceMul, Int.reduceNeg]; exact z) | simp (disch := omega) only [Kk, Kp, e45, s181, e123, wr, z, GA, GR, GRc, GO, GI, GL, GV, am_w_i, am_ga, am_it, am_if, true_and, and_true, or_true, true_or, ne_eq, not_false_eq_true, not_true_eq_false, false_imp_iff, true_imp_iff, Int.reduceEq, Int.reduceLT, Int.reduceLE, Int.reduceAdd, Int.reduceSub, Int.reduceMul, Int.reduceNeg]
