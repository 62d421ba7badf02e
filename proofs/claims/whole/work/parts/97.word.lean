/-! 97: the reference's words -/
theorem s156 {d : Nat} {w : Nat × Nat × Nat × Nat} {I L : Nat → Int → Int} {n k : Int} (hn : I 99 6 = n) (h7 : n ≤ 700) (hk : 0 ≤ k) (Q : Option am_V → am_H → Prop) : am_Sp d 156 [vR (some 99), vI k] (mkH w I L) Q ↔ Q (some (vI (if k < n ∧ 97 ≤ I 100 k ∧ I 100 k ≤ 122 then 1 else 0))) (mkH w I L) := by
  rw [S156]
  by_cases c0 : k < n
  · by_cases c1 : 97 ≤ I 100 k
    · by_cases c2 : I 100 k ≤ 122
      · simp (disch := omega) only [Kk, Kt, hn, B156_34, B156_35, c0, c1, c2, if_true, GA, GR, GRc, GO, GI, GL, GV, am_w_i, am_ga, am_it, am_if, true_and, and_true, or_true, true_or, ne_eq, not_false_eq_true, not_true_eq_false, false_imp_iff, true_imp_iff, Int.reduceEq, Int.reduceLT, Int.reduceLE, Int.reduceAdd, Int.reduceSub, Int.reduceMul, Int.reduceNeg]
      · simp (disch := omega) only [Kk, Kt, hn, B156_34, B156_35, c0, c1, c2, and_false, if_false, GA, GR, GRc, GO, GI, GL, GV, am_w_i, am_ga, am_it, am_if, true_and, and_true, or_true, true_or, ne_eq, not_false_eq_true, not_true_eq_false, false_imp_iff, true_imp_iff, Int.reduceEq, Int.reduceLT, Int.reduceLE, Int.reduceAdd, Int.reduceSub, Int.reduceMul, Int.reduceNeg]
    · simp (disch := omega) only [Kk, Kt, hn, B156_34, B156_35, c0, c1, false_and, and_false, if_false, GA, GR, GRc, GO, GI, GL, GV, am_w_i, am_ga, am_it, am_if, true_and, and_true, or_true, true_or, ne_eq, not_false_eq_true, not_true_eq_false, false_imp_iff, true_imp_iff, Int.reduceEq, Int.reduceLT, Int.reduceLE, Int.reduceAdd, Int.reduceSub, Int.reduceMul, Int.reduceNeg]
  · simp (disch := omega) only [Kk, Kt, hn, B156_34, B156_35, c0, false_and, if_false, GA, GR, GRc, GO, GI, GL, GV, am_w_i, am_ga, am_it, am_if, true_and, and_true, or_true, true_or, ne_eq, not_false_eq_true, not_true_eq_false, false_imp_iff, true_imp_iff, Int.reduceEq, Int.reduceLT, Int.reduceLE, Int.reduceAdd, Int.reduceSub, Int.reduceMul, Int.reduceNeg]
theorem s157 {d : Nat} {w : Nat × Nat × Nat × Nat} {I L : Nat → Int → Int} {n k : Int} (hn : I 99 6 = n) (h7 : n ≤ 700) (hk : 0 ≤ k) (Q : Option am_V → am_H → Prop) : am_Sp d 157 [vR (some 99), vI k] (mkH w I L) Q ↔ Q (some (vI (if k < n ∧ 48 ≤ I 100 k ∧ I 100 k ≤ 57 then 1 else 0))) (mkH w I L) := by
  rw [S157]
  by_cases c0 : k < n
  · by_cases c1 : 48 ≤ I 100 k
    · by_cases c2 : I 100 k ≤ 57
      · simp (disch := omega) only [Kk, Kt, hn, B157_34, B157_35, c0, c1, c2, if_true, GA, GR, GRc, GO, GI, GL, GV, am_w_i, am_ga, am_it, am_if, true_and, and_true, or_true, true_or, ne_eq, not_false_eq_true, not_true_eq_false, false_imp_iff, true_imp_iff, Int.reduceEq, Int.reduceLT, Int.reduceLE, Int.reduceAdd, Int.reduceSub, Int.reduceMul, Int.reduceNeg]
      · simp (disch := omega) only [Kk, Kt, hn, B157_34, B157_35, c0, c1, c2, and_false, if_false, GA, GR, GRc, GO, GI, GL, GV, am_w_i, am_ga, am_it, am_if, true_and, and_true, or_true, true_or, ne_eq, not_false_eq_true, not_true_eq_false, false_imp_iff, true_imp_iff, Int.reduceEq, Int.reduceLT, Int.reduceLE, Int.reduceAdd, Int.reduceSub, Int.reduceMul, Int.reduceNeg]
    · simp (disch := omega) only [Kk, Kt, hn, B157_34, B157_35, c0, c1, false_and, and_false, if_false, GA, GR, GRc, GO, GI, GL, GV, am_w_i, am_ga, am_it, am_if, true_and, and_true, or_true, true_or, ne_eq, not_false_eq_true, not_true_eq_false, false_imp_iff, true_imp_iff, Int.reduceEq, Int.reduceLT, Int.reduceLE, Int.reduceAdd, Int.reduceSub, Int.reduceMul, Int.reduceNeg]
  · simp (disch := omega) only [Kk, Kt, hn, B157_34, B157_35, c0, false_and, if_false, GA, GR, GRc, GO, GI, GL, GV, am_w_i, am_ga, am_it, am_if, true_and, and_true, or_true, true_or, ne_eq, not_false_eq_true, not_true_eq_false, false_imp_iff, true_imp_iff, Int.reduceEq, Int.reduceLT, Int.reduceLE, Int.reduceAdd, Int.reduceSub, Int.reduceMul, Int.reduceNeg]
set_option maxHeartbeats 1000000 in
theorem s155 {d : Nat} {w : Nat × Nat × Nat × Nat} {I L : Nat → Int → Int} {p : Int} {m : Nat} (hX : GX I) (hp : 0 ≤ p ∧ p + m ≤ 700) {Q : Option am_V → am_H → Prop} (q1 : ∀ k : Nat, k < 21 → WK (I 100) p m k → Q (some (vI (k : Int))) (mkH w I L)) (q2 : (∀ k : Nat, k < 21 → ¬ WK (I 100) p m k) → Q (some (vI (-1))) (mkH w I L)) : am_Sp d 155 [vR (some 99), vI p, vI (p + m)] (mkH w I L) Q := by
  have em : p + (m : Int) - p = m := by omega
  rw [S155]
  refine am_loop (α := Option am_V × Option am_V × Option am_V) 21 (fun k x => am_WP d 155 5 [some (vR (some 99)), some (vI p), some (vI (p + m)), some (vI (k : Int)), some (vI ((cz_of.getD k 0 : Nat) : Int)), x.1, x.2.1, x.2.2] [] (mkH w I L) Q) (fun k _ => ∀ x : Nat, x < k → ¬ WK (I 100) p m x) ?_ ?_ 0 (none, none, none) (Nat.zero_le _) (fun x hx => by omega)
  · rintro k ⟨l5, l6, l7⟩ hk hv ih
    dsimp only
    obtain ⟨⟨k1, k2⟩, k3, k4, k5, k6⟩ := cz_k1 k hk
    have k7 := cz_k2 k hk
    unfold WK at q1
    have ch : ∀ i : Nat, i < 100 → I 101 (i : Int) = cz_ch.getD i 0 := hX.2
    generalize ho : cz_of.getD k 0 = o at *
    generalize hl : cz_ln.getD k 0 = ln at *
    have nx : ∀ a b c : Int, (¬ WK (I 100) p m k) → a = 0 → b = ln → am_WP d 155 104 [some (vR (some 99)), some (vI p), some (vI (p + m)), some (vI (k : Int)), some (vI (o : Int)), some (vI b), some (vI a), some (vI c)] [] (mkH w I L) Q := by
      intro a b c h1 h2 h3
      subst h2
      subst h3
      have z := ih (some (vI (ln : Int)), some (vI 0), some (vI c)) (fun x hx => by
        by_cases e : x = k
        · subst e; exact h1
        · exact hv x (by omega))
      dsimp only at z
      rw [k3, show ((o + ln + 1 : Nat) : Int) = (o : Int) + ((ln : Int) + 1) by omega] at z
      rw [B155_104]
      first | (simp (disch := omega) only [GA, GR, GRc, GO, GI, GL, GV, am_w_i, am_ga, am_it, am_if, true_and, and_true, or_true, true_or, ne_eq, not_false_eq_true, not_true_eq_false, false_imp_iff, true_imp_iff, Int.reduceEq, Int.reduceLT, Int.reduceLE, Int.reduceAdd, Int.reduceSub, Int.reduceMul, Int.reduceNeg]; exact z) | simp (disch := omega) only [z, GA, GR, GRc, GO, GI, GL, GV, am_w_i, am_ga, am_it, am_if, true_and, and_true, or_true, true_or, ne_eq, not_false_eq_true, not_true_eq_false, false_imp_iff, true_imp_iff, Int.reduceEq, Int.reduceLT, Int.reduceLE, Int.reduceAdd, Int.reduceSub, Int.reduceMul, Int.reduceNeg]
    rw [B155_5]
    simp (disch := omega) only [Kk, Kt, GA, GR, GRc, GO, GI, GL, GV, am_w_i, am_ga, am_it, am_if, true_and, and_true, or_true, true_or, ne_eq, not_false_eq_true, not_true_eq_false, false_imp_iff, true_imp_iff, Int.reduceEq, Int.reduceLT, Int.reduceLE, Int.reduceAdd, Int.reduceSub, Int.reduceMul, Int.reduceNeg]
    refine am_loop (α := Unit) ln (fun i _ => am_WP d 155 18 [some (vR (some 99)), some (vI p), some (vI (p + m)), some (vI (k : Int)), some (vI (o : Int)), some (vI (i : Int)), l6, l7] [] (mkH w I L) Q) (fun _ _ => True) ?_ ?_ 0 () (Nat.zero_le _) trivial
    · intro i _ hi _ ih2
      have z := ih2 () trivial
      have c1 := ch (o + i) (by omega)
      rw [show ((o + i : Nat) : Int) = (o : Int) + i by omega] at c1
      have c2 := k7 i hi
      have c3 : ¬ I 101 ((o : Int) + i) = 32 := by omega
      rw [B155_18]
      first | (simp (disch := omega) only [Kk, Kt, c3, GA, GR, GRc, GO, GI, GL, GV, am_w_i, am_ga, am_it, am_if, true_and, and_true, or_true, true_or, ne_eq, not_false_eq_true, not_true_eq_false, false_imp_iff, true_imp_iff, Int.reduceEq, Int.reduceLT, Int.reduceLE, Int.reduceAdd, Int.reduceSub, Int.reduceMul, Int.reduceNeg]; exact z) | simp (disch := omega) only [Kk, Kt, c3, z, GA, GR, GRc, GO, GI, GL, GV, am_w_i, am_ga, am_it, am_if, true_and, and_true, or_true, true_or, ne_eq, not_false_eq_true, not_true_eq_false, false_imp_iff, true_imp_iff, Int.reduceEq, Int.reduceLT, Int.reduceLE, Int.reduceAdd, Int.reduceSub, Int.reduceMul, Int.reduceNeg]
    · intro _ _
      have c1 := ch (o + ln) (by omega)
      rw [show ((o + ln : Nat) : Int) = (o : Int) + ln by omega, k6] at c1
      rw [B155_18]
      by_cases cl : ln = m
      · subst cl
        simp (disch := omega) only [Kk, Kt, c1, em, B155_52, GA, GR, GRc, GO, GI, GL, GV, am_w_i, am_ga, am_it, am_if, true_and, and_true, or_true, true_or, ne_eq, not_false_eq_true, not_true_eq_false, false_imp_iff, true_imp_iff, Int.reduceEq, Int.reduceLT, Int.reduceLE, Int.reduceAdd, Int.reduceSub, Int.reduceMul, Int.reduceNeg]
        refine am_loop (α := Unit) ln (fun i _ => am_WP d 155 57 [some (vR (some 99)), some (vI p), some (vI (p + ln)), some (vI (k : Int)), some (vI (o : Int)), some (vI (ln : Int)), some (vI 1), some (vI (i : Int))] [] (mkH w I L) Q) (fun i _ => ∀ x : Nat, x < i → I 100 (p + x) = cz_ch.getD (o + x) 0) ?_ ?_ 0 () (Nat.zero_le _) (fun x hx => by omega)
        · intro i _ hi hE ih3
          have c2 := ch (o + i) (by omega)
          rw [show ((o + i : Nat) : Int) = (o : Int) + i by omega] at c2
          rw [B155_57]
          by_cases ce : I 100 (p + i) = cz_ch.getD (o + i) 0
          · have z := ih3 () (fun x hx => by
              by_cases e : x = i
              · subst e; exact ce
              · exact hE x (by omega))
            have c4 : I 101 ((o : Int) + i) = I 100 (p + i) := by rw [c2, ce]
            first | (simp (disch := omega) only [Kk, Kt, c4, B155_96, GA, GR, GRc, GO, GI, GL, GV, am_w_i, am_ga, am_it, am_if, true_and, and_true, or_true, true_or, ne_eq, not_false_eq_true, not_true_eq_false, false_imp_iff, true_imp_iff, Int.reduceEq, Int.reduceLT, Int.reduceLE, Int.reduceAdd, Int.reduceSub, Int.reduceMul, Int.reduceNeg]; exact z) | simp (disch := omega) only [Kk, Kt, c4, B155_96, z, GA, GR, GRc, GO, GI, GL, GV, am_w_i, am_ga, am_it, am_if, true_and, and_true, or_true, true_or, ne_eq, not_false_eq_true, not_true_eq_false, false_imp_iff, true_imp_iff, Int.reduceEq, Int.reduceLT, Int.reduceLE, Int.reduceAdd, Int.reduceSub, Int.reduceMul, Int.reduceNeg]
          · have nw : ¬ WK (I 100) p ln k := fun y => ce (by
              have := y.2 i hi
              rw [ho] at this
              exact this)
            have z := nx 0 ln ((i : Int) + 1) nw rfl rfl
            have c4 : ¬ I 101 ((o : Int) + i) = I 100 (p + i) := fun y => ce (by rw [← c2]; exact y.symm)
            simp (disch := omega) only [Kk, Kt, c4, B155_96, GA, GR, GRc, GO, GI, GL, GV, am_w_i, am_ga, am_it, am_if, true_and, and_true, or_true, true_or, ne_eq, not_false_eq_true, not_true_eq_false, false_imp_iff, true_imp_iff, Int.reduceEq, Int.reduceLT, Int.reduceLE, Int.reduceAdd, Int.reduceSub, Int.reduceMul, Int.reduceNeg]
            rw [B155_57]
            by_cases c5 : (ln : Int) ≤ (i : Int) + 1
            · first | (simp (disch := omega) only [c5, GA, GR, GRc, GO, GI, GL, GV, am_w_i, am_ga, am_it, am_if, true_and, and_true, or_true, true_or, ne_eq, not_false_eq_true, not_true_eq_false, false_imp_iff, true_imp_iff, Int.reduceEq, Int.reduceLT, Int.reduceLE, Int.reduceAdd, Int.reduceSub, Int.reduceMul, Int.reduceNeg]; exact z) | simp (disch := omega) only [c5, z, GA, GR, GRc, GO, GI, GL, GV, am_w_i, am_ga, am_it, am_if, true_and, and_true, or_true, true_or, ne_eq, not_false_eq_true, not_true_eq_false, false_imp_iff, true_imp_iff, Int.reduceEq, Int.reduceLT, Int.reduceLE, Int.reduceAdd, Int.reduceSub, Int.reduceMul, Int.reduceNeg]
            · first | (simp (disch := omega) only [c5, GA, GR, GRc, GO, GI, GL, GV, am_w_i, am_ga, am_it, am_if, true_and, and_true, or_true, true_or, ne_eq, not_false_eq_true, not_true_eq_false, false_imp_iff, true_imp_iff, Int.reduceEq, Int.reduceLT, Int.reduceLE, Int.reduceAdd, Int.reduceSub, Int.reduceMul, Int.reduceNeg]; exact z) | simp (disch := omega) only [c5, z, GA, GR, GRc, GO, GI, GL, GV, am_w_i, am_ga, am_it, am_if, true_and, and_true, or_true, true_or, ne_eq, not_false_eq_true, not_true_eq_false, false_imp_iff, true_imp_iff, Int.reduceEq, Int.reduceLT, Int.reduceLE, Int.reduceAdd, Int.reduceSub, Int.reduceMul, Int.reduceNeg]
        · intro _ hE
          have z := q1 k hk ⟨hl.symm, fun i hi => by rw [ho]; exact hE i hi⟩
          rw [B155_57]
          first | (simp (disch := omega) only [B155_104, GA, GR, GRc, GO, GI, GL, GV, am_w_i, am_ga, am_it, am_if, true_and, and_true, or_true, true_or, ne_eq, not_false_eq_true, not_true_eq_false, false_imp_iff, true_imp_iff, Int.reduceEq, Int.reduceLT, Int.reduceLE, Int.reduceAdd, Int.reduceSub, Int.reduceMul, Int.reduceNeg]; exact z) | simp (disch := omega) only [B155_104, z, GA, GR, GRc, GO, GI, GL, GV, am_w_i, am_ga, am_it, am_if, true_and, and_true, or_true, true_or, ne_eq, not_false_eq_true, not_true_eq_false, false_imp_iff, true_imp_iff, Int.reduceEq, Int.reduceLT, Int.reduceLE, Int.reduceAdd, Int.reduceSub, Int.reduceMul, Int.reduceNeg]
      · have nw : ¬ WK (I 100) p m k := fun y => cl (by have := y.1; rw [hl] at this; exact this.symm)
        have z := nx 0 ln 0 nw rfl rfl
        have c2 : ¬ (ln : Int) = m := by omega
        first | (simp (disch := omega) only [Kk, Kt, c1, em, c2, B155_52, B155_57, GA, GR, GRc, GO, GI, GL, GV, am_w_i, am_ga, am_it, am_if, true_and, and_true, or_true, true_or, ne_eq, not_false_eq_true, not_true_eq_false, false_imp_iff, true_imp_iff, Int.reduceEq, Int.reduceLT, Int.reduceLE, Int.reduceAdd, Int.reduceSub, Int.reduceMul, Int.reduceNeg]; exact z) | simp (disch := omega) only [Kk, Kt, c1, em, c2, B155_52, B155_57, z, GA, GR, GRc, GO, GI, GL, GV, am_w_i, am_ga, am_it, am_if, true_and, and_true, or_true, true_or, ne_eq, not_false_eq_true, not_true_eq_false, false_imp_iff, true_imp_iff, Int.reduceEq, Int.reduceLT, Int.reduceLE, Int.reduceAdd, Int.reduceSub, Int.reduceMul, Int.reduceNeg]
  · rintro ⟨l5, l6, l7⟩ hv
    dsimp only
    have z := q2 hv
    have e : ((cz_of.getD 21 0 : Nat) : Int) = 100 := rfl
    rw [B155_5, e]
    first | (simp (disch := omega) only [Kk, Kt, GA, GR, GRc, GO, GI, GL, GV, am_w_i, am_ga, am_it, am_if, true_and, and_true, or_true, true_or, ne_eq, not_false_eq_true, not_true_eq_false, false_imp_iff, true_imp_iff, Int.reduceEq, Int.reduceLT, Int.reduceLE, Int.reduceAdd, Int.reduceSub, Int.reduceMul, Int.reduceNeg]; exact z) | simp (disch := omega) only [Kk, Kt, z, GA, GR, GRc, GO, GI, GL, GV, am_w_i, am_ga, am_it, am_if, true_and, and_true, or_true, true_or, ne_eq, not_false_eq_true, not_true_eq_false, false_imp_iff, true_imp_iff, Int.reduceEq, Int.reduceLT, Int.reduceLE, Int.reduceAdd, Int.reduceSub, Int.reduceMul, Int.reduceNeg]
def pk6 (T : Int → Int) (p : Int) (m : Nat) : Nat → Int
  | 0 => 0
  | i + 1 => pk6 T p m i * 32 + dgt T p m i
theorem pk6_b {T : Int → Int} {p : Int} {m : Nat} (h : ∀ i : Nat, i < m → isL (T (p + i))) : ∀ i : Nat, 0 ≤ pk6 T p m i ∧ pk6 T p m i < 32 ^ i
  | 0 => by simp [pk6]
  | i + 1 => by
    have ih := pk6_b h i
    have b := (dgt_b (i := i) h).1
    rw [pk6, Int.pow_succ]
    omega
theorem s160 {d : Nat} {w : Nat × Nat × Nat × Nat} {I L : Nat → Int → Int} {p : Int} {m : Nat} (hp : 0 ≤ p ∧ p + m ≤ 700) (hm : 1 ≤ m ∧ m ≤ 6) (hL : ∀ i : Nat, i < m → isL (I 100 (p + i))) (Q : Option am_V → am_H → Prop) : am_Sp d 160 [vR (some 99), vI p, vI (p + m)] (mkH w I L) Q ↔ Q (some (vI (P6 (I 100) p m))) (mkH w I L) := by
  refine am_det ?_ Q
  rw [S160]
  have key := am_loop (α := Unit) 6 (fun i _ => am_WP d 160 5 [some (vR (some 99)), some (vI p), some (vI (p + m)), some (vI (pk6 (I 100) p m i)), some (vI (p + i))] [] (mkH w I L) (fun r' h' => r' = some (vI (P6 (I 100) p m)) ∧ h' = mkH w I L)) (fun _ _ => True) (by
    intro i _ hi _ ih
    have z := ih () trivial
    have b := pk6_b hL i
    have b2 := (dgt_b (i := i) hL).1
    have hx : pk6 (I 100) p m i < 33554432 := by
      rcases (show i = 0 ∨ i = 1 ∨ i = 2 ∨ i = 3 ∨ i = 4 ∨ i = 5 by omega) with rfl | rfl | rfl | rfl | rfl | rfl <;> omega
    rw [pk6, show p + ((i + 1 : Nat) : Int) = p + i + 1 by omega] at z
    rw [B160_5]
    by_cases c : i < m
    · have e : dgt (I 100) p m i = I 100 (p + i) - 96 := by unfold dgt; rw [if_pos c]
      rw [e] at z b2
      first | (simp (disch := omega) only [Kk, Kt, B160_37, am_so b.1 hx (show 0 ≤ I 100 (p + i) - 96 ∧ I 100 (p + i) - 96 < 32 by omega), GA, GR, GRc, GO, GI, GL, GV, am_w_i, am_ga, am_it, am_if, true_and, and_true, or_true, true_or, ne_eq, not_false_eq_true, not_true_eq_false, false_imp_iff, true_imp_iff, Int.reduceEq, Int.reduceLT, Int.reduceLE, Int.reduceAdd, Int.reduceSub, Int.reduceMul, Int.reduceNeg]; exact z) | simp (disch := omega) only [Kk, Kt, B160_37, am_so b.1 hx (show 0 ≤ I 100 (p + i) - 96 ∧ I 100 (p + i) - 96 < 32 by omega), z, GA, GR, GRc, GO, GI, GL, GV, am_w_i, am_ga, am_it, am_if, true_and, and_true, or_true, true_or, ne_eq, not_false_eq_true, not_true_eq_false, false_imp_iff, true_imp_iff, Int.reduceEq, Int.reduceLT, Int.reduceLE, Int.reduceAdd, Int.reduceSub, Int.reduceMul, Int.reduceNeg]
    · have e : dgt (I 100) p m i = 0 := by unfold dgt; rw [if_neg c]
      rw [e] at z
      first | (simp (disch := omega) only [Kk, Kt, B160_37, am_so b.1 hx (show (0 : Int) ≤ 0 ∧ (0 : Int) < 32 by decide), GA, GR, GRc, GO, GI, GL, GV, am_w_i, am_ga, am_it, am_if, true_and, and_true, or_true, true_or, ne_eq, not_false_eq_true, not_true_eq_false, false_imp_iff, true_imp_iff, Int.reduceEq, Int.reduceLT, Int.reduceLE, Int.reduceAdd, Int.reduceSub, Int.reduceMul, Int.reduceNeg]; exact z) | simp (disch := omega) only [Kk, Kt, B160_37, am_so b.1 hx (show (0 : Int) ≤ 0 ∧ (0 : Int) < 32 by decide), z, GA, GR, GRc, GO, GI, GL, GV, am_w_i, am_ga, am_it, am_if, true_and, and_true, or_true, true_or, ne_eq, not_false_eq_true, not_true_eq_false, false_imp_iff, true_imp_iff, Int.reduceEq, Int.reduceLT, Int.reduceLE, Int.reduceAdd, Int.reduceSub, Int.reduceMul, Int.reduceNeg]) (by
    intro _ _
    have e : pk6 (I 100) p m 6 = P6 (I 100) p m := by rw [P6_e hm]; simp only [pk6]; omega
    rw [B160_5]
    simp (disch := omega) only [e, GA, GR, GRc, GO, GI, GL, GV, am_w_i, am_ga, am_it, am_if, true_and, and_true, or_true, true_or, ne_eq, not_false_eq_true, not_true_eq_false, false_imp_iff, true_imp_iff, Int.reduceEq, Int.reduceLT, Int.reduceLE, Int.reduceAdd, Int.reduceSub, Int.reduceMul, Int.reduceNeg])
  have k0 := key 0 () (Nat.zero_le _) trivial
  rw [show p + ((0 : Nat) : Int) = p by omega] at k0
  exact k0
