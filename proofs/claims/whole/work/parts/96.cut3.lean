/-! 96: the class cuts all -/
def Toks (T : Int → Int) (n : Int) (I : (Nat → Int → Int)) (k : Nat) (P : Nat → Int) : Prop := P 0 = 0 ∧ ∀ i : Nat, i < k → I 46 i ≠ 0 ∧ ∃ kd wh, Tok T n (P i) (I 48 i) (P (i + 1)) (I 46 i) (I 47 i) kd wh
theorem Toks.st {T : Int → Int} {n p j s v kd wh : Int} {I : (Nat → Int → Int)} {k : Nat} {P : Nat → Int} (h : Toks T n I k P) (ht : Tok T n (P k) p j s v kd wh) (hs : s ≠ 0) : Toks T n (apd I k s v p) (k + 1) (fun i => if i = k + 1 then j else P i) := by
  refine ⟨by dsimp only; rw [if_neg (by omega)]; exact h.1, fun i hi => ?_⟩
  dsimp only
  by_cases e : i = k
  · subst e
    obtain ⟨a1, a2, a3, -⟩ := apd_s (I := I) (k := (i : Int)) (s := s) (v := v) (p := p)
    rw [a1, a2, a3, if_neg (by omega), if_pos rfl]
    exact ⟨hs, kd, wh, ht⟩
  · obtain ⟨a1, a2, a3⟩ := apd_n (I := I) (k := (k : Int)) (s := s) (v := v) (p := p) (i := (i : Int)) (by omega)
    rw [a1, a2, a3, if_neg (by omega), if_neg (by omega)]
    exact h.2 i (by omega)
set_option maxHeartbeats 1000000 in
theorem s76 {d : Nat} {w : Nat × Nat × Nat × Nat} {I L : Nat → Int → Int} {T : Int → Int} {n : Int} (hT : TB n T I) (hX : GX I) (hn : 0 ≤ n) {Q : Option am_V → am_H → Prop} (q : ∀ I' (K : Nat) P, Toks T n I' K P → K ≤ 700 → I' 46 K = 0 → I' 48 K = n → (P K ≤ n ∧ ∀ x, P K ≤ x → x < n → T x = 10 ∨ T x = 32) → (∀ a, a ≠ 45 → a ≠ 46 → a ≠ 47 → a ≠ 48 → I' a = I a) → Q none (mkH w I' L)) : am_Sp (d + 3) 76 [vR (some 45), vR (some 1), vI n] (mkH w I L) Q := by
  have n7 := hT.1
  have main : ∀ (r : Nat) (at' : Int) (k : Nat) (P : Nat → Int) (I1 : (Nat → Int → Int)) (l4 : Option am_V), 0 ≤ at' ∧ at' ≤ n → n - at' ≤ r → I1 45 3 = k → Toks T n I1 k P → ((k : Int) ≤ P k ∧ P k ≤ at') → (∀ x, P k ≤ x → x < at' → T x = 10 ∨ T x = 32) → (∀ a, a ≠ 45 → a ≠ 46 → a ≠ 47 → a ≠ 48 → I1 a = I a) → am_WP (d + 3) 76 7 [some (vR (some 45)), some (vR (some 1)), some (vI n), some (vI at'), l4] [] (mkH w I1 L) Q := by
    intro r
    induction r with
    | zero =>
      intro at' k P I1 l4 h1 h2 h3 h4 h5 h6 h7
      obtain rfl : at' = n := by omega
      obtain ⟨a1, a2, a3, -⟩ := apd_s (I := I1) (k := (k : Int)) (s := 0) (v := 0) (p := at')
      have z := q (apd I1 k 0 0 at') k P ⟨h4.1, fun i hi => by
        obtain ⟨b1, b2, b3⟩ := apd_n (I := I1) (k := (k : Int)) (s := 0) (v := 0) (p := at') (i := (i : Int)) (by omega)
        rw [b1, b2, b3]; exact h4.2 i hi⟩ (by omega) a1 a3 ⟨h5.2, h6⟩ (fun a x1 x2 x3 x4 => by rw [apd_a x1 x2 x3 x4]; exact h7 a x1 x2 x3 x4)
      rw [B76_7]
      first | (simp (disch := omega) only [B76_101, KP, s79 h3 (show (0 : Int) ≤ k ∧ (k : Int) ≤ 700 by omega), GA, GR, GRc, GO, GI, GL, GV, am_w_i, am_ga, am_it, am_if, true_and, and_true, or_true, true_or, ne_eq, not_false_eq_true, not_true_eq_false, false_imp_iff, true_imp_iff, Int.reduceEq, Int.reduceLT, Int.reduceLE, Int.reduceAdd, Int.reduceSub, Int.reduceMul, Int.reduceNeg]; exact z) | simp (disch := omega) only [B76_101, KP, s79 h3 (show (0 : Int) ≤ k ∧ (k : Int) ≤ 700 by omega), z, GA, GR, GRc, GO, GI, GL, GV, am_w_i, am_ga, am_it, am_if, true_and, and_true, or_true, true_or, ne_eq, not_false_eq_true, not_true_eq_false, false_imp_iff, true_imp_iff, Int.reduceEq, Int.reduceLT, Int.reduceLE, Int.reduceAdd, Int.reduceSub, Int.reduceMul, Int.reduceNeg]
    | succ r ih =>
      intro at' k P I1 l4 h1 h2 h3 h4 h5 h6 h7
      by_cases ce : at' = n
      · exact (by
          subst ce
          obtain ⟨a1, a2, a3, -⟩ := apd_s (I := I1) (k := (k : Int)) (s := 0) (v := 0) (p := at')
          have z := q (apd I1 k 0 0 at') k P ⟨h4.1, fun i hi => by
            obtain ⟨b1, b2, b3⟩ := apd_n (I := I1) (k := (k : Int)) (s := 0) (v := 0) (p := at') (i := (i : Int)) (by omega)
            rw [b1, b2, b3]; exact h4.2 i hi⟩ (by omega) a1 a3 ⟨h5.2, h6⟩ (fun a x1 x2 x3 x4 => by rw [apd_a x1 x2 x3 x4]; exact h7 a x1 x2 x3 x4)
          rw [B76_7]
          first | (simp (disch := omega) only [B76_101, KP, s79 h3 (show (0 : Int) ≤ k ∧ (k : Int) ≤ 700 by omega), GA, GR, GRc, GO, GI, GL, GV, am_w_i, am_ga, am_it, am_if, true_and, and_true, or_true, true_or, ne_eq, not_false_eq_true, not_true_eq_false, false_imp_iff, true_imp_iff, Int.reduceEq, Int.reduceLT, Int.reduceLE, Int.reduceAdd, Int.reduceSub, Int.reduceMul, Int.reduceNeg]; exact z) | simp (disch := omega) only [B76_101, KP, s79 h3 (show (0 : Int) ≤ k ∧ (k : Int) ≤ 700 by omega), z, GA, GR, GRc, GO, GI, GL, GV, am_w_i, am_ga, am_it, am_if, true_and, and_true, or_true, true_or, ne_eq, not_false_eq_true, not_true_eq_false, false_imp_iff, true_imp_iff, Int.reduceEq, Int.reduceLT, Int.reduceLE, Int.reduceAdd, Int.reduceSub, Int.reduceMul, Int.reduceNeg])
      · have hT1 : TB n T I1 := hT.fr (h7 1 (by decide) (by decide) (by decide) (by decide))
        have hX1 : GX I1 := by unfold GX at hX ⊢; rw [h7 49 (by decide) (by decide) (by decide) (by decide), h7 101 (by decide) (by decide) (by decide) (by decide)]; exact hX
        have tp := hT1.2 at' h1.1 (by omega)
        have kb : (0 : Int) ≤ k ∧ (k : Int) ≤ 700 := by omega
        have go : ∀ j s v kd wh, Tk T n at' j s v kd wh → T at' ≠ 10 → T at' ≠ 32 → am_WP (d + 3) 76 95 [some (vR (some 45)), some (vR (some 1)), some (vI n), some (vI (j - 1)), some (vI (I1 1 at'))] [] (mkH w (apd I1 k s v at') L) Q := by
          intro j s v kd wh tk t1 t2
          have tj := tk.j (by omega)
          have z := ih j (k + 1) (fun i => if i = k + 1 then j else P i) (apd I1 k s v at') (some (vI (I1 1 at'))) (by omega) (by omega) (by
            rw [apd_s.2.2.2]; omega) (h4.st ⟨⟨h5.2, h1.2, h6⟩, Or.inr ⟨by omega, t1, t2, tk⟩⟩ tj.2.2.1) (by rw [if_pos rfl]; omega) (fun x x0 x1 => by rw [if_pos rfl] at x0; omega) (fun a x1 x2 x3 x4 => by rw [apd_a x1 x2 x3 x4]; exact h7 a x1 x2 x3 x4)
          have ej : j - 1 + 1 = j := by omega
          rw [B76_95]
          first | (simp (disch := omega) only [ej, GA, GR, GRc, GO, GI, GL, GV, am_w_i, am_ga, am_it, am_if, true_and, and_true, or_true, true_or, ne_eq, not_false_eq_true, not_true_eq_false, false_imp_iff, true_imp_iff, Int.reduceEq, Int.reduceLT, Int.reduceLE, Int.reduceAdd, Int.reduceSub, Int.reduceMul, Int.reduceNeg]; exact z) | simp (disch := omega) only [ej, z, GA, GR, GRc, GO, GI, GL, GV, am_w_i, am_ga, am_it, am_if, true_and, and_true, or_true, true_or, ne_eq, not_false_eq_true, not_true_eq_false, false_imp_iff, true_imp_iff, Int.reduceEq, Int.reduceLT, Int.reduceLE, Int.reduceAdd, Int.reduceSub, Int.reduceMul, Int.reduceNeg]
        have ea : ∀ j : Int, at' + (j - at' - 1) = j - 1 := fun j => by omega
        have eb : ∀ j : Int, at' + (j - at' + -1) = j - 1 := fun j => by omega
        rw [B76_7]
        by_cases cl : isL (T at')
        · have il : (97 ≤ I1 1 at' ∧ I1 1 at' ≤ 122) := by unfold isL at cl; omega
          simp (disch := omega) only [KX, s77, il, if_true, KP, GA, GR, GRc, GO, GI, GL, GV, am_w_i, am_ga, am_it, am_if, true_and, and_true, or_true, true_or, ne_eq, not_false_eq_true, not_true_eq_false, false_imp_iff, true_imp_iff, Int.reduceEq, Int.reduceLT, Int.reduceLE, Int.reduceAdd, Int.reduceSub, Int.reduceMul, Int.reduceNeg]
          refine s80 hT1 hX1 (by omega) cl h3 kb (fun j s v kd wh hh => ?_)
          have z := go j s v kd wh (Or.inl hh) (by unfold isL at cl; omega) (by unfold isL at cl; omega)
          have tj := Tk.j (Or.inl hh) (by omega)
          first | (simp (disch := omega) only [ea, GA, GR, GRc, GO, GI, GL, GV, am_w_i, am_ga, am_it, am_if, true_and, and_true, or_true, true_or, ne_eq, not_false_eq_true, not_true_eq_false, false_imp_iff, true_imp_iff, Int.reduceEq, Int.reduceLT, Int.reduceLE, Int.reduceAdd, Int.reduceSub, Int.reduceMul, Int.reduceNeg]; exact z) | simp (disch := omega) only [ea, z, GA, GR, GRc, GO, GI, GL, GV, am_w_i, am_ga, am_it, am_if, true_and, and_true, or_true, true_or, ne_eq, not_false_eq_true, not_true_eq_false, false_imp_iff, true_imp_iff, Int.reduceEq, Int.reduceLT, Int.reduceLE, Int.reduceAdd, Int.reduceSub, Int.reduceMul, Int.reduceNeg]
        · have il : ¬ (97 ≤ I1 1 at' ∧ I1 1 at' ≤ 122) := by unfold isL at cl; omega
          by_cases cd : isD (T at')
          · have id' : (48 ≤ I1 1 at' ∧ I1 1 at' ≤ 57) := by unfold isD at cd; omega
            simp (disch := omega) only [KX, s77, il, if_false, s78, id', if_true, KP, GA, GR, GRc, GO, GI, GL, GV, am_w_i, am_ga, am_it, am_if, true_and, and_true, or_true, true_or, ne_eq, not_false_eq_true, not_true_eq_false, false_imp_iff, true_imp_iff, Int.reduceEq, Int.reduceLT, Int.reduceLE, Int.reduceAdd, Int.reduceSub, Int.reduceMul, Int.reduceNeg]
            refine s81 hT1 (by omega) cd h3 kb (fun j s v kd wh hh => ?_)
            have z := go j s v kd wh (Or.inr (Or.inl hh)) (by unfold isD at cd; omega) (by unfold isD at cd; omega)
            have tj := Tk.j (Or.inr (Or.inl hh)) (by omega)
            first | (simp (disch := omega) only [ea, GA, GR, GRc, GO, GI, GL, GV, am_w_i, am_ga, am_it, am_if, true_and, and_true, or_true, true_or, ne_eq, not_false_eq_true, not_true_eq_false, false_imp_iff, true_imp_iff, Int.reduceEq, Int.reduceLT, Int.reduceLE, Int.reduceAdd, Int.reduceSub, Int.reduceMul, Int.reduceNeg]; exact z) | simp (disch := omega) only [ea, z, GA, GR, GRc, GO, GI, GL, GV, am_w_i, am_ga, am_it, am_if, true_and, and_true, or_true, true_or, ne_eq, not_false_eq_true, not_true_eq_false, false_imp_iff, true_imp_iff, Int.reduceEq, Int.reduceLT, Int.reduceLE, Int.reduceAdd, Int.reduceSub, Int.reduceMul, Int.reduceNeg]
          · have id' : ¬ (48 ≤ I1 1 at' ∧ I1 1 at' ≤ 57) := by unfold isD at cd; omega
            by_cases c10 : T at' = 10 ∨ T at' = 32
            · have z := ih (at' + 1) k P I1 (some (vI (I1 1 at'))) (by omega) (by omega) h3 h4 (by omega) (fun x x0 x1 => by
                by_cases ex : x = at'
                · subst ex; exact c10
                · exact h6 x x0 (by omega)) h7
              rcases (show I1 1 at' = 32 ∨ I1 1 at' = 10 by omega) with e | e
              · rw [e] at z
                first | (simp (disch := omega) only [KX, s77, s78, e, if_false, B76_95, GA, GR, GRc, GO, GI, GL, GV, am_w_i, am_ga, am_it, am_if, true_and, and_true, or_true, true_or, ne_eq, not_false_eq_true, not_true_eq_false, false_imp_iff, true_imp_iff, Int.reduceEq, Int.reduceLT, Int.reduceLE, Int.reduceAdd, Int.reduceSub, Int.reduceMul, Int.reduceNeg]; exact z) | simp (disch := omega) only [KX, s77, s78, e, if_false, B76_95, z, GA, GR, GRc, GO, GI, GL, GV, am_w_i, am_ga, am_it, am_if, true_and, and_true, or_true, true_or, ne_eq, not_false_eq_true, not_true_eq_false, false_imp_iff, true_imp_iff, Int.reduceEq, Int.reduceLT, Int.reduceLE, Int.reduceAdd, Int.reduceSub, Int.reduceMul, Int.reduceNeg]
              · rw [e] at z
                first | (simp (disch := omega) only [KX, s77, s78, e, if_false, B76_95, GA, GR, GRc, GO, GI, GL, GV, am_w_i, am_ga, am_it, am_if, true_and, and_true, or_true, true_or, ne_eq, not_false_eq_true, not_true_eq_false, false_imp_iff, true_imp_iff, Int.reduceEq, Int.reduceLT, Int.reduceLE, Int.reduceAdd, Int.reduceSub, Int.reduceMul, Int.reduceNeg]; exact z) | simp (disch := omega) only [KX, s77, s78, e, if_false, B76_95, z, GA, GR, GRc, GO, GI, GL, GV, am_w_i, am_ga, am_it, am_if, true_and, and_true, or_true, true_or, ne_eq, not_false_eq_true, not_true_eq_false, false_imp_iff, true_imp_iff, Int.reduceEq, Int.reduceLT, Int.reduceLE, Int.reduceAdd, Int.reduceSub, Int.reduceMul, Int.reduceNeg]
            · have e1 : ¬ I1 1 at' = 32 := by omega
              have e2 : ¬ I1 1 at' = 10 := by omega
              simp (disch := omega) only [KX, s77, il, if_false, s78, id', e1, e2, KP, GA, GR, GRc, GO, GI, GL, GV, am_w_i, am_ga, am_it, am_if, true_and, and_true, or_true, true_or, ne_eq, not_false_eq_true, not_true_eq_false, false_imp_iff, true_imp_iff, Int.reduceEq, Int.reduceLT, Int.reduceLE, Int.reduceAdd, Int.reduceSub, Int.reduceMul, Int.reduceNeg]
              refine s82 hT1 (by omega) h3 kb (fun j s v kd wh hh => ?_)
              have z := go j s v kd wh (Or.inr (Or.inr ⟨cl, cd, hh⟩)) (by omega) (by omega)
              have tj := Tk.j (v := v) (Or.inr (Or.inr ⟨cl, cd, hh⟩)) (by omega)
              first | (simp (disch := omega) only [ea, GA, GR, GRc, GO, GI, GL, GV, am_w_i, am_ga, am_it, am_if, true_and, and_true, or_true, true_or, ne_eq, not_false_eq_true, not_true_eq_false, false_imp_iff, true_imp_iff, Int.reduceEq, Int.reduceLT, Int.reduceLE, Int.reduceAdd, Int.reduceSub, Int.reduceMul, Int.reduceNeg]; exact z) | simp (disch := omega) only [ea, z, GA, GR, GRc, GO, GI, GL, GV, am_w_i, am_ga, am_it, am_if, true_and, and_true, or_true, true_or, ne_eq, not_false_eq_true, not_true_eq_false, false_imp_iff, true_imp_iff, Int.reduceEq, Int.reduceLT, Int.reduceLE, Int.reduceAdd, Int.reduceSub, Int.reduceMul, Int.reduceNeg]
  rw [S76]
  simp (disch := omega) only [KP, B76_5, GA, GR, GRc, GO, GI, GL, GV, am_w_i, am_ga, am_it, am_if, true_and, and_true, or_true, true_or, ne_eq, not_false_eq_true, not_true_eq_false, false_imp_iff, true_imp_iff, Int.reduceEq, Int.reduceLT, Int.reduceLE, Int.reduceAdd, Int.reduceSub, Int.reduceMul, Int.reduceNeg]
  exact main n.toNat 0 0 (fun _ => 0) (am_up I 45 3 0) none (by omega) (by omega) (am_up_s _ _ _ _) ⟨rfl, fun i hi => by omega⟩ ⟨by omega, by omega⟩ (fun x x0 x1 => by omega) (fun a x1 _ _ _ => am_up_a _ _ _ _ x1)
