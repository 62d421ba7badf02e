/-! a4: the reference keeps a text -/
def KCp (m : Nat) (I J : (Nat → Int → Int)) : Prop := ∀ a, (102 ≤ a ∧ a < m ∧ a ≠ 115 → ∀ j, 0 ≤ j → j < hfN a → J a j = I a (hfN a + j)) ∧ (¬ (102 ≤ a ∧ a < m ∧ a ≠ 115) → J a = I a)
theorem KCp.o {I : (Nat → Int → Int)} : KCp 102 I I := fun a => ⟨fun h => absurd h (by omega), fun _ => rfl⟩
theorem KCp.st {m : Nat} {I J : (Nat → Int → Int)} {n : Int} (h : KCp m I J) (hm : 102 ≤ m ∧ m ≠ 115) (hn : hfN m = n) : KCp (m + 1) I (cz_cp J m n m 0 n) := fun a => by
  refine ⟨fun ha j j0 j1 => ?_, fun ha => ?_⟩
  · by_cases c : a = m
    · subst c
      rw [hn] at j1 ⊢
      rw [cz_cp_b _ _ _ _ _ _ j0 (by omega), (h a).2 (by omega)]; congr 1; omega
    · rw [cz_cp_a _ _ _ _ _ _ c]; exact (h a).1 (by omega) j j0 j1
  · rw [cz_cp_a _ _ _ _ _ _ (show a ≠ m by omega)]; exact (h a).2 (by omega)
theorem KCp.sk {I J : (Nat → Int → Int)} (h : KCp 115 I J) : KCp 116 I J := fun a => ⟨fun ha => (h a).1 (by omega), fun ha => (h a).2 (by omega)⟩
def KTx (I J : (Nat → Int → Int)) : Prop := (∀ a, a ≠ 99 → ¬ (102 ≤ a ∧ a ≤ 122 ∧ a ≠ 115) → J a = I a) ∧ (∀ x, ¬ (12 ≤ x ∧ x ≤ 15) → J 99 x = I 99 x) ∧ (J 99 12 = I 99 16 ∧ J 99 13 = I 99 17 ∧ J 99 14 = I 99 18 ∧ J 99 15 = I 99 20) ∧ ∀ a j, 102 ≤ a → a ≤ 122 → a ≠ 115 → 0 ≤ j → j < hfN a → J a j = I a (hfN a + j)
def cz_bn (I : (Nat → Int → Int)) : (Nat → Int → Int) := am_up (am_up (am_up (am_up (cz_pl (cz_af I 0)) 99 70 0) 99 71 (-1)) 99 74 0) 99 76 0
theorem s195 {d : Nat} {w : Nat × Nat × Nat × Nat} {I L : Nat → Int → Int} (Q : Option am_V → am_H → Prop) : am_Sp (d + 1) 195 [vR (some 99)] (mkH w I L) Q ↔ Q none (mkH w (cz_bn I) (am_up L 99 59 (I 102 0))) := by
  have e : cz_af I 0 102 = I 102 := cz_af_at.1 102 (by omega)
  rw [S195]
  simp (disch := omega) only [s196 (Or.inl rfl), Kk, Kw, e, B195_16, s197, B195_25, B195_30, B195_35, cz_bn, GA, GR, GRc, GO, GI, GL, GV, am_w_i, am_ga, am_it, am_if, true_and, and_true, or_true, true_or, ne_eq, not_false_eq_true, not_true_eq_false, false_imp_iff, true_imp_iff, Int.reduceEq, Int.reduceLT, Int.reduceLE, Int.reduceAdd, Int.reduceSub, Int.reduceMul, Int.reduceNeg]
theorem KCp.kt {I I0 J : (Nat → Int → Int)} (k7 : KCp 123 I0 J) (f0 : ∀ a, a ≠ 99 → I0 a = I a) (g0 : ∀ x, ¬ (12 ≤ x ∧ x ≤ 15) → I0 99 x = I 99 x) (g1 : I0 99 12 = I 99 16 ∧ I0 99 13 = I 99 17 ∧ I0 99 14 = I 99 18 ∧ I0 99 15 = I 99 20) : KTx I J := ⟨fun a h1 h2 => by rw [(k7 a).2 (by omega), f0 a h1], fun x hx => by rw [(k7 99).2 (by omega)]; exact g0 x hx, by rw [(k7 99).2 (by omega)]; exact g1, fun a j h1 h2 h3 h4 h5 => by rw [(k7 a).1 (by omega) j h4 h5, f0 a (by omega)]⟩
set_option maxHeartbeats 2000000 in
theorem s167 {d : Nat} {w : Nat × Nat × Nat × Nat} {I L : Nat → Int → Int} (hB : ∀ l, 0 ≤ l → l < 3 → I 117 (3 + l) = 0 ∨ I 117 (3 + l) = 1) {Q : Option am_V → am_H → Prop} (q : ∀ J, KTx I J → Q none (mkH w (cz_bn J) (am_up L 99 59 (J 102 0)))) : am_Sp (d + 2) 167 [vR (some 99)] (mkH w I L) Q := by
  rw [S167]
  simp (disch := omega) only [Kk, B167_8, B167_16, B167_24, am_up_n, GA, GR, GRc, GO, GI, GL, GV, am_w_i, am_ga, am_it, am_if, true_and, and_true, or_true, true_or, ne_eq, not_false_eq_true, not_true_eq_false, false_imp_iff, true_imp_iff, Int.reduceEq, Int.reduceLT, Int.reduceLE, Int.reduceAdd, Int.reduceSub, Int.reduceMul, Int.reduceNeg]
  generalize e0 : am_up (am_up (am_up (am_up I 99 12 (I 99 16)) 99 13 (I 99 17)) 99 14 (I 99 18)) 99 15 (I 99 20) = I0
  have f0 : ∀ a, a ≠ 99 → I0 a = I a := fun a h1 => by rw [← e0]; simp (disch := assumption) only [am_up_a]
  have g0 : ∀ x, ¬ (12 ≤ x ∧ x ≤ 15) → I0 99 x = I 99 x := fun x h1 => by rw [← e0]; simp (disch := omega) only [am_up_n]
  have g1 : I0 99 12 = I 99 16 ∧ I0 99 13 = I 99 17 ∧ I0 99 14 = I 99 18 ∧ I0 99 15 = I 99 20 := by rw [← e0]; simp (disch := decide) only [am_up_n, am_up_s, and_self]
  clear e0
  have key : ∀ J, KCp 117 I0 J → am_WP (d + 2) 167 158 [some (vR (some 99)), some (vI 0)] [] (mkH w J L) Q := by
    intro I1 k1
    have e117 : I1 117 = I 117 := by rw [(k1 117).2 (by omega), f0 117 (by decide)]
    refine am_loop (α := (Nat → Int → Int)) 3 (fun i J => am_WP (d + 2) 167 158 [some (vR (some 99)), some (vI (i : Int))] [] (mkH w J L) Q) (fun i J => (∀ a, a ≠ 117 → J a = I1 a) ∧ (∀ j, 3 ≤ j → J 117 j = I1 117 j) ∧ ∀ j, 0 ≤ j → j < (i : Int) → J 117 j = I1 117 (3 + j)) ?_ ?_ 0 I1 (Nat.zero_le _) ⟨fun _ _ => rfl, fun _ _ => rfl, fun j h1 h2 => by omega⟩
    · intro i J hi ⟨l1, l2, l3⟩ ih
      have b : J 117 (3 + (i : Int)) = 0 ∨ J 117 (3 + (i : Int)) = 1 := by rw [l2 _ (by omega), e117]; exact hB i (by omega) (by omega)
      rw [B167_158]
      simp (disch := omega) only [Kk, Kl, b, B167_177, GA, GR, GRc, GO, GI, GL, GV, am_w_i, am_ga, am_it, am_if, true_and, and_true, or_true, true_or, ne_eq, not_false_eq_true, not_true_eq_false, false_imp_iff, true_imp_iff, Int.reduceEq, Int.reduceLT, Int.reduceLE, Int.reduceAdd, Int.reduceSub, Int.reduceMul, Int.reduceNeg]
      refine ih (am_up J 117 (i : Int) (J 117 (3 + (i : Int)))) ⟨fun a ha => by rw [am_up_a _ _ _ _ ha]; exact l1 a ha, fun j hj => by rw [am_up_n _ _ _ _ (by omega)]; exact l2 j hj, fun j h1 h2 => ?_⟩
      by_cases ej : j = i
      · subst ej; rw [am_up_s]; exact l2 _ (by omega)
      · rw [am_up_n _ _ _ _ ej]; exact l3 j h1 (by omega)
    · intro I2 ⟨l1, l2, l3⟩
      have k2 : KCp 118 I0 I2 := fun a => by
        refine ⟨fun ha j j0 j1 => ?_, fun ha => ?_⟩
        · by_cases c : a = 117
          · subst c; rw [l3 j j0 j1, (k1 117).2 (by omega)]; rfl
          · rw [l1 a c]; exact (k1 a).1 (by omega) j j0 j1
        · rw [l1 a (by omega)]; exact (k1 a).2 (by omega)
      have k7 := ((((k2.st (m := 118) (n := 3) (by decide) rfl).st (m := 119) (n := 3) (by decide) rfl).st (m := 120) (n := 64) (by decide) rfl).st (m := 121) (n := 64) (by decide) rfl).st (m := 122) (n := 64) (by decide) rfl
      have z := q _ (k7.kt f0 g0 g1)
      clear q k7 k2 k1 hB
      rw [B167_158]
      first | (simp (disch := omega) only [Kk, Kl, s166 (w := w) (L := L) (a := 118) (n := 3) (fun _ => rfl) (fun _ => rfl) (by decide), s166 (w := w) (L := L) (a := 119) (n := 3) (fun _ => rfl) (fun _ => rfl) (by decide), s166 (w := w) (L := L) (a := 120) (n := 64) (fun _ => rfl) (fun _ => rfl) (by decide), s166 (w := w) (L := L) (a := 121) (n := 64) (fun _ => rfl) (fun _ => rfl) (by decide), s166 (w := w) (L := L) (a := 122) (n := 64) (fun _ => rfl) (fun _ => rfl) (by decide), s195, GA, GR, GRc, GO, GI, GL, GV, am_w_i, am_ga, am_it, am_if, true_and, and_true, or_true, true_or, ne_eq, not_false_eq_true, not_true_eq_false, false_imp_iff, true_imp_iff, Int.reduceEq, Int.reduceLT, Int.reduceLE, Int.reduceAdd, Int.reduceSub, Int.reduceMul, Int.reduceNeg]; exact z) | simp (disch := omega) only [Kk, Kl, s166 (w := w) (L := L) (a := 118) (n := 3) (fun _ => rfl) (fun _ => rfl) (by decide), s166 (w := w) (L := L) (a := 119) (n := 3) (fun _ => rfl) (fun _ => rfl) (by decide), s166 (w := w) (L := L) (a := 120) (n := 64) (fun _ => rfl) (fun _ => rfl) (by decide), s166 (w := w) (L := L) (a := 121) (n := 64) (fun _ => rfl) (fun _ => rfl) (by decide), s166 (w := w) (L := L) (a := 122) (n := 64) (fun _ => rfl) (fun _ => rfl) (by decide), s195, z, GA, GR, GRc, GO, GI, GL, GV, am_w_i, am_ga, am_it, am_if, true_and, and_true, or_true, true_or, ne_eq, not_false_eq_true, not_true_eq_false, false_imp_iff, true_imp_iff, Int.reduceEq, Int.reduceLT, Int.reduceLE, Int.reduceAdd, Int.reduceSub, Int.reduceMul, Int.reduceNeg]
  have k102 := KCp.o (I := I0)
  have k103 := KCp.st (m := 102) (n := 1) k102 (by decide) rfl
  have k104 := KCp.st (m := 103) (n := 6) k103 (by decide) rfl
  have k105 := KCp.st (m := 104) (n := 6) k104 (by decide) rfl
  have k106 := KCp.st (m := 105) (n := 6) k105 (by decide) rfl
  have k107 := KCp.st (m := 106) (n := 12) k106 (by decide) rfl
  have k108 := KCp.st (m := 107) (n := 8) k107 (by decide) rfl
  have k109 := KCp.st (m := 108) (n := 8) k108 (by decide) rfl
  have k110 := KCp.st (m := 109) (n := 8) k109 (by decide) rfl
  have k111 := KCp.st (m := 110) (n := 8) k110 (by decide) rfl
  have k112 := KCp.st (m := 111) (n := 8) k111 (by decide) rfl
  have k113 := KCp.st (m := 112) (n := 12) k112 (by decide) rfl
  have k114 := KCp.st (m := 113) (n := 12) k113 (by decide) rfl
  have k115 := KCp.st (m := 114) (n := 12) k114 (by decide) rfl
  have k117 := KCp.st (m := 116) (n := 4) (KCp.sk k115) (by decide) rfl
  have z := key _ k117
  clear k103 k104 k105 k106 k107 k108 k109 k110 k111 k112 k113 k114 k115 k102 k117
  clear key q hB
  rw [B167_32]
  first | (simp (disch := omega) only [Kk, Kw, s166 (w := w) (L := L) (a := 102) (n := 1) (fun _ => rfl) (fun _ => rfl) (by decide), s166 (w := w) (L := L) (a := 103) (n := 6) (fun _ => rfl) (fun _ => rfl) (by decide), s166 (w := w) (L := L) (a := 104) (n := 6) (fun _ => rfl) (fun _ => rfl) (by decide), s166 (w := w) (L := L) (a := 105) (n := 6) (fun _ => rfl) (fun _ => rfl) (by decide), s166 (w := w) (L := L) (a := 106) (n := 12) (fun _ => rfl) (fun _ => rfl) (by decide), s166 (w := w) (L := L) (a := 107) (n := 8) (fun _ => rfl) (fun _ => rfl) (by decide), s166 (w := w) (L := L) (a := 108) (n := 8) (fun _ => rfl) (fun _ => rfl) (by decide), s166 (w := w) (L := L) (a := 109) (n := 8) (fun _ => rfl) (fun _ => rfl) (by decide), s166 (w := w) (L := L) (a := 110) (n := 8) (fun _ => rfl) (fun _ => rfl) (by decide), s166 (w := w) (L := L) (a := 111) (n := 8) (fun _ => rfl) (fun _ => rfl) (by decide), s166 (w := w) (L := L) (a := 112) (n := 12) (fun _ => rfl) (fun _ => rfl) (by decide), s166 (w := w) (L := L) (a := 113) (n := 12) (fun _ => rfl) (fun _ => rfl) (by decide), s166 (w := w) (L := L) (a := 114) (n := 12) (fun _ => rfl) (fun _ => rfl) (by decide), s166 (w := w) (L := L) (a := 116) (n := 4) (fun _ => rfl) (fun _ => rfl) (by decide), GA, GR, GRc, GO, GI, GL, GV, am_w_i, am_ga, am_it, am_if, true_and, and_true, or_true, true_or, ne_eq, not_false_eq_true, not_true_eq_false, false_imp_iff, true_imp_iff, Int.reduceEq, Int.reduceLT, Int.reduceLE, Int.reduceAdd, Int.reduceSub, Int.reduceMul, Int.reduceNeg]; exact z) | simp (disch := omega) only [Kk, Kw, s166 (w := w) (L := L) (a := 102) (n := 1) (fun _ => rfl) (fun _ => rfl) (by decide), s166 (w := w) (L := L) (a := 103) (n := 6) (fun _ => rfl) (fun _ => rfl) (by decide), s166 (w := w) (L := L) (a := 104) (n := 6) (fun _ => rfl) (fun _ => rfl) (by decide), s166 (w := w) (L := L) (a := 105) (n := 6) (fun _ => rfl) (fun _ => rfl) (by decide), s166 (w := w) (L := L) (a := 106) (n := 12) (fun _ => rfl) (fun _ => rfl) (by decide), s166 (w := w) (L := L) (a := 107) (n := 8) (fun _ => rfl) (fun _ => rfl) (by decide), s166 (w := w) (L := L) (a := 108) (n := 8) (fun _ => rfl) (fun _ => rfl) (by decide), s166 (w := w) (L := L) (a := 109) (n := 8) (fun _ => rfl) (fun _ => rfl) (by decide), s166 (w := w) (L := L) (a := 110) (n := 8) (fun _ => rfl) (fun _ => rfl) (by decide), s166 (w := w) (L := L) (a := 111) (n := 8) (fun _ => rfl) (fun _ => rfl) (by decide), s166 (w := w) (L := L) (a := 112) (n := 12) (fun _ => rfl) (fun _ => rfl) (by decide), s166 (w := w) (L := L) (a := 113) (n := 12) (fun _ => rfl) (fun _ => rfl) (by decide), s166 (w := w) (L := L) (a := 114) (n := 12) (fun _ => rfl) (fun _ => rfl) (by decide), s166 (w := w) (L := L) (a := 116) (n := 4) (fun _ => rfl) (fun _ => rfl) (by decide), z, GA, GR, GRc, GO, GI, GL, GV, am_w_i, am_ga, am_it, am_if, true_and, and_true, or_true, true_or, ne_eq, not_false_eq_true, not_true_eq_false, false_imp_iff, true_imp_iff, Int.reduceEq, Int.reduceLT, Int.reduceLE, Int.reduceAdd, Int.reduceSub, Int.reduceMul, Int.reduceNeg]
