/-! 72: settling; who -/
def px_rc (m : Nat) (kb : Int) : Nat := if 0 ≤ kb then kb.toNat else m
theorem px_rc_b {V T : (Nat → Int → Int)} {m : Nat} {kb : Int} (h : WT V T m kb) : px_rc m kb ≤ m ∧ px_rc m kb ≤ 24 := by
  obtain ⟨a, b, -⟩ := h
  unfold px_rc; split <;> omega
theorem s69 {d : Nat} {w : Nat × Nat × Nat × Nat} {I L : Nat → Int → Int} {V T : (Nat → Int → Int)} {m : Nat} {kb : Int} (hT : GDc T m kb I) (hw : WT V T m kb) (Q : Option am_V → am_H → Prop) : am_Sp d 69 [vR (some 92)] (mkH w I L) Q ↔ Q (some (vI (px_rc m kb))) (mkH w I L) := by
  have xa := hT.1
  have xb := hT.2.1
  have b := hw.2.1
  rw [S69]
  unfold px_rc
  by_cases c : 0 ≤ kb
  · have e : am_min kb m = kb := by unfold am_min; split <;> omega
    have e2 : ((kb.toNat : Nat) : Int) = kb := by omega
    simp (disch := omega) only [KT, xa, xb, c, B69_25, if_true, e, e2, GA, GR, GRc, GO, GI, GL, GV, am_w_i, am_ga, am_it, am_if, true_and, and_true, or_true, true_or, ne_eq, not_false_eq_true, not_true_eq_false, false_imp_iff, true_imp_iff, Int.reduceEq, Int.reduceLT, Int.reduceLE, Int.reduceAdd, Int.reduceSub, Int.reduceMul, Int.reduceNeg]
  · simp (disch := omega) only [KT, xa, xb, c, B69_25, if_false, GA, GR, GRc, GO, GI, GL, GV, am_w_i, am_ga, am_it, am_if, true_and, and_true, or_true, true_or, ne_eq, not_false_eq_true, not_true_eq_false, false_imp_iff, true_imp_iff, Int.reduceEq, Int.reduceLT, Int.reduceLE, Int.reduceAdd, Int.reduceSub, Int.reduceMul, Int.reduceNeg]
theorem s265 {d : Nat} {w : Nat × Nat × Nat × Nat} {I L : Nat → Int → Int} {V T : (Nat → Int → Int)} {m : Nat} {kb : Int} (hT : GDm T m kb I) (hw : WT V T m kb) (Q : Option am_V → am_H → Prop) : am_Sp d 265 [vR (some 99)] (mkH w I L) Q ↔ Q (some (vI (px_rc m kb))) (mkH w I L) := by
  have xa := hT.1
  have xb := hT.2.1
  have b := hw.2.1
  rw [S265]
  unfold px_rc
  by_cases c : 0 ≤ kb
  · have e2 : ((kb.toNat : Nat) : Int) = kb := by omega
    simp (disch := omega) only [Kk, xa, xb, c, B265_18, if_true, e2, GA, GR, GRc, GO, GI, GL, GV, am_w_i, am_ga, am_it, am_if, true_and, and_true, or_true, true_or, ne_eq, not_false_eq_true, not_true_eq_false, false_imp_iff, true_imp_iff, Int.reduceEq, Int.reduceLT, Int.reduceLE, Int.reduceAdd, Int.reduceSub, Int.reduceMul, Int.reduceNeg]
  · simp (disch := omega) only [Kk, xa, xb, c, B265_18, if_false, GA, GR, GRc, GO, GI, GL, GV, am_w_i, am_ga, am_it, am_if, true_and, and_true, or_true, true_or, ne_eq, not_false_eq_true, not_true_eq_false, false_imp_iff, true_imp_iff, Int.reduceEq, Int.reduceLT, Int.reduceLE, Int.reduceAdd, Int.reduceSub, Int.reduceMul, Int.reduceNeg]
/-- what counts after i struck from behind -/
def px_sd (T : (Nat → Int → Int)) (r : Nat) : Nat → Int → Int
  | 0 => fun j => if j < r then 1 else 0
  | i + 1 => if px_sd T r i ((r : Int) - 1 - i) ≠ 0 ∧ T 0 ((r : Int) - 1 - i) = 2 then fun j => if j = T 1 ((r : Int) - 1 - i) then 0 else px_sd T r i j else px_sd T r i
theorem s70 {d : Nat} {w : Nat × Nat × Nat × Nat} {I L : Nat → Int → Int} {V T : (Nat → Int → Int)} {m : Nat} {kb : Int} (hT : GDc T m kb I) (hw : WT V T m kb) {Q : Option am_V → am_H → Prop} (q : ∀ I', (∀ j, 0 ≤ j → j < 24 → I' 98 j = px_sd T (px_rc m kb) (px_rc m kb) j) → Fr (fun a => a = 98) I I' → Q none (mkH w I' L)) : am_Sp (d + 1) 70 [vR (some 92)] (mkH w I L) Q := by
  have hr := px_rc_b hw
  have fd : ∀ J, Fr (fun a => a = 98) I J → GDc T m kb J := fun J f => hT.fr (fun a _ _ => f a (by omega))
  generalize hrr : px_rc m kb = r at *
  have down : ∀ J0, (∀ j, 0 ≤ j → j < 24 → J0 98 j = px_sd T r 0 j) → Fr (fun a => a = 98) I J0 → am_WP (d + 1) 70 40 [some (vR (some 92)), some (vI ((r : Int) - 1))] [] (mkH w J0 L) Q := by
    intro J0 a0 b0
    have := am_loop (α := (Nat → Int → Int)) r (fun i J => am_WP (d + 1) 70 40 [some (vR (some 92)), some (vI ((r : Int) - 1 - (i : Int)))] [] (mkH w J L) Q) (fun i J => (∀ j, 0 ≤ j → j < 24 → J 98 j = px_sd T r i j) ∧ Fr (fun a => a = 98) I J) ?_ ?_ 0 J0 (Nat.zero_le _) ⟨a0, b0⟩
    · rw [show (r : Int) - 1 - ((0 : Nat) : Int) = r - 1 by omega] at this; exact this
    · intro i J hi ⟨j1, j3⟩ ih
      have t := (fd J j3).2.2 ((r : Int) - 1 - i) (by omega) (by omega)
      have wt := hw.2.2 ((r : Int) - 1 - i) (by omega) (by omega)
      have e0 := j1 ((r : Int) - 1 - i) (by omega) (by omega)
      have ei : (r : Int) - 1 - i + -1 = r - 1 - ((i + 1 : Nat) : Int) := by omega
      rw [B70_40]
      by_cases c0 : px_sd T r i ((r : Int) - 1 - i) = 0
      · have z := ih J ⟨fun j x y => by rw [px_sd, if_neg (by intro h; exact h.1 c0)]; exact j1 j x y, j3⟩
        first | (simp (disch := omega) only [KT, e0, c0, B70_75, ei, GA, GR, GRc, GO, GI, GL, GV, am_w_i, am_ga, am_it, am_if, true_and, and_true, or_true, true_or, ne_eq, not_false_eq_true, not_true_eq_false, false_imp_iff, true_imp_iff, Int.reduceEq, Int.reduceLT, Int.reduceLE, Int.reduceAdd, Int.reduceSub, Int.reduceMul, Int.reduceNeg]; exact z) | simp (disch := omega) only [KT, e0, c0, B70_75, ei, z, GA, GR, GRc, GO, GI, GL, GV, am_w_i, am_ga, am_it, am_if, true_and, and_true, or_true, true_or, ne_eq, not_false_eq_true, not_true_eq_false, false_imp_iff, true_imp_iff, Int.reduceEq, Int.reduceLT, Int.reduceLE, Int.reduceAdd, Int.reduceSub, Int.reduceMul, Int.reduceNeg]
      · by_cases c2 : T 0 ((r : Int) - 1 - i) = 2
        · have w1 := wt.2.2.1 c2
          have z := ih (am_up J 98 (T 1 ((r : Int) - 1 - i)) 0) ⟨fun j x y => by
            rw [px_sd, if_pos ⟨c0, c2⟩]
            by_cases ej : j = T 1 ((r : Int) - 1 - i)
            · rw [if_pos ej, ej, am_up_s]
            · rw [if_neg ej, am_up_n _ _ _ _ ej]; exact j1 j x y, j3.up rfl⟩
          have t0 : J 93 ((r : Int) - 1 - i) = 2 := t.1.trans c2
          first | (simp (disch := omega) only [KT, e0, c0, t0, t.2.1, B70_75, ei, GA, GR, GRc, GO, GI, GL, GV, am_w_i, am_ga, am_it, am_if, true_and, and_true, or_true, true_or, ne_eq, not_false_eq_true, not_true_eq_false, false_imp_iff, true_imp_iff, Int.reduceEq, Int.reduceLT, Int.reduceLE, Int.reduceAdd, Int.reduceSub, Int.reduceMul, Int.reduceNeg]; exact z) | simp (disch := omega) only [KT, e0, c0, t0, t.2.1, B70_75, ei, z, GA, GR, GRc, GO, GI, GL, GV, am_w_i, am_ga, am_it, am_if, true_and, and_true, or_true, true_or, ne_eq, not_false_eq_true, not_true_eq_false, false_imp_iff, true_imp_iff, Int.reduceEq, Int.reduceLT, Int.reduceLE, Int.reduceAdd, Int.reduceSub, Int.reduceMul, Int.reduceNeg]
        · have z := ih J ⟨fun j x y => by rw [px_sd, if_neg (by intro h; exact c2 h.2)]; exact j1 j x y, j3⟩
          first | (simp (disch := omega) only [KT, e0, c0, t.1, c2, B70_75, ei, GA, GR, GRc, GO, GI, GL, GV, am_w_i, am_ga, am_it, am_if, true_and, and_true, or_true, true_or, ne_eq, not_false_eq_true, not_true_eq_false, false_imp_iff, true_imp_iff, Int.reduceEq, Int.reduceLT, Int.reduceLE, Int.reduceAdd, Int.reduceSub, Int.reduceMul, Int.reduceNeg]; exact z) | simp (disch := omega) only [KT, e0, c0, t.1, c2, B70_75, ei, z, GA, GR, GRc, GO, GI, GL, GV, am_w_i, am_ga, am_it, am_if, true_and, and_true, or_true, true_or, ne_eq, not_false_eq_true, not_true_eq_false, false_imp_iff, true_imp_iff, Int.reduceEq, Int.reduceLT, Int.reduceLE, Int.reduceAdd, Int.reduceSub, Int.reduceMul, Int.reduceNeg]
    · intro J ⟨j1, j3⟩
      have z := q J j1 j3
      rw [B70_40]
      first | (simp (disch := omega) only [GA, GR, GRc, GO, GI, GL, GV, am_w_i, am_ga, am_it, am_if, true_and, and_true, or_true, true_or, ne_eq, not_false_eq_true, not_true_eq_false, false_imp_iff, true_imp_iff, Int.reduceEq, Int.reduceLT, Int.reduceLE, Int.reduceAdd, Int.reduceSub, Int.reduceMul, Int.reduceNeg]; exact z) | simp (disch := omega) only [z, GA, GR, GRc, GO, GI, GL, GV, am_w_i, am_ga, am_it, am_if, true_and, and_true, or_true, true_or, ne_eq, not_false_eq_true, not_true_eq_false, false_imp_iff, true_imp_iff, Int.reduceEq, Int.reduceLT, Int.reduceLE, Int.reduceAdd, Int.reduceSub, Int.reduceMul, Int.reduceNeg]
  rw [S70]
  refine am_loop (α := (Nat → Int → Int)) 24 (fun i J => am_WP (d + 1) 70 2 [some (vR (some 92)), some (vI (i : Int))] [] (mkH w J L) Q) (fun i J => (∀ j, 0 ≤ j → j < (i : Int) → J 98 j = if j < (r : Int) then 1 else 0) ∧ Fr (fun a => a = 98) I J) ?_ ?_ 0 I (Nat.zero_le _) ⟨fun j h1 h2 => by omega, Fr.rf⟩
  · intro i J hi ⟨j1, j3⟩ ih
    rw [B70_2]
    have nx : ∀ v, (v = if (i : Int) < (r : Int) then (1 : Int) else 0) → am_WP (d + 1) 70 2 [some (vR (some 92)), some (vI ((i + 1 : Nat) : Int))] [] (mkH w (am_up J 98 i v) L) Q := by
      intro v hv
      refine ih _ ⟨fun j h1 h2 => ?_, j3.up rfl⟩
      by_cases ej : j = i
      · subst ej; rw [am_up_s, hv]
      · rw [am_up_n _ _ _ _ (by omega)]; exact j1 j h1 (by omega)
    by_cases c : (r : Int) ≤ i
    · have z := nx 0 (by rw [if_neg (by omega)])
      first | (simp (disch := omega) only [KT, s69 (fd J j3) hw, hrr, c, B70_26, B70_27, GA, GR, GRc, GO, GI, GL, GV, am_w_i, am_ga, am_it, am_if, true_and, and_true, or_true, true_or, ne_eq, not_false_eq_true, not_true_eq_false, false_imp_iff, true_imp_iff, Int.reduceEq, Int.reduceLT, Int.reduceLE, Int.reduceAdd, Int.reduceSub, Int.reduceMul, Int.reduceNeg]; exact z) | simp (disch := omega) only [KT, s69 (fd J j3) hw, hrr, c, B70_26, B70_27, z, GA, GR, GRc, GO, GI, GL, GV, am_w_i, am_ga, am_it, am_if, true_and, and_true, or_true, true_or, ne_eq, not_false_eq_true, not_true_eq_false, false_imp_iff, true_imp_iff, Int.reduceEq, Int.reduceLT, Int.reduceLE, Int.reduceAdd, Int.reduceSub, Int.reduceMul, Int.reduceNeg]
    · have z := nx 1 (by rw [if_pos (by omega)])
      first | (simp (disch := omega) only [KT, s69 (fd J j3) hw, hrr, c, B70_26, B70_27, GA, GR, GRc, GO, GI, GL, GV, am_w_i, am_ga, am_it, am_if, true_and, and_true, or_true, true_or, ne_eq, not_false_eq_true, not_true_eq_false, false_imp_iff, true_imp_iff, Int.reduceEq, Int.reduceLT, Int.reduceLE, Int.reduceAdd, Int.reduceSub, Int.reduceMul, Int.reduceNeg]; exact z) | simp (disch := omega) only [KT, s69 (fd J j3) hw, hrr, c, B70_26, B70_27, z, GA, GR, GRc, GO, GI, GL, GV, am_w_i, am_ga, am_it, am_if, true_and, and_true, or_true, true_or, ne_eq, not_false_eq_true, not_true_eq_false, false_imp_iff, true_imp_iff, Int.reduceEq, Int.reduceLT, Int.reduceLE, Int.reduceAdd, Int.reduceSub, Int.reduceMul, Int.reduceNeg]
  · intro J ⟨j1, j3⟩
    have z := down J j1 j3
    rw [B70_2]
    first | (simp (disch := omega) only [KT, s69 (fd J j3) hw, hrr, GA, GR, GRc, GO, GI, GL, GV, am_w_i, am_ga, am_it, am_if, true_and, and_true, or_true, true_or, ne_eq, not_false_eq_true, not_true_eq_false, false_imp_iff, true_imp_iff, Int.reduceEq, Int.reduceLT, Int.reduceLE, Int.reduceAdd, Int.reduceSub, Int.reduceMul, Int.reduceNeg]; exact z) | simp (disch := omega) only [KT, s69 (fd J j3) hw, hrr, z, GA, GR, GRc, GO, GI, GL, GV, am_w_i, am_ga, am_it, am_if, true_and, and_true, or_true, true_or, ne_eq, not_false_eq_true, not_true_eq_false, false_imp_iff, true_imp_iff, Int.reduceEq, Int.reduceLT, Int.reduceLE, Int.reduceAdd, Int.reduceSub, Int.reduceMul, Int.reduceNeg]
theorem s266 {d : Nat} {w : Nat × Nat × Nat × Nat} {I L : Nat → Int → Int} {V T : (Nat → Int → Int)} {m : Nat} {kb : Int} (hT : GDm T m kb I) (hw : WT V T m kb) {Q : Option am_V → am_H → Prop} (q : ∀ I', (∀ j, 0 ≤ j → j < (px_rc m kb : Int) → I' 135 j = px_sd T (px_rc m kb) (px_rc m kb) j) → Fr (fun a => a = 135) I I' → Q none (mkH w I' L)) : am_Sp (d + 1) 266 [vR (some 99)] (mkH w I L) Q := by
  have hr := px_rc_b hw
  have fd : ∀ J, Fr (fun a => a = 135) I J → GDm T m kb J := fun J f => hT.fr (by rw [f 99 (by decide)]) (by rw [f 99 (by decide)]) (f 134 (by decide))
  generalize hrr : px_rc m kb = r at *
  have down : ∀ J0, (∀ j, 0 ≤ j → j < (r : Int) → J0 135 j = px_sd T r 0 j) → Fr (fun a => a = 135) I J0 → am_WP (d + 1) 266 30 [some (vR (some 99)), some (vI ((r : Int) - 1))] [] (mkH w J0 L) Q := by
    intro J0 a0 b0
    have := am_loop (α := (Nat → Int → Int)) r (fun i J => am_WP (d + 1) 266 30 [some (vR (some 99)), some (vI ((r : Int) - 1 - (i : Int)))] [] (mkH w J L) Q) (fun i J => (∀ j, 0 ≤ j → j < (r : Int) → J 135 j = px_sd T r i j) ∧ Fr (fun a => a = 135) I J) ?_ ?_ 0 J0 (Nat.zero_le _) ⟨a0, b0⟩
    · rw [show (r : Int) - 1 - ((0 : Nat) : Int) = r - 1 by omega] at this; exact this
    · intro i J hi ⟨j1, j3⟩ ih
      have t := (fd J j3).2.2 ((r : Int) - 1 - i) (by omega) (by omega)
      have wt := hw.2.2 ((r : Int) - 1 - i) (by omega) (by omega)
      have e0 := j1 ((r : Int) - 1 - i) (by omega) (by omega)
      have ei : (r : Int) - 1 - i + -1 = r - 1 - ((i + 1 : Nat) : Int) := by omega
      rw [B266_30]
      by_cases c0 : px_sd T r i ((r : Int) - 1 - i) = 0
      · have z := ih J ⟨fun j x y => by rw [px_sd, if_neg (by intro h; exact h.1 c0)]; exact j1 j x y, j3⟩
        first | (simp (disch := omega) only [Kk, Kn, e0, c0, B266_71, ei, GA, GR, GRc, GO, GI, GL, GV, am_w_i, am_ga, am_it, am_if, true_and, and_true, or_true, true_or, ne_eq, not_false_eq_true, not_true_eq_false, false_imp_iff, true_imp_iff, Int.reduceEq, Int.reduceLT, Int.reduceLE, Int.reduceAdd, Int.reduceSub, Int.reduceMul, Int.reduceNeg]; exact z) | simp (disch := omega) only [Kk, Kn, e0, c0, B266_71, ei, z, GA, GR, GRc, GO, GI, GL, GV, am_w_i, am_ga, am_it, am_if, true_and, and_true, or_true, true_or, ne_eq, not_false_eq_true, not_true_eq_false, false_imp_iff, true_imp_iff, Int.reduceEq, Int.reduceLT, Int.reduceLE, Int.reduceAdd, Int.reduceSub, Int.reduceMul, Int.reduceNeg]
      · by_cases c2 : T 0 ((r : Int) - 1 - i) = 2
        · have w1 := wt.2.2.1 c2
          have z := ih (am_up J 135 (T 1 ((r : Int) - 1 - i)) 0) ⟨fun j x y => by
            rw [px_sd, if_pos ⟨c0, c2⟩]
            by_cases ej : j = T 1 ((r : Int) - 1 - i)
            · rw [if_pos ej, ej, am_up_s]
            · rw [if_neg ej, am_up_n _ _ _ _ ej]; exact j1 j x y, j3.up rfl⟩
          have t0 : J 134 (5 * ((r : Int) - 1 - i)) = 2 := t.1.trans c2
          have t1 := t.2.2.2 c2
          first | (simp (disch := omega) only [Kk, Kn, e0, c0, t0, t1, B266_71, ei, GA, GR, GRc, GO, GI, GL, GV, am_w_i, am_ga, am_it, am_if, true_and, and_true, or_true, true_or, ne_eq, not_false_eq_true, not_true_eq_false, false_imp_iff, true_imp_iff, Int.reduceEq, Int.reduceLT, Int.reduceLE, Int.reduceAdd, Int.reduceSub, Int.reduceMul, Int.reduceNeg]; exact z) | simp (disch := omega) only [Kk, Kn, e0, c0, t0, t1, B266_71, ei, z, GA, GR, GRc, GO, GI, GL, GV, am_w_i, am_ga, am_it, am_if, true_and, and_true, or_true, true_or, ne_eq, not_false_eq_true, not_true_eq_false, false_imp_iff, true_imp_iff, Int.reduceEq, Int.reduceLT, Int.reduceLE, Int.reduceAdd, Int.reduceSub, Int.reduceMul, Int.reduceNeg]
        · have z := ih J ⟨fun j x y => by rw [px_sd, if_neg (by intro h; exact c2 h.2)]; exact j1 j x y, j3⟩
          first | (simp (disch := omega) only [Kk, Kn, e0, c0, t.1, c2, B266_71, ei, GA, GR, GRc, GO, GI, GL, GV, am_w_i, am_ga, am_it, am_if, true_and, and_true, or_true, true_or, ne_eq, not_false_eq_true, not_true_eq_false, false_imp_iff, true_imp_iff, Int.reduceEq, Int.reduceLT, Int.reduceLE, Int.reduceAdd, Int.reduceSub, Int.reduceMul, Int.reduceNeg]; exact z) | simp (disch := omega) only [Kk, Kn, e0, c0, t.1, c2, B266_71, ei, z, GA, GR, GRc, GO, GI, GL, GV, am_w_i, am_ga, am_it, am_if, true_and, and_true, or_true, true_or, ne_eq, not_false_eq_true, not_true_eq_false, false_imp_iff, true_imp_iff, Int.reduceEq, Int.reduceLT, Int.reduceLE, Int.reduceAdd, Int.reduceSub, Int.reduceMul, Int.reduceNeg]
    · intro J ⟨j1, j3⟩
      have z := q J j1 j3
      rw [B266_30]
      first | (simp (disch := omega) only [GA, GR, GRc, GO, GI, GL, GV, am_w_i, am_ga, am_it, am_if, true_and, and_true, or_true, true_or, ne_eq, not_false_eq_true, not_true_eq_false, false_imp_iff, true_imp_iff, Int.reduceEq, Int.reduceLT, Int.reduceLE, Int.reduceAdd, Int.reduceSub, Int.reduceMul, Int.reduceNeg]; exact z) | simp (disch := omega) only [z, GA, GR, GRc, GO, GI, GL, GV, am_w_i, am_ga, am_it, am_if, true_and, and_true, or_true, true_or, ne_eq, not_false_eq_true, not_true_eq_false, false_imp_iff, true_imp_iff, Int.reduceEq, Int.reduceLT, Int.reduceLE, Int.reduceAdd, Int.reduceSub, Int.reduceMul, Int.reduceNeg]
  rw [S266]
  refine am_loop (α := (Nat → Int → Int)) r (fun i J => am_WP (d + 1) 266 2 [some (vR (some 99)), some (vI (i : Int))] [] (mkH w J L) Q) (fun i J => (∀ j, 0 ≤ j → j < (i : Int) → J 135 j = 1) ∧ Fr (fun a => a = 135) I J) ?_ ?_ 0 I (Nat.zero_le _) ⟨fun j h1 h2 => by omega, Fr.rf⟩
  · intro i J hi ⟨j1, j3⟩ ih
    have z := ih (am_up J 135 i 1) ⟨fun j h1 h2 => ?_, j3.up rfl⟩
    · rw [B266_2]
      first | (simp (disch := omega) only [Kk, Kn, s265 (fd J j3) hw, hrr, B266_17, GA, GR, GRc, GO, GI, GL, GV, am_w_i, am_ga, am_it, am_if, true_and, and_true, or_true, true_or, ne_eq, not_false_eq_true, not_true_eq_false, false_imp_iff, true_imp_iff, Int.reduceEq, Int.reduceLT, Int.reduceLE, Int.reduceAdd, Int.reduceSub, Int.reduceMul, Int.reduceNeg]; exact z) | simp (disch := omega) only [Kk, Kn, s265 (fd J j3) hw, hrr, B266_17, z, GA, GR, GRc, GO, GI, GL, GV, am_w_i, am_ga, am_it, am_if, true_and, and_true, or_true, true_or, ne_eq, not_false_eq_true, not_true_eq_false, false_imp_iff, true_imp_iff, Int.reduceEq, Int.reduceLT, Int.reduceLE, Int.reduceAdd, Int.reduceSub, Int.reduceMul, Int.reduceNeg]
    · by_cases ej : j = i
      · subst ej; rw [am_up_s]
      · rw [am_up_n _ _ _ _ (by omega)]; exact j1 j h1 (by omega)
  · intro J ⟨j1, j3⟩
    have z := down J (fun j x y => by rw [j1 j x y, px_sd]; exact (if_pos y).symm) j3
    rw [B266_2]
    first | (simp (disch := omega) only [Kk, Kn, s265 (fd J j3) hw, hrr, GA, GR, GRc, GO, GI, GL, GV, am_w_i, am_ga, am_it, am_if, true_and, and_true, or_true, true_or, ne_eq, not_false_eq_true, not_true_eq_false, false_imp_iff, true_imp_iff, Int.reduceEq, Int.reduceLT, Int.reduceLE, Int.reduceAdd, Int.reduceSub, Int.reduceMul, Int.reduceNeg]; exact z) | simp (disch := omega) only [Kk, Kn, s265 (fd J j3) hw, hrr, z, GA, GR, GRc, GO, GI, GL, GV, am_w_i, am_ga, am_it, am_if, true_and, and_true, or_true, true_or, ne_eq, not_false_eq_true, not_true_eq_false, false_imp_iff, true_imp_iff, Int.reduceEq, Int.reduceLT, Int.reduceLE, Int.reduceAdd, Int.reduceSub, Int.reduceMul, Int.reduceNeg]
