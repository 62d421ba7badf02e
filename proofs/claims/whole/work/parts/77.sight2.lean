/-! 77: sights: reference; the last day of a sight -/
theorem s268 {d : Nat} {w : Nat × Nat × Nat × Nat} {I L : Nat → Int → Int} {V T σ : (Nat → Int → Int)} {m : Nat} {kb dy D : Int} {c : Int → Int} (hT : GDm T m kb I) (hw : WT V T m kb) (hV : WV V) (mS : MS I L 1 σ) (wS : WS D σ) (hc : ∀ j, 0 ≤ j → j < (px_rc m kb : Int) → I 135 j = c j) (Q : Option am_V → am_H → Prop) : am_Sp (d + 2) 268 [vR (some 99), vI dy] (mkH w I L) Q ↔ Q (some (vI (if px_fs T c σ dy (px_rc m kb) = true then 1 else 0))) (mkH w I L) := by
  have hr := px_rc_b hw
  have h6 := hV.1.1
  have s65 := fun (d : Nat) (Q : Option am_V → am_H → Prop) => s265 (d := d) (w := w) (L := L) hT hw (Q := Q)
  generalize px_rc m kb = r at *
  refine am_det ?_ Q
  rw [S268]
  refine am_loop (α := Option am_V) r (fun i x => am_WP (d + 2) 268 2 [some (vR (some 99)), some (vI dy), some (vI (i : Int)), x] [] (mkH w I L) _) (fun i _ => px_fs T c σ dy i = true) ?_ ?_ 0 none (Nat.zero_le _) rfl
  · intro i x hi inv ih
    have tt := hT.2.2 i (by omega) (by omega)
    have wt := hw.2.2 i (by omega) (by omega)
    have e0 := hc i (by omega) (by omega)
    rw [B268_2]
    by_cases c0 : c i = 0
    · have z := ih (some (vI (5 * (i : Int)))) (by rw [px_fs, inv, c0]; rfl)
      first | (simp (disch := omega) only [Kk, Kn, s65, e0, c0, B268_99, GA, GR, GRc, GO, GI, GL, GV, am_w_i, am_ga, am_it, am_if, true_and, and_true, or_true, true_or, ne_eq, not_false_eq_true, not_true_eq_false, false_imp_iff, true_imp_iff, Int.reduceEq, Int.reduceLT, Int.reduceLE, Int.reduceAdd, Int.reduceSub, Int.reduceMul, Int.reduceNeg]; exact z) | simp (disch := omega) only [Kk, Kn, s65, e0, c0, B268_99, z, GA, GR, GRc, GO, GI, GL, GV, am_w_i, am_ga, am_it, am_if, true_and, and_true, or_true, true_or, ne_eq, not_false_eq_true, not_true_eq_false, false_imp_iff, true_imp_iff, Int.reduceEq, Int.reduceLT, Int.reduceLE, Int.reduceAdd, Int.reduceSub, Int.reduceMul, Int.reduceNeg]
    · by_cases c1 : T 0 i = 1
      · have w1 := wt.2.1 (by omega)
        have t2 := tt.2.1 (by omega)
        have t3 := tt.2.2.1 c1
        have t0 : I 134 (5 * (i : Int)) = 1 := tt.1.trans c1
        by_cases c3 : T 3 i = dy
        · have t3' : I 134 (5 * (i : Int) + 1) = dy := t3.trans c3
          by_cases k : px_gap σ (T 1 i) < T 2 i
          · rcases wt.2.2.2.1 with e | e
            · have z := ih (some (vI (5 * (i : Int)))) (by rw [px_fs, inv, if_pos k, e]; simp)
              first | (simp (disch := omega) only [Kk, Kn, s65, e0, c0, t0, t3', t2.1, t2.2.1, t2.2.2, s205 (b := 1) (k := T 1 i) (Or.inr rfl) (by omega) mS wS, k, B268_77, e, B268_94, B268_99, GA, GR, GRc, GO, GI, GL, GV, am_w_i, am_ga, am_it, am_if, true_and, and_true, or_true, true_or, ne_eq, not_false_eq_true, not_true_eq_false, false_imp_iff, true_imp_iff, Int.reduceEq, Int.reduceLT, Int.reduceLE, Int.reduceAdd, Int.reduceSub, Int.reduceMul, Int.reduceNeg]; exact z) | simp (disch := omega) only [Kk, Kn, s65, e0, c0, t0, t3', t2.1, t2.2.1, t2.2.2, s205 (b := 1) (k := T 1 i) (Or.inr rfl) (by omega) mS wS, k, B268_77, e, B268_94, B268_99, z, GA, GR, GRc, GO, GI, GL, GV, am_w_i, am_ga, am_it, am_if, true_and, and_true, or_true, true_or, ne_eq, not_false_eq_true, not_true_eq_false, false_imp_iff, true_imp_iff, Int.reduceEq, Int.reduceLT, Int.reduceLE, Int.reduceAdd, Int.reduceSub, Int.reduceMul, Int.reduceNeg]
            · have f : px_fs T c σ dy r = false := px_fs_m (i := i + 1) (by rw [px_fs, inv, if_pos k, decide_eq_false c0, c1, c3, e]; simp) r (by omega)
              have z : (if px_fs T c σ dy r = true then (1 : Int) else 0) = 0 := by rw [f]; rfl
              simp (disch := omega) only [Kk, Kn, s65, e0, c0, t0, t3', t2.1, t2.2.1, t2.2.2, s205 (b := 1) (k := T 1 i) (Or.inr rfl) (by omega) mS wS, k, B268_77, e, B268_94, z, GA, GR, GRc, GO, GI, GL, GV, am_w_i, am_ga, am_it, am_if, true_and, and_true, or_true, true_or, ne_eq, not_false_eq_true, not_true_eq_false, false_imp_iff, true_imp_iff, Int.reduceEq, Int.reduceLT, Int.reduceLE, Int.reduceAdd, Int.reduceSub, Int.reduceMul, Int.reduceNeg]
          · rcases wt.2.2.2.1 with e | e
            · have f : px_fs T c σ dy r = false := px_fs_m (i := i + 1) (by rw [px_fs, inv, if_neg k, decide_eq_false c0, c1, c3, e]; simp) r (by omega)
              have z : (if px_fs T c σ dy r = true then (1 : Int) else 0) = 0 := by rw [f]; rfl
              simp (disch := omega) only [Kk, Kn, s65, e0, c0, t0, t3', t2.1, t2.2.1, t2.2.2, s205 (b := 1) (k := T 1 i) (Or.inr rfl) (by omega) mS wS, k, B268_77, e, B268_94, z, GA, GR, GRc, GO, GI, GL, GV, am_w_i, am_ga, am_it, am_if, true_and, and_true, or_true, true_or, ne_eq, not_false_eq_true, not_true_eq_false, false_imp_iff, true_imp_iff, Int.reduceEq, Int.reduceLT, Int.reduceLE, Int.reduceAdd, Int.reduceSub, Int.reduceMul, Int.reduceNeg]
            · have z := ih (some (vI (5 * (i : Int)))) (by rw [px_fs, inv, if_neg k, e]; simp)
              first | (simp (disch := omega) only [Kk, Kn, s65, e0, c0, t0, t3', t2.1, t2.2.1, t2.2.2, s205 (b := 1) (k := T 1 i) (Or.inr rfl) (by omega) mS wS, k, B268_77, e, B268_94, B268_99, GA, GR, GRc, GO, GI, GL, GV, am_w_i, am_ga, am_it, am_if, true_and, and_true, or_true, true_or, ne_eq, not_false_eq_true, not_true_eq_false, false_imp_iff, true_imp_iff, Int.reduceEq, Int.reduceLT, Int.reduceLE, Int.reduceAdd, Int.reduceSub, Int.reduceMul, Int.reduceNeg]; exact z) | simp (disch := omega) only [Kk, Kn, s65, e0, c0, t0, t3', t2.1, t2.2.1, t2.2.2, s205 (b := 1) (k := T 1 i) (Or.inr rfl) (by omega) mS wS, k, B268_77, e, B268_94, B268_99, z, GA, GR, GRc, GO, GI, GL, GV, am_w_i, am_ga, am_it, am_if, true_and, and_true, or_true, true_or, ne_eq, not_false_eq_true, not_true_eq_false, false_imp_iff, true_imp_iff, Int.reduceEq, Int.reduceLT, Int.reduceLE, Int.reduceAdd, Int.reduceSub, Int.reduceMul, Int.reduceNeg]
        · have z := ih (some (vI (5 * (i : Int)))) (by rw [px_fs, inv, decide_eq_true (p := T 3 i ≠ dy) c3]; simp)
          first | (simp (disch := omega) only [Kk, Kn, s65, e0, c0, t0, t3, c3, B268_99, GA, GR, GRc, GO, GI, GL, GV, am_w_i, am_ga, am_it, am_if, true_and, and_true, or_true, true_or, ne_eq, not_false_eq_true, not_true_eq_false, false_imp_iff, true_imp_iff, Int.reduceEq, Int.reduceLT, Int.reduceLE, Int.reduceAdd, Int.reduceSub, Int.reduceMul, Int.reduceNeg]; exact z) | simp (disch := omega) only [Kk, Kn, s65, e0, c0, t0, t3, c3, B268_99, z, GA, GR, GRc, GO, GI, GL, GV, am_w_i, am_ga, am_it, am_if, true_and, and_true, or_true, true_or, ne_eq, not_false_eq_true, not_true_eq_false, false_imp_iff, true_imp_iff, Int.reduceEq, Int.reduceLT, Int.reduceLE, Int.reduceAdd, Int.reduceSub, Int.reduceMul, Int.reduceNeg]
      · have z := ih (some (vI (5 * (i : Int)))) (by rw [px_fs, inv, decide_eq_true (p := T 0 i ≠ 1) c1]; simp)
        first | (simp (disch := omega) only [Kk, Kn, s65, e0, c0, tt.1, c1, B268_99, GA, GR, GRc, GO, GI, GL, GV, am_w_i, am_ga, am_it, am_if, true_and, and_true, or_true, true_or, ne_eq, not_false_eq_true, not_true_eq_false, false_imp_iff, true_imp_iff, Int.reduceEq, Int.reduceLT, Int.reduceLE, Int.reduceAdd, Int.reduceSub, Int.reduceMul, Int.reduceNeg]; exact z) | simp (disch := omega) only [Kk, Kn, s65, e0, c0, tt.1, c1, B268_99, z, GA, GR, GRc, GO, GI, GL, GV, am_w_i, am_ga, am_it, am_if, true_and, and_true, or_true, true_or, ne_eq, not_false_eq_true, not_true_eq_false, false_imp_iff, true_imp_iff, Int.reduceEq, Int.reduceLT, Int.reduceLE, Int.reduceAdd, Int.reduceSub, Int.reduceMul, Int.reduceNeg]
  · intro x inv
    have z : (if px_fs T c σ dy r = true then (1 : Int) else 0) = 1 := by rw [inv]; rfl
    rw [B268_2]
    simp (disch := omega) only [Kk, s65, z, GA, GR, GRc, GO, GI, GL, GV, am_w_i, am_ga, am_it, am_if, true_and, and_true, or_true, true_or, ne_eq, not_false_eq_true, not_true_eq_false, false_imp_iff, true_imp_iff, Int.reduceEq, Int.reduceLT, Int.reduceLE, Int.reduceAdd, Int.reduceSub, Int.reduceMul, Int.reduceNeg]
/-- the last day of a sight that counts -/
def px_ld (T : (Nat → Int → Int)) (c : Int → Int) : Nat → Int
  | 0 => 0
  | n + 1 => if c n ≠ 0 ∧ T 0 n = 1 then am_max (px_ld T c n) (T 3 n) else px_ld T c n
theorem px_ld_b {V T : (Nat → Int → Int)} {m : Nat} {kb : Int} {c : Int → Int} (hw : WT V T m kb) : ∀ n, n ≤ m → 0 ≤ px_ld T c n ∧ px_ld T c n ≤ 60
  | 0, _ => by rw [px_ld]; omega
  | n + 1, hn => by
    have ih := px_ld_b (c := c) hw n (by omega)
    have wt := hw.2.2 n (by omega) (by omega)
    rw [px_ld]
    unfold am_max
    repeat' split
    all_goals omega
theorem px_ld_g {T : (Nat → Int → Int)} {c : Int → Int} : ∀ (n i : Nat), i < n → c i ≠ 0 → T 0 i = 1 → T 3 i ≤ px_ld T c n
  | 0, i, h, _, _ => by omega
  | n + 1, i, h, h1, h2 => by
    rw [px_ld]
    by_cases e : i = n
    · subst e
      rw [if_pos ⟨h1, h2⟩]; unfold am_max; split <;> omega
    · have ih := px_ld_g (T := T) (c := c) n i (by omega) h1 h2
      unfold am_max
      repeat' split
      all_goals omega
/-- behind the last day every sight is so -/
theorem px_fs_l {T : (Nat → Int → Int)} {c : Int → Int} {σ : (Nat → Int → Int)} {dy : Int} {m : Nat} (h : px_ld T c m < dy) : ∀ n, n ≤ m → px_fs T c σ dy n = true
  | 0, _ => rfl
  | n + 1, hn => by
    rw [px_fs, px_fs_l h n (by omega)]
    by_cases c0 : c n = 0
    · rw [decide_eq_true c0]; rfl
    · by_cases c1 : T 0 n = 1
      · have := px_ld_g (T := T) (c := c) m n (by omega) c0 c1
        rw [decide_eq_true (p := T 3 n ≠ dy) (by omega)]; simp
      · rw [decide_eq_true (p := T 0 n ≠ 1) c1]; simp
theorem s73 {d : Nat} {w : Nat × Nat × Nat × Nat} {I L : Nat → Int → Int} {V T : (Nat → Int → Int)} {m : Nat} {kb : Int} {c : Int → Int} (hT : GDc T m kb I) (hw : WT V T m kb) (hc : ∀ j, 0 ≤ j → j < 24 → I 98 j = c j) (Q : Option am_V → am_H → Prop) : am_Sp d 73 [vR (some 92)] (mkH w I L) Q ↔ Q (some (vI (px_ld T c m))) (mkH w I L) := by
  have hm := hT.1
  have h24 := hw.1
  refine am_det ?_ Q
  rw [S73]
  refine am_loop (α := Unit) m (fun i _ => am_WP d 73 4 [some (vR (some 92)), some (vI (px_ld T c i)), some (vI (i : Int))] [] (mkH w I L) _) (fun _ _ => True) ?_ ?_ 0 () (Nat.zero_le _) trivial
  · intro i _ hi _ ih
    have tt := hT.2.2 i (by omega) (by omega)
    have e0 := hc i (by omega) (by omega)
    have z := ih () trivial
    rw [px_ld] at z
    rw [B73_4]
    by_cases c0 : c i = 0
    · rw [if_neg (by intro h; exact h.1 c0)] at z
      first | (simp (disch := omega) only [KT, hm, e0, c0, B73_42, GA, GR, GRc, GO, GI, GL, GV, am_w_i, am_ga, am_it, am_if, true_and, and_true, or_true, true_or, ne_eq, not_false_eq_true, not_true_eq_false, false_imp_iff, true_imp_iff, Int.reduceEq, Int.reduceLT, Int.reduceLE, Int.reduceAdd, Int.reduceSub, Int.reduceMul, Int.reduceNeg]; exact z) | simp (disch := omega) only [KT, hm, e0, c0, B73_42, z, GA, GR, GRc, GO, GI, GL, GV, am_w_i, am_ga, am_it, am_if, true_and, and_true, or_true, true_or, ne_eq, not_false_eq_true, not_true_eq_false, false_imp_iff, true_imp_iff, Int.reduceEq, Int.reduceLT, Int.reduceLE, Int.reduceAdd, Int.reduceSub, Int.reduceMul, Int.reduceNeg]
    · by_cases c1 : T 0 i = 1
      · have t0 : I 93 i = 1 := tt.1.trans c1
        rw [if_pos ⟨c0, c1⟩] at z
        first | (simp (disch := omega) only [KT, hm, e0, c0, t0, tt.2.2.2.1, B73_42, GA, GR, GRc, GO, GI, GL, GV, am_w_i, am_ga, am_it, am_if, true_and, and_true, or_true, true_or, ne_eq, not_false_eq_true, not_true_eq_false, false_imp_iff, true_imp_iff, Int.reduceEq, Int.reduceLT, Int.reduceLE, Int.reduceAdd, Int.reduceSub, Int.reduceMul, Int.reduceNeg]; exact z) | simp (disch := omega) only [KT, hm, e0, c0, t0, tt.2.2.2.1, B73_42, z, GA, GR, GRc, GO, GI, GL, GV, am_w_i, am_ga, am_it, am_if, true_and, and_true, or_true, true_or, ne_eq, not_false_eq_true, not_true_eq_false, false_imp_iff, true_imp_iff, Int.reduceEq, Int.reduceLT, Int.reduceLE, Int.reduceAdd, Int.reduceSub, Int.reduceMul, Int.reduceNeg]
      · rw [if_neg (by intro h; exact c1 h.2)] at z
        first | (simp (disch := omega) only [KT, hm, e0, c0, tt.1, c1, B73_42, GA, GR, GRc, GO, GI, GL, GV, am_w_i, am_ga, am_it, am_if, true_and, and_true, or_true, true_or, ne_eq, not_false_eq_true, not_true_eq_false, false_imp_iff, true_imp_iff, Int.reduceEq, Int.reduceLT, Int.reduceLE, Int.reduceAdd, Int.reduceSub, Int.reduceMul, Int.reduceNeg]; exact z) | simp (disch := omega) only [KT, hm, e0, c0, tt.1, c1, B73_42, z, GA, GR, GRc, GO, GI, GL, GV, am_w_i, am_ga, am_it, am_if, true_and, and_true, or_true, true_or, ne_eq, not_false_eq_true, not_true_eq_false, false_imp_iff, true_imp_iff, Int.reduceEq, Int.reduceLT, Int.reduceLE, Int.reduceAdd, Int.reduceSub, Int.reduceMul, Int.reduceNeg]
  · intro _ _
    rw [B73_4]
    simp (disch := omega) only [KT, hm, GA, GR, GRc, GO, GI, GL, GV, am_w_i, am_ga, am_it, am_if, true_and, and_true, or_true, true_or, ne_eq, not_false_eq_true, not_true_eq_false, false_imp_iff, true_imp_iff, Int.reduceEq, Int.reduceLT, Int.reduceLE, Int.reduceAdd, Int.reduceSub, Int.reduceMul, Int.reduceNeg]
