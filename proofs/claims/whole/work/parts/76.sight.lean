/-! 76: sights -/
theorem s71 {d : Nat} {w : Nat × Nat × Nat × Nat} {I L : Nat → Int → Int} {T : (Nat → Int → Int)} {m i : Nat} {kb x : Int} (hT : GDc T m kb I) (hi : i < m) (h24 : m ≤ 24) (Q : Option am_V → am_H → Prop) : am_Sp d 71 [vR (some 92), vI (i : Int), vI x] (mkH w I L) Q ↔ Q (some (vI (if T 4 i = if x < T 2 i then 0 else 1 then 1 else 0))) (mkH w I L) := by
  have tt := hT.2.2 i (by omega) (by omega)
  rw [S71]
  by_cases k : x < T 2 i
  · by_cases k2 : T 4 i = 0
    · simp (disch := omega) only [KT, tt.2.2.2.2, tt.2.2.1, k, k2, if_true, B71_21, B71_29, GA, GR, GRc, GO, GI, GL, GV, am_w_i, am_ga, am_it, am_if, true_and, and_true, or_true, true_or, ne_eq, not_false_eq_true, not_true_eq_false, false_imp_iff, true_imp_iff, Int.reduceEq, Int.reduceLT, Int.reduceLE, Int.reduceAdd, Int.reduceSub, Int.reduceMul, Int.reduceNeg]
    · simp (disch := omega) only [KT, tt.2.2.2.2, tt.2.2.1, k, k2, if_true, if_false, B71_21, B71_29, GA, GR, GRc, GO, GI, GL, GV, am_w_i, am_ga, am_it, am_if, true_and, and_true, or_true, true_or, ne_eq, not_false_eq_true, not_true_eq_false, false_imp_iff, true_imp_iff, Int.reduceEq, Int.reduceLT, Int.reduceLE, Int.reduceAdd, Int.reduceSub, Int.reduceMul, Int.reduceNeg]
  · by_cases k2 : T 4 i = 1
    · simp (disch := omega) only [KT, tt.2.2.2.2, tt.2.2.1, k, k2, if_true, if_false, B71_21, B71_29, GA, GR, GRc, GO, GI, GL, GV, am_w_i, am_ga, am_it, am_if, true_and, and_true, or_true, true_or, ne_eq, not_false_eq_true, not_true_eq_false, false_imp_iff, true_imp_iff, Int.reduceEq, Int.reduceLT, Int.reduceLE, Int.reduceAdd, Int.reduceSub, Int.reduceMul, Int.reduceNeg]
    · simp (disch := omega) only [KT, tt.2.2.2.2, tt.2.2.1, k, k2, if_true, if_false, B71_21, B71_29, GA, GR, GRc, GO, GI, GL, GV, am_w_i, am_ga, am_it, am_if, true_and, and_true, or_true, true_or, ne_eq, not_false_eq_true, not_true_eq_false, false_imp_iff, true_imp_iff, Int.reduceEq, Int.reduceLT, Int.reduceLE, Int.reduceAdd, Int.reduceSub, Int.reduceMul, Int.reduceNeg]
def px_fs (T : (Nat → Int → Int)) (c : Int → Int) (σ : (Nat → Int → Int)) (dy : Int) : Nat → Bool
  | 0 => true
  | n + 1 => px_fs T c σ dy n && (decide (c n = 0) || decide (T 0 n ≠ 1) || decide (T 3 n ≠ dy) || decide (T 4 n = if px_gap σ (T 1 n) < T 2 n then 0 else 1))
theorem px_fs_m {T : (Nat → Int → Int)} {c : Int → Int} {σ : (Nat → Int → Int)} {dy : Int} {i : Nat} (h : px_fs T c σ dy i = false) : ∀ n, i ≤ n → px_fs T c σ dy n = false
  | 0, hn => by rw [show i = 0 by omega] at h; exact h
  | n + 1, hn => by
    by_cases e : i = n + 1
    · rw [← e]; exact h
    · rw [px_fs, px_fs_m h n (by omega)]; rfl
theorem px_fs_r {T : (Nat → Int → Int)} {c : Int → Int} {σ : (Nat → Int → Int)} {dy : Int} {r : Nat} (h : ∀ j, (r : Int) ≤ j → c j = 0) : ∀ n, r ≤ n → px_fs T c σ dy n = px_fs T c σ dy r
  | 0, hn => by rw [show r = 0 by omega]
  | n + 1, hn => by
    by_cases e : r = n + 1
    · rw [e]
    · rw [px_fs, px_fs_r h n (by omega), h n (by omega)]; simp
theorem is55 : isS 55 := Or.inr (Or.inl rfl)
theorem s74 {d : Nat} {w : Nat × Nat × Nat × Nat} {I L : Nat → Int → Int} {V T σ : (Nat → Int → Int)} {m : Nat} {kb dy D : Int} {c : Int → Int} (hT : GDc T m kb I) (hw : WT V T m kb) (hV : WV V) (rS : RS I 55 σ) (wS : WS D σ) (hc : ∀ j, 0 ≤ j → j < 24 → I 98 j = c j) (Q : Option am_V → am_H → Prop) : am_Sp (d + 2) 74 [vR (some 92), vR (some 55), vI dy] (mkH w I L) Q ↔ Q (some (vI (if px_fs T c σ dy m = true then 1 else 0))) (mkH w I L) := by
  have hm := hT.1
  have h24 := hw.1
  have h6 := hV.1.1
  refine am_det ?_ Q
  rw [S74]
  refine am_loop (α := Option am_V) m (fun i x => am_WP (d + 2) 74 2 [some (vR (some 92)), some (vR (some 55)), some (vI dy), some (vI (i : Int)), x] [] (mkH w I L) _) (fun i _ => px_fs T c σ dy i = true) ?_ ?_ 0 none (Nat.zero_le _) rfl
  · intro i x hi inv ih
    have tt := hT.2.2 i (by omega) (by omega)
    have wt := hw.2.2 i (by omega) (by omega)
    have e0 := hc i (by omega) (by omega)
    rw [B74_2]
    by_cases c0 : c i = 0
    · have z := ih (some (vI 0)) (by rw [px_fs, inv, c0]; rfl)
      first | (simp (disch := omega) only [KT, hm, e0, c0, B74_43, B74_44, B74_71, GA, GR, GRc, GO, GI, GL, GV, am_w_i, am_ga, am_it, am_if, true_and, and_true, or_true, true_or, ne_eq, not_false_eq_true, not_true_eq_false, false_imp_iff, true_imp_iff, Int.reduceEq, Int.reduceLT, Int.reduceLE, Int.reduceAdd, Int.reduceSub, Int.reduceMul, Int.reduceNeg]; exact z) | simp (disch := omega) only [KT, hm, e0, c0, B74_43, B74_44, B74_71, z, GA, GR, GRc, GO, GI, GL, GV, am_w_i, am_ga, am_it, am_if, true_and, and_true, or_true, true_or, ne_eq, not_false_eq_true, not_true_eq_false, false_imp_iff, true_imp_iff, Int.reduceEq, Int.reduceLT, Int.reduceLE, Int.reduceAdd, Int.reduceSub, Int.reduceMul, Int.reduceNeg]
    · by_cases c1 : T 0 i = 1
      · have w1 := wt.2.1 (by omega)
        have t0 : I 93 i = 1 := tt.1.trans c1
        by_cases c3 : T 3 i = dy
        · have t3 : I 96 i = dy := tt.2.2.2.1.trans c3
          have gp := rS.gap (k := T 1 i) (by omega) (by omega)
          by_cases k : T 4 i = if px_gap σ (T 1 i) < T 2 i then 0 else 1
          · have z := ih (some (vI 1)) (by rw [px_fs, inv, decide_eq_true k]; simp)
            first | (simp (disch := omega) only [KT, hm, e0, c0, t0, t3, tt.2.1, HS is55, B74_44, s62 (s := 55) is55 (k := T 1 i) (by omega) (rS.bA wS.1), gp, s71 hT hi h24, k, if_true, B74_71, GA, GR, GRc, GO, GI, GL, GV, am_w_i, am_ga, am_it, am_if, true_and, and_true, or_true, true_or, ne_eq, not_false_eq_true, not_true_eq_false, false_imp_iff, true_imp_iff, Int.reduceEq, Int.reduceLT, Int.reduceLE, Int.reduceAdd, Int.reduceSub, Int.reduceMul, Int.reduceNeg]; exact z) | simp (disch := omega) only [KT, hm, e0, c0, t0, t3, tt.2.1, HS is55, B74_44, s62 (s := 55) is55 (k := T 1 i) (by omega) (rS.bA wS.1), gp, s71 hT hi h24, k, if_true, B74_71, z, GA, GR, GRc, GO, GI, GL, GV, am_w_i, am_ga, am_it, am_if, true_and, and_true, or_true, true_or, ne_eq, not_false_eq_true, not_true_eq_false, false_imp_iff, true_imp_iff, Int.reduceEq, Int.reduceLT, Int.reduceLE, Int.reduceAdd, Int.reduceSub, Int.reduceMul, Int.reduceNeg]
          · have f : px_fs T c σ dy m = false := px_fs_m (i := i + 1) (by rw [px_fs, inv, decide_eq_false k, decide_eq_false c0, c1, c3]; simp) m (by omega)
            have z : (if px_fs T c σ dy m = true then (1 : Int) else 0) = 0 := by rw [f]; rfl
            simp (disch := omega) only [KT, hm, e0, c0, t0, t3, tt.2.1, HS is55, B74_44, s62 (s := 55) is55 (k := T 1 i) (by omega) (rS.bA wS.1), gp, s71 hT hi h24, k, if_false, z, GA, GR, GRc, GO, GI, GL, GV, am_w_i, am_ga, am_it, am_if, true_and, and_true, or_true, true_or, ne_eq, not_false_eq_true, not_true_eq_false, false_imp_iff, true_imp_iff, Int.reduceEq, Int.reduceLT, Int.reduceLE, Int.reduceAdd, Int.reduceSub, Int.reduceMul, Int.reduceNeg]
        · have z := ih (some (vI 0)) (by rw [px_fs, inv, decide_eq_true (p := T 3 i ≠ dy) c3]; simp)
          first | (simp (disch := omega) only [KT, hm, e0, c0, t0, tt.2.2.2.1, c3, B74_43, B74_44, B74_71, GA, GR, GRc, GO, GI, GL, GV, am_w_i, am_ga, am_it, am_if, true_and, and_true, or_true, true_or, ne_eq, not_false_eq_true, not_true_eq_false, false_imp_iff, true_imp_iff, Int.reduceEq, Int.reduceLT, Int.reduceLE, Int.reduceAdd, Int.reduceSub, Int.reduceMul, Int.reduceNeg]; exact z) | simp (disch := omega) only [KT, hm, e0, c0, t0, tt.2.2.2.1, c3, B74_43, B74_44, B74_71, z, GA, GR, GRc, GO, GI, GL, GV, am_w_i, am_ga, am_it, am_if, true_and, and_true, or_true, true_or, ne_eq, not_false_eq_true, not_true_eq_false, false_imp_iff, true_imp_iff, Int.reduceEq, Int.reduceLT, Int.reduceLE, Int.reduceAdd, Int.reduceSub, Int.reduceMul, Int.reduceNeg]
      · have z := ih (some (vI 0)) (by rw [px_fs, inv, decide_eq_true (p := T 0 i ≠ 1) c1]; simp)
        first | (simp (disch := omega) only [KT, hm, e0, c0, tt.1, c1, B74_43, B74_44, B74_71, GA, GR, GRc, GO, GI, GL, GV, am_w_i, am_ga, am_it, am_if, true_and, and_true, or_true, true_or, ne_eq, not_false_eq_true, not_true_eq_false, false_imp_iff, true_imp_iff, Int.reduceEq, Int.reduceLT, Int.reduceLE, Int.reduceAdd, Int.reduceSub, Int.reduceMul, Int.reduceNeg]; exact z) | simp (disch := omega) only [KT, hm, e0, c0, tt.1, c1, B74_43, B74_44, B74_71, z, GA, GR, GRc, GO, GI, GL, GV, am_w_i, am_ga, am_it, am_if, true_and, and_true, or_true, true_or, ne_eq, not_false_eq_true, not_true_eq_false, false_imp_iff, true_imp_iff, Int.reduceEq, Int.reduceLT, Int.reduceLE, Int.reduceAdd, Int.reduceSub, Int.reduceMul, Int.reduceNeg]
  · intro x inv
    have z : (if px_fs T c σ dy m = true then (1 : Int) else 0) = 1 := by rw [inv]; rfl
    rw [B74_2]
    simp (disch := omega) only [KT, hm, z, GA, GR, GRc, GO, GI, GL, GV, am_w_i, am_ga, am_it, am_if, true_and, and_true, or_true, true_or, ne_eq, not_false_eq_true, not_true_eq_false, false_imp_iff, true_imp_iff, Int.reduceEq, Int.reduceLT, Int.reduceLE, Int.reduceAdd, Int.reduceSub, Int.reduceMul, Int.reduceNeg]
