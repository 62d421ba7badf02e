/-! a1: the class reads a text -/
def TXo (w : (Nat × Nat × Nat × Nat)) (I : (Nat → Int → Int)) (pl : Nat → Int) (L : (Nat → Int → Int)) (r : (Int × Nat × (Nat → Int → Int)) × Int) (Q : Option am_V → am_H → Prop) : Prop := (∀ I', CW w I I' → r.1.1 = 0 → PX w I' r.1.2.2 → Q (some (vI r.2)) (mkH w I' L)) ∧ (∀ I', CW w I I' → r.1.1 ≠ 0 → I' 44 0 = r.1.1 → I' 44 1 = pl r.1.2.1 → Q (some (vI (-1))) (mkH w I' L))
theorem TXo.tr {w : (Nat × Nat × Nat × Nat)} {I J : (Nat → Int → Int)} {pl : Nat → Int} {L : (Nat → Int → Int)} {r : (Int × Nat × (Nat → Int → Int)) × Int} {Q : Option am_V → am_H → Prop} (h : TXo w I pl L r Q) (f : CW w I J) : TXo w J pl L r Q := ⟨fun I' c => h.1 I' (f.tr c), fun I' c => h.2 I' (f.tr c)⟩
set_option maxHeartbeats 1000000 in
theorem c_lines {d : Nat} {w : (Nat × Nat × Nat × Nat)} {L : (Nat → Int → Int)} {s u pl : Nat → Int} {K : Nat} {n : Int} {sp : Nat} {Q : Option am_V → am_H → Prop} (hu : TU s u K) (hW : isW w.2.2.1) : ∀ (f : Nat) (I X : (Nat → Int → Int)) (k : Nat) (m : Int), K + 1 ≤ k + f → k ≤ K → 0 ≤ m ∧ m ≤ k → cT s u pl K I → PX w I X → WXx X → I 44 3 = k → TXo w I pl L (txF s u K f X k m) Q → am_WP (d + 6) 26 52 [some (vR (some 44)), some (vR (some 1)), some (vI n), some (vR (some sp)), some (vI m), some (vI m)] [] (mkH w I L) Q
  | 0, I, X, k, m, hf, hk, hm, hT, hX, hw, h3, q => absurd hf (by omega)
  | f + 1, I, X, k, m, hf, hk, hm, hT, hX, hw, h3, q => by
    obtain ⟨t1, t2, t3⟩ := hT k hk
    have h7 := hu.2.1
    have c7 : ¬ (700 : Int) < m := by omega
    have k7 : (k : Int) < 701 := by omega
    rw [B26_52]
    rw [txF] at q
    by_cases c : s k = 0
    · rw [if_pos c] at q
      have z := q.1 I CW.rf rfl hX
      clear q hX hw hT hu
      first | (simp (disch := omega) only [KP, h3, t1, c, c7, B26_93, GA, GR, GRc, GO, GI, GL, GV, am_w_i, am_ga, am_it, am_if, true_and, and_true, or_true, true_or, ne_eq, not_false_eq_true, not_true_eq_false, false_imp_iff, true_imp_iff, Int.reduceEq, Int.reduceLT, Int.reduceLE, Int.reduceAdd, Int.reduceSub, Int.reduceMul, Int.reduceNeg]; exact z) | simp (disch := omega) only [KP, h3, t1, c, c7, B26_93, z, GA, GR, GRc, GO, GI, GL, GV, am_w_i, am_ga, am_it, am_if, true_and, and_true, or_true, true_or, ne_eq, not_false_eq_true, not_true_eq_false, false_imp_iff, true_imp_iff, Int.reduceEq, Int.reduceLT, Int.reduceLE, Int.reduceAdd, Int.reduceSub, Int.reduceMul, Int.reduceNeg]
    · rw [if_neg c] at q
      have kK := rd_k hu.1 hk c
      have lp := lnF_w hu kK hw
      have t1' : ¬ I 46 k = 0 := by rw [t1]; exact c
      simp (disch := omega) only [KP, h3, t1', c7, GA, GR, GRc, GO, GI, GL, GV, am_w_i, am_ga, am_it, am_if, true_and, and_true, or_true, true_or, ne_eq, not_false_eq_true, not_true_eq_false, false_imp_iff, true_imp_iff, Int.reduceEq, Int.reduceLT, Int.reduceLE, Int.reduceAdd, Int.reduceSub, Int.reduceMul, Int.reduceNeg]
      refine s28 (d := d) hT hu hW hX hw.1 h3 kK ⟨fun I' cw r0 px a3 => ?_, fun I' cw r0 e0 e1 => ?_⟩
      · rw [if_pos r0] at q
        obtain ⟨w1, w2, w3⟩ := lp r0
        have z := c_lines (d := d) (L := L) (pl := pl) (n := n) (sp := sp) (Q := Q) hu hW f I' _ _ (m + 1) (by omega) w3 (by omega) (hT.cw hW cw) px w1 a3 (q.tr cw)
        clear q hX hw hT hu px w1 lp
        first | (simp (disch := omega) only [GA, GR, GRc, GO, GI, GL, GV, am_w_i, am_ga, am_it, am_if, true_and, and_true, or_true, true_or, ne_eq, not_false_eq_true, not_true_eq_false, false_imp_iff, true_imp_iff, Int.reduceEq, Int.reduceLT, Int.reduceLE, Int.reduceAdd, Int.reduceSub, Int.reduceMul, Int.reduceNeg]; exact z) | simp (disch := omega) only [z, GA, GR, GRc, GO, GI, GL, GV, am_w_i, am_ga, am_it, am_if, true_and, and_true, or_true, true_or, ne_eq, not_false_eq_true, not_true_eq_false, false_imp_iff, true_imp_iff, Int.reduceEq, Int.reduceLT, Int.reduceLE, Int.reduceAdd, Int.reduceSub, Int.reduceMul, Int.reduceNeg]
      · rw [if_neg r0] at q
        have z := q.2 I' cw r0 e0 e1
        clear q hX hw hT hu lp
        first | (simp (disch := omega) only [GA, GR, GRc, GO, GI, GL, GV, am_w_i, am_ga, am_it, am_if, true_and, and_true, or_true, true_or, ne_eq, not_false_eq_true, not_true_eq_false, false_imp_iff, true_imp_iff, Int.reduceEq, Int.reduceLT, Int.reduceLE, Int.reduceAdd, Int.reduceSub, Int.reduceMul, Int.reduceNeg]; exact z) | simp (disch := omega) only [z, GA, GR, GRc, GO, GI, GL, GV, am_w_i, am_ga, am_it, am_if, true_and, and_true, or_true, true_or, ne_eq, not_false_eq_true, not_true_eq_false, false_imp_iff, true_imp_iff, Int.reduceEq, Int.reduceLT, Int.reduceLE, Int.reduceAdd, Int.reduceSub, Int.reduceMul, Int.reduceNeg]
/-- a text of nothing -/
def X00 (X : (Nat → Int → Int)) : Prop := (∀ j, 0 ≤ j → j < 8 → X 0 j = 0) ∧ (X 0 11 = 0 ∧ X 0 12 = -1) ∧ (∀ j, 0 ≤ j → j < 12 → X 4 j = 0) ∧ (∀ j, 0 ≤ j → j < 2 → X 13 j = 0 ∧ X 14 j = 0) ∧ ∀ l, 0 ≤ l → l < 3 → X 17 l = -1
theorem X00.w {X : (Nat → Int → Int)} (h : X00 X) : WXx X := by
  obtain ⟨a, b, c, e, g⟩ := h
  have a0 := a 0 (by decide) (by decide)
  have a1 := a 1 (by decide) (by decide)
  have a2 := a 2 (by decide) (by decide)
  have a3 := a 3 (by decide) (by decide)
  have a4 := a 4 (by decide) (by decide)
  have a5 := a 5 (by decide) (by decide)
  have a6 := a 6 (by decide) (by decide)
  have a7 := a 7 (by decide) (by decide)
  refine ⟨?_, ?_, b, fun l l0 l1 => Or.inl (by rw [g l l0 l1]; decide)⟩
  · unfold BX; omega
  · unfold WV; rw [a0, a1, a2, a3]
    exact ⟨by decide, fun k k0 k1 => by omega, fun k k0 k1 => by omega, fun k k0 k1 => by omega, fun k k0 k1 => by rw [(e k k0 k1).1, (e k k0 k1).2]; decide, fun k k0 k1 => by rw [c k k0 k1]; decide, by decide⟩
def cz_cl (I : (Nat → Int → Int)) (s : Nat) : (Nat → Int → Int) := cz_fl (am_up (am_up (cz_fl (cz_fl (cz_fl (am_up (am_up (am_up (am_up I s 0 0) s 5 0) s 11 0) s 17 0) (s + 4) ((12 : Nat) : Int) 0) (s + 13) ((2 : Nat) : Int) 0) (s + 14) ((2 : Nat) : Int) 0) (s + 15) 1 0) (s + 15) 2 0) (s + 17) ((3 : Nat) : Int) (-1)
theorem s85 {d : Nat} {w : Nat × Nat × Nat × Nat} {I L : Nat → Int → Int} {s : Nat} (hs : isW s) (Q : Option am_V → am_H → Prop) : am_Sp (d + 3) 85 [vR (some s)] (mkH w I L) Q ↔ Q none (mkH w (cz_cl I s) L) := by
  have hl := isW_le hs
  have k4 : ∀ J, am_kd (mkH w J L) (s + 4) = 13 := fun J => by rcases hs with rfl | rfl <;> rfl
  have l4 : ∀ J, am_ln (mkH w J L) (s + 4) = ((12 : Nat) : Int) := fun J => by rcases hs with rfl | rfl <;> rfl
  have k5 : ∀ J, am_kd (mkH w J L) (s + 13) = 13 := fun J => by rcases hs with rfl | rfl <;> rfl
  have l5 : ∀ J, am_ln (mkH w J L) (s + 13) = ((2 : Nat) : Int) := fun J => by rcases hs with rfl | rfl <;> rfl
  have k6 : ∀ J, am_kd (mkH w J L) (s + 14) = 13 := fun J => by rcases hs with rfl | rfl <;> rfl
  have l6 : ∀ J, am_ln (mkH w J L) (s + 14) = ((2 : Nat) : Int) := fun J => by rcases hs with rfl | rfl <;> rfl
  have k7 : ∀ J, am_kd (mkH w J L) (s + 17) = 13 := fun J => by rcases hs with rfl | rfl <;> rfl
  have l7 : ∀ J, am_ln (mkH w J L) (s + 17) = ((3 : Nat) : Int) := fun J => by rcases hs with rfl | rfl <;> rfl
  simp (disch := omega) only [S85, B85_5, B85_10, B85_15, B85_20, HW hs, s280 (show (12 : Nat) ≤ 4096 by omega) k4 l4, s280 (show (2 : Nat) ≤ 4096 by omega) k5 l5, s280 (show (2 : Nat) ≤ 4096 by omega) k6 l6, S12, B12_5, B12_10, s280 (show (3 : Nat) ≤ 4096 by omega) k7 l7, cz_cl, GA, GR, GRc, GO, GI, GL, GV, am_w_i, am_ga, am_it, am_if, true_and, and_true, or_true, true_or, ne_eq, not_false_eq_true, not_true_eq_false, false_imp_iff, true_imp_iff, Int.reduceEq, Int.reduceLT, Int.reduceLE, Int.reduceAdd, Int.reduceSub, Int.reduceMul, Int.reduceNeg]
theorem cz_cl_at {I : (Nat → Int → Int)} {s : Nat} : (∀ a, ¬ (s ≤ a ∧ a ≤ s + 17) → cz_cl I s a = I a) ∧ (cz_cl I s s 0 = 0 ∧ cz_cl I s s 5 = 0 ∧ cz_cl I s s 11 = 0 ∧ cz_cl I s s 17 = 0 ∧ cz_cl I s (s + 15) 1 = 0 ∧ cz_cl I s (s + 15) 2 = 0) ∧ (∀ j, 0 ≤ j → j < 12 → cz_cl I s (s + 4) j = 0) ∧ (∀ j, 0 ≤ j → j < 2 → cz_cl I s (s + 13) j = 0 ∧ cz_cl I s (s + 14) j = 0) ∧ ∀ j, 0 ≤ j → j < 3 → cz_cl I s (s + 17) j = -1 := by
  unfold cz_cl
  refine ⟨fun a ha => ?_, ⟨?_, ?_, ?_, ?_, ?_, ?_⟩, fun j j0 j1 => ?_, fun j j0 j1 => ⟨?_, ?_⟩, fun j j0 j1 => ?_⟩
  all_goals simp (disch := omega) only [cz_fl_a, cz_fl_b, am_up_a, am_up_n, am_up_s]
def px_X0 (I : (Nat → Int → Int)) (s : Nat) : (Nat → Int → Int) := fun a j => if a = 0 then (if j = 12 then -1 else 0) else I (s + a) j
