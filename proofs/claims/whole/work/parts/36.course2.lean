/-! 36: Course: how far apart, doings, healing, a day -/
theorem LF.rf {L : (Nat → Int → Int)} : LF L L := Fr.rf
theorem LF.tr {L L' L'' : (Nat → Int → Int)} (h : LF L L') (h' : LF L' L'') : LF L L'' := Fr.tr h h'
theorem px_gap_b {σ : (Nat → Int → Int)} {k : Int} (h : bA (σ 1)) (h0 : 0 ≤ k) (h1 : k < 6) : 0 ≤ px_gap σ k ∧ px_gap σ k ≤ 1998 := by
  have := h (2 * k) (by omega) (by omega)
  have := h (2 * k + 1) (by omega) (by omega)
  exact iabs_b (by omega)
theorem RS.gap {I : (Nat → Int → Int)} {s : Nat} {σ : (Nat → Int → Int)} {k : Int} (h : RS I s σ) (h0 : 0 ≤ k) (h1 : k < 6) : iabs (I (s + 1) (2 * k) - I (s + 1) (2 * k + 1)) = px_gap σ k := by
  rw [h.1 _ (by omega) (by omega), h.1 _ (by omega) (by omega)]; rfl
theorem s5 {d : Nat} {w : Nat × Nat × Nat × Nat} {I L : Nat → Int → Int} {V σ : (Nat → Int → Int)} {lw : Int → (Int → Int) → Int} {F : Int → Int} {s n : Nat} {D : Int} (C : CC w I V lw F) (hs : isS s) (hR : RS I s σ) (hW : WS D σ) (hn : V 0 0 = n) {Q : Option am_V → am_H → Prop} (q : ∀ L', LF L L' → Q (some (vI (px_dist V lw F σ n))) (mkH w I L')) : am_Sp (d + 4) 5 [vR (some 63), vR (some s)] (mkH w I L) Q := by
  have C0 := C
  obtain ⟨hw, hRW, hRL, hV, hF, hWF⟩ := C
  have h6 := hV.1.1.2
  have hA := hR.bA hW.1
  have hb : ∀ i : Nat, i ≤ n → 0 ≤ px_dist V lw F σ i ∧ px_dist V lw F σ i ≤ i * 9999 := by
    intro i
    induction i with
    | zero => intro _; exact ⟨by simp [px_dist, px_sum], by simp [px_dist, px_sum]⟩
    | succ i ih =>
      intro hi
      have a := ih (by omega)
      have b := px_gap_b (k := i) hW.1 (by omega) (by omega)
      have c := px_lim_b (v := lw 0 (px_nm V F σ i 0)) (most := 9999) (wo := px_gap σ i) (by omega) (by omega)
      have e : px_dist V lw F σ (i + 1) = px_dist V lw F σ i + px_lim (lw 0 (px_nm V F σ i 0)) 9999 (px_gap σ i) := rfl
      rw [e]; omega
  rw [S5]
  refine am_loop (α := (Nat → Int → Int)) n (fun i L1 => am_WP (d + 4) 5 4 [some (vR (some 63)), some (vR (some s)), some (vI (px_dist V lw F σ i)), some (vI (i : Int))] [] (mkH w I L1) Q) (fun i L1 => LF L L1) ?_ ?_ 0 L (Nat.zero_le _) LF.rf
  · intro i L1 hi hL ih
    have b1 := hb i (by omega)
    have b2 := hb (i + 1) (by omega)
    have e : px_dist V lw F σ (i + 1) = px_dist V lw F σ i + px_lim (lw 0 (px_nm V F σ i 0)) 9999 (px_gap σ i) := rfl
    rw [B5_4]
    simp (disch := omega) only [KC, HW hw, hRW.1.1, GA, GR, GRc, GO, GI, GL, GV, am_w_i, am_ga, am_it, am_if, true_and, and_true, or_true, true_or, ne_eq, not_false_eq_true, not_true_eq_false, false_imp_iff, true_imp_iff, Int.reduceEq, Int.reduceLT, Int.reduceLE, Int.reduceAdd, Int.reduceSub, Int.reduceMul, Int.reduceNeg]
    refine s3 C0 hs hR hW ⟨by omega, by omega⟩ (by omega) (by omega) ⟨by omega, by omega⟩ (fun L2 f2 => ?_)
    simp (disch := omega) only [HS hs, s62 hs (k := (i : Int)) ⟨by omega, by omega⟩ hA, hR.gap (k := (i : Int)), s4 (most := 9999) ⟨by omega, by omega⟩, GA, GR, GRc, GO, GI, GL, GV, am_w_i, am_ga, am_it, am_if, true_and, and_true, or_true, true_or, ne_eq, not_false_eq_true, not_true_eq_false, false_imp_iff, true_imp_iff, Int.reduceEq, Int.reduceLT, Int.reduceLE, Int.reduceAdd, Int.reduceSub, Int.reduceMul, Int.reduceNeg]
    rw [← e]
    exact ih L2 (hL.tr f2)
  · intro L1 hL
    rw [B5_4]
    simp (disch := omega) only [KC, HW hw, hRW.1.1, GA, GR, GRc, GO, GI, GL, GV, am_w_i, am_ga, am_it, am_if, true_and, and_true, or_true, true_or, ne_eq, not_false_eq_true, not_true_eq_false, false_imp_iff, true_imp_iff, Int.reduceEq, Int.reduceLT, Int.reduceLE, Int.reduceAdd, Int.reduceSub, Int.reduceMul, Int.reduceNeg]
    exact q L1 hL
theorem tmod_nn {a b : Int} (h : 0 ≤ a) : a.tmod b = a % b := by rw [Int.tmod_eq_emod_of_nonneg h]
/-- luck -/
theorem s9 {d : Nat} {w : Nat × Nat × Nat × Nat} {I L : Nat → Int → Int} {V σ : (Nat → Int → Int)} {lw : Int → (Int → Int) → Int} {F : Int → Int} {s : Nat} {odds : Int} (C : CC w I V lw F) (hs : isS s) (hR : RS I s σ) {Q : Option am_V → am_H → Prop} (q : ∀ I', RS I' s (am_up σ 0 8 (px_lk F (σ 0 8) odds).2) → Fr (fun a => a = s) I I' → (∀ j, j ≠ 8 → I' s j = I s j) → Q (some (vI (if (px_lk F (σ 0 8) odds).1 = true then 1 else 0))) (mkH w I' L)) : am_Sp (d + 1) 9 [vR (some 63), vR (some s), vI odds] (mkH w I L) Q := by
  have C0 := C
  obtain ⟨hw, hRW, hRL, hV, hF, hWF⟩ := C
  have e8 : I s 8 = σ 0 8 := hR.2.2.2.2.2
  have sm : RS I s (am_up σ 0 8 (σ 0 8)) := by
    have : am_up σ 0 8 (σ 0 8) = σ := by funext a j; unfold am_up; split <;> simp_all
    rw [this]; exact hR
  have hq := px_num_b (σ 0 8)
  have hq2 : 0 ≤ px_num (σ 0 8) / 65536 := Int.ediv_nonneg hq.1 (by omega)
  rw [S9]
  simp (disch := omega) only [KC, hF, HS hs, s65 hs, e8, tmod_nn hq2, B9_28, B9_32, B9_33, B9_48, B9_53, GA, GR, GRc, GO, GI, GL, GV, am_w_i, am_ga, am_it, am_if, true_and, and_true, or_true, true_or, ne_eq, not_false_eq_true, not_true_eq_false, false_imp_iff, true_imp_iff, Int.reduceEq, Int.reduceLT, Int.reduceLE, Int.reduceAdd, Int.reduceSub, Int.reduceMul, Int.reduceNeg]
  unfold px_lk at q
  by_cases c0 : F 7 = 0
  · rw [if_pos c0] at q
    simp (disch := omega) only [c0, GA, GR, GRc, GO, GI, GL, GV, am_w_i, am_ga, am_it, am_if, true_and, and_true, or_true, true_or, ne_eq, not_false_eq_true, not_true_eq_false, false_imp_iff, true_imp_iff, Int.reduceEq, Int.reduceLT, Int.reduceLE, Int.reduceAdd, Int.reduceSub, Int.reduceMul, Int.reduceNeg]
    by_cases c1 : odds = 100
    · rw [if_pos c1] at q
      have := q I sm Fr.rf (fun _ _ => rfl)
      simpa [c1] using this
    · rw [if_neg c1] at q
      by_cases c2 : odds ≤ 0
      · rw [if_pos c2] at q
        have := q I sm Fr.rf (fun _ _ => rfl)
        simpa [c1, c2] using this
      · rw [if_neg c2] at q
        have := q (am_up I s 8 (px_num (σ 0 8))) hR.u0 (Fr.rf.up rfl) (fun j hj => am_up_n _ _ _ _ hj)
        by_cases c3 : px_num (σ 0 8) / 65536 % 100 < odds
        · have c4 : ¬ odds ≤ px_num (σ 0 8) / 65536 % 100 := by omega
          simpa [c1, c2, c3, c4] using this
        · have c4 : odds ≤ px_num (σ 0 8) / 65536 % 100 := by omega
          simpa [c1, c2, c3, c4] using this
  · rw [if_neg c0] at q
    have := q I sm Fr.rf (fun _ _ => rfl)
    by_cases c1 : F 7 = 2
    · simpa [c0, c1] using this
    · by_cases c2 : 50 ≤ odds
      · have c3 : ¬ odds < 50 := by omega
        simpa [c0, c1, c2, c3] using this
      · have c3 : odds < 50 := by omega
        simpa [c0, c1, c2, c3] using this
/-- counters of a state: how many tasks came off, were in vain, were refused -/
def px_cnt (f : Int → Int) (v : Int) : Nat → Int
  | 0 => 0
  | n + 1 => px_cnt f v n + if f n = v then 1 else 0
def CT (I : (Nat → Int → Int)) (s n : Nat) : Prop := I s 5 = px_cnt (I (s + 3)) 1 n ∧ I s 6 = px_cnt (I (s + 3)) 2 n ∧ I s 7 = px_cnt (I (s + 3)) 3 n
theorem px_cnt_b (f : Int → Int) (v : Int) : ∀ n : Nat, 0 ≤ px_cnt f v n ∧ px_cnt f v n ≤ n
  | 0 => by simp [px_cnt]
  | n + 1 => by have := px_cnt_b f v n; rw [px_cnt]; split <;> omega
theorem px_cnt_up (f g : Int → Int) (i v x : Int) (h : ∀ j, j ≠ i → g j = f j) (hg : g i = x) : ∀ n : Nat, px_cnt g v n = px_cnt f v n + (if 0 ≤ i ∧ i < n then (if x = v then 1 else 0) - (if f i = v then 1 else 0) else 0)
  | 0 => by rw [px_cnt, px_cnt, if_neg (by omega)]; rfl
  | n + 1 => by
    have ih := px_cnt_up f g i v x h hg n
    rw [px_cnt, px_cnt, ih]
    by_cases e : (n : Int) = i
    · subst e
      have c1 : ¬ (0 ≤ (n : Int) ∧ (n : Int) < n) := by omega
      have c2 : 0 ≤ (n : Int) ∧ (n : Int) < ((n + 1 : Nat) : Int) := by omega
      rw [if_neg c1, if_pos c2, hg]
      generalize (if x = v then (1 : Int) else 0) = p
      generalize (if f n = v then (1 : Int) else 0) = p'
      omega
    · rw [h _ e]
      generalize (if f n = v then (1 : Int) else 0) = p'
      by_cases c : 0 ≤ i ∧ i < (n : Int)
      · rw [if_pos c, if_pos (show 0 ≤ i ∧ i < ((n + 1 : Nat) : Int) by omega)]; omega
      · rw [if_neg c, if_neg (show ¬ (0 ≤ i ∧ i < ((n + 1 : Nat) : Int)) by omega)]; omega
