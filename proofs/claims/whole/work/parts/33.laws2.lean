/-! 33: Arrays.fill; the class Laws -/
def cz_fl (I : (Nat → Int → Int)) (a : Nat) (n v : Int) : (Nat → Int → Int) := fun c j => if c = a ∧ 0 ≤ j ∧ j < n then v else I c j
theorem s280 {d : Nat} {w : (Nat × Nat × Nat × Nat)} {I L : (Nat → Int → Int)} {a n : Nat} {v : Int} (hn : n ≤ 4096) (hk : ∀ I, am_kd (mkH w I L) a = 13) (hl : ∀ I, am_ln (mkH w I L) a = n) (Q : Option am_V → am_H → Prop) : am_Sp d 280 [vR (some a), vI v] (mkH w I L) Q ↔ Q none (mkH w (cz_fl I a n v) L) := by
  refine am_det ?_ Q
  simp only [S280, hk, hl, true_and]
  have key := am_loop (α := (Nat → Int → Int)) n (fun i J => am_WP d 280 5 [some (vR (some a)), some (vI v), some (vI (i : Int)), some (vI (n : Int))] [] (mkH w J L) (fun r' h' => r' = none ∧ h' = mkH w (cz_fl I a n v) L)) (fun i J => J = cz_fl I a i v) (by
    intro i J hi hJ ih
    rw [B280_5]
    simp (disch := omega) only [hk, hl, B280_14, GA, GR, GRc, GO, GI, GL, GV, am_w_i, am_ga, am_it, am_if, true_and, and_true, or_true, true_or, ne_eq, not_false_eq_true, not_true_eq_false, false_imp_iff, true_imp_iff, Int.reduceEq, Int.reduceLT, Int.reduceLE, Int.reduceAdd, Int.reduceSub, Int.reduceMul, Int.reduceNeg]
    refine ih _ ?_
    rw [hJ]; funext c j; unfold am_up cz_fl
    by_cases q : c = a
    · subst q
      by_cases q2 : j = i
      · subst q2; simp; omega
      · simp only [q2, and_false, if_false, true_and]
        by_cases q3 : 0 ≤ j ∧ j < (i : Int)
        · rw [if_pos q3, if_pos (by omega)]
        · rw [if_neg q3, if_neg (by omega)]
    · simp only [q, false_and, if_false]) (by
    intro J hJ
    rw [B280_5]
    simp (disch := omega) only [GA, GR, GRc, GO, GI, GL, GV, am_w_i, am_ga, am_it, am_if, true_and, and_true, or_true, true_or, ne_eq, not_false_eq_true, not_true_eq_false, false_imp_iff, true_imp_iff, Int.reduceEq, Int.reduceLT, Int.reduceLE, Int.reduceAdd, Int.reduceSub, Int.reduceMul, Int.reduceNeg]
    rw [hJ])
  exact key 0 I (Nat.zero_le _) (by funext c j; unfold cz_fl; rw [if_neg (by omega)])
theorem s14 {d : Nat} {w : Nat × Nat × Nat × Nat} {I L : Nat → Int → Int} {s : Nat} {l : Int} (hs : isW s) (hl : 0 ≤ l ∧ l < 3) (Q : Option am_V → am_H → Prop) : am_Sp d 14 [vR (some (s + 15)), vI l] (mkH w I L) Q ↔ Q (some (vI (if I (s + 17) l < 0 then 0 else 1))) (mkH w I L) := by
  simp (disch := omega) only [S14, B14_14, HW hs, am_iteI, GA, GR, GRc, GO, GI, GL, GV, am_w_i, am_ga, am_it, am_if, true_and, and_true, or_true, true_or, ne_eq, not_false_eq_true, not_true_eq_false, false_imp_iff, true_imp_iff, Int.reduceEq, Int.reduceLT, Int.reduceLE, Int.reduceAdd, Int.reduceSub, Int.reduceMul, Int.reduceNeg]
theorem s13 {d : Nat} {w : Nat × Nat × Nat × Nat} {I L : Nat → Int → Int} {s : Nat} {v : Int} (hs : isW s) (h0 : 0 ≤ I (s + 15) 1 ∧ I (s + 15) 1 < 64) (Q : Option am_V → am_H → Prop) : am_Sp d 13 [vR (some (s + 15)), vI v] (mkH w I L) Q ↔ Q none (mkH w (am_up (am_up I (s + 16) (I (s + 15) 1) v) (s + 15) 1 (I (s + 15) 1 + 1)) L) := by
  simp (disch := omega) only [S13, B13_19, HW hs, am_up_a, GA, GR, GRc, GO, GI, GL, GV, am_w_i, am_ga, am_it, am_if, true_and, and_true, or_true, true_or, ne_eq, not_false_eq_true, not_true_eq_false, false_imp_iff, true_imp_iff, Int.reduceEq, Int.reduceLT, Int.reduceLE, Int.reduceAdd, Int.reduceSub, Int.reduceMul, Int.reduceNeg]
def px_okr (r : Int) : Prop := -120 ≤ r ∧ r ≤ 9999
theorem px_join_b {s a b : Int} (ha : -lT ≤ a ∧ a ≤ lT) (hb : -lT ≤ b ∧ b ≤ lT) : px_join s a b = px_join s a b := rfl
set_option maxHeartbeats 1000000 in
theorem s15 {d : Nat} {w : Nat × Nat × Nat × Nat} {I L : Nat → Int → Int} {s m : Nat} {l : Int} {nm : Int → Int} (hs : isW s) (hl : 0 ≤ l ∧ l < 3) (h0 : 0 ≤ I (s + 17) l) (hm : I (s + 18) l = I (s + 17) l + m) (h1 : I (s + 18) l ≤ 64) (hr : ∀ j, I (s + 17) l ≤ j → j < I (s + 18) l → px_okr (I (s + 16) j)) (hn : ∀ j, 0 ≤ j → j < 7 → L (s + 19) j = nm j) (hb : ∀ j, 0 ≤ j → j < 7 → -lT ≤ nm j ∧ nm j ≤ lT) {Q : Option am_V → am_H → Prop} (q : ∀ L', Fr (fun a => a = s + 20) L L' → Q (some (vL (px_val (I (s + 16)) nm (I (s + 17) l) m))) (mkH w I L')) : am_Sp (d + 1) 15 [vR (some (s + 15)), vI l] (mkH w I L) Q := by
  rw [S15]
  simp (disch := omega) only [HW hs, GA, GR, GRc, GO, GI, GL, GV, am_w_i, am_ga, am_it, am_if, true_and, and_true, or_true, true_or, ne_eq, not_false_eq_true, not_true_eq_false, false_imp_iff, true_imp_iff, Int.reduceEq, Int.reduceLT, Int.reduceLE, Int.reduceAdd, Int.reduceSub, Int.reduceMul, Int.reduceNeg]
  have key := am_loop (α := Option am_V × Option am_V × Nat × (Nat → Int → Int)) m (fun i x => am_WP (d + 1) 15 9 [some (vR (some (s + 15))), some (vI l), some (vI (x.2.2.1 : Int)), some (vI (I (s + 17) l + i)), x.1, x.2.1, none] [] (mkH w I x.2.2.2) Q) (fun i x => ∃ st, px_rp (I (s + 16)) nm (I (s + 17) l) i = some (x.2.2.1, st) ∧ x.2.2.1 ≤ 64 ∧ (∀ j : Int, 0 ≤ j → j < x.2.2.1 → x.2.2.2 (s + 20) j = st j ∧ -lT ≤ st j ∧ st j ≤ lT) ∧ Fr (fun a => a = s + 20) L x.2.2.2) ?_ ?_ 0 (none, none, 0, L) (Nat.zero_le _) ⟨fun _ => 0, rfl, Nat.zero_le _, fun j h1 h2 => absurd h2 (by simp; omega), Fr.rf⟩
  · simpa using key
  · intro i ⟨l4, l5, n, L1⟩ hi ⟨st, e1, e2, e3, e4⟩ ih
    dsimp only at e1 e2 e3 e4 ⊢
    have hrow := hr (I (s + 17) l + i) (by omega) (by omega)
    unfold px_okr at hrow
    have step : px_rp (I (s + 16)) nm (I (s + 17) l) (i + 1) = px_st nm (I (s + 16) (I (s + 17) l + i)) (some (n, st)) := by rw [px_rp, e1]
    have eN : L1 (s + 19) = L (s + 19) := e4 (s + 19) (by omega)
    have stop : px_rp (I (s + 16)) nm (I (s + 17) l) (i + 1) = none → ∀ L2, Fr (fun a => a = s + 20) L L2 → Q (some (vL (-9223372036854775808))) (mkH w I L2) := by
      intro z L2 f2
      have := q L2 f2
      rw [px_val_none z (by omega)] at this
      exact this
    generalize hR : I (s + 16) (I (s + 17) l + i) = r at hrow step
    have hw1 : am_w (I (s + 17) l + i + 1) = I (s + 17) l + ((i + 1 : Nat) : Int) := by rw [am_w_i (by omega) (by omega)]; omega
    rw [B15_9]
    simp (disch := omega) only [HW hs, hR, GA, GR, GRc, GO, GI, GL, GV, am_w_i, am_ga, am_it, am_if, true_and, and_true, or_true, true_or, ne_eq, not_false_eq_true, not_true_eq_false, false_imp_iff, true_imp_iff, Int.reduceEq, Int.reduceLT, Int.reduceLE, Int.reduceAdd, Int.reduceSub, Int.reduceMul, Int.reduceNeg]
    have go : ∀ (x : Int) (a5 : Option am_V) (n' : Nat) (L2 : (Nat → Int → Int)) (st' : Int → Int), px_st nm r (some (n, st)) = some (n', st') → n' ≤ 64 → (∀ j : Int, 0 ≤ j → j < n' → L2 (s + 20) j = st' j ∧ -lT ≤ st' j ∧ st' j ≤ lT) → Fr (fun a => a = s + 20) L L2 → am_WP (d + 1) 15 194 [some (vR (some (s + 15))), some (vI l), some (vI (n' : Int)), some (vI (I (s + 17) l + i)), some (vI x), a5, none] [] (mkH w I L2) Q := by
      intro x a5 n' L2 st' h1 h2 h3 h4
      rw [B15_194, hw1]
      exact ih (some (vI x), a5, n', L2) ⟨st', step.trans h1, h2, h3, h4⟩
    have e3u : ∀ (k : Nat) (v : Int), n - 1 ≤ k + 1 → k ≤ n → -lT ≤ v ∧ v ≤ lT → ∀ j : Int, 0 ≤ j → j < (k + 1 : Nat) → am_up L1 (s + 20) k v (s + 20) j = px_up st k v j ∧ -lT ≤ px_up st k v j ∧ px_up st k v j ≤ lT := by
      intro k v _ hk hv j j0 j1
      unfold px_up
      by_cases z : j = k
      · subst z; rw [am_up_s, if_pos rfl]; exact ⟨rfl, hv⟩
      · rw [am_up_n _ _ _ _ z, if_neg z]; exact e3 j j0 (by omega)
    have fu : ∀ (k v : Int), Fr (fun a => a = s + 20) L (am_up L1 (s + 20) k v) := fun k v => e4.up rfl
    by_cases c1 : -r ≤ 0 ∨ 114 ≤ -r
    · have sn : 64 ≤ n → px_rp (I (s + 16)) nm (I (s + 17) l) (i + 1) = none := fun z => by rw [step, px_st, if_pos c1, if_pos z]
      have ss : n < 64 → px_st nm r (some (n, st)) = some (n + 1, px_up st n (if -r ≤ 0 then r else nm (-r - 114))) := fun z => by rw [px_st, if_pos c1, if_neg (by omega)]
      have g : am_WP (d + 1) 15 40 [some (vR (some (s + 15))), some (vI l), some (vI (n : Int)), some (vI (I (s + 17) l + i)), some (vI (-r)), l5, none] [] (mkH w I L1) Q := by
        rw [B15_40]
        by_cases c2 : n < 64
        · have ps : ∀ v, v = (if -r ≤ 0 then r else nm (-r - 114)) → -lT ≤ v ∧ v ≤ lT → am_WP (d + 1) 15 77 [some (vR (some (s + 15))), some (vI l), some (vI (n : Int)), some (vI (I (s + 17) l + i)), some (vI (-r)), l5, none] [vL v, vI (n : Int), vR (some (s + 20))] (mkH w I L1) Q := by
            intro v hv hvb
            rw [B15_77]
            simp (disch := omega) only [HW hs, B15_78, GA, GR, GRc, GO, GI, GL, GV, am_w_i, am_ga, am_it, am_if, true_and, and_true, or_true, true_or, ne_eq, not_false_eq_true, not_true_eq_false, false_imp_iff, true_imp_iff, Int.reduceEq, Int.reduceLT, Int.reduceLE, Int.reduceAdd, Int.reduceSub, Int.reduceMul, Int.reduceNeg]
            have := go (-r) l5 (n + 1) (am_up L1 (s + 20) n v) _ (ss c2) (by omega) (by rw [← hv]; exact e3u n v (by omega) (by omega) hvb) (fu _ _)
            exact this
          simp (disch := omega) only [HW hs, GA, GR, GRc, GO, GI, GL, GV, am_w_i, am_ga, am_it, am_if, true_and, and_true, or_true, true_or, ne_eq, not_false_eq_true, not_true_eq_false, false_imp_iff, true_imp_iff, Int.reduceEq, Int.reduceLT, Int.reduceLE, Int.reduceAdd, Int.reduceSub, Int.reduceMul, Int.reduceNeg]
          refine ⟨fun c3 => ?_, fun c3 => ?_⟩
          · have hb1 := hb (-r - 114) (by omega) (by omega)
            rw [eN, hn _ (by omega) (by omega)]
            exact ⟨⟨by omega, by omega⟩, ps _ (by rw [if_neg (by omega)]) hb1⟩
          · rw [show - -r = r by omega]
            exact ps r (by rw [if_pos (by omega)]) (by unfold lT; omega)
        · simp (disch := omega) only [GA, GR, GRc, GO, GI, GL, GV, am_w_i, am_ga, am_it, am_if, true_and, and_true, or_true, true_or, ne_eq, not_false_eq_true, not_true_eq_false, false_imp_iff, true_imp_iff, Int.reduceEq, Int.reduceLT, Int.reduceLE, Int.reduceAdd, Int.reduceSub, Int.reduceMul, Int.reduceNeg]
          exact stop (sn (by omega)) L1 e4
      rcases c1 with c1 | c1
      · simp (disch := omega) only [g, GA, GR, GRc, GO, GI, GL, GV, am_w_i, am_ga, am_it, am_if, true_and, and_true, or_true, true_or, ne_eq, not_false_eq_true, not_true_eq_false, false_imp_iff, true_imp_iff, Int.reduceEq, Int.reduceLT, Int.reduceLE, Int.reduceAdd, Int.reduceSub, Int.reduceMul, Int.reduceNeg]
      · simp (disch := omega) only [g, GA, GR, GRc, GO, GI, GL, GV, am_w_i, am_ga, am_it, am_if, true_and, and_true, or_true, true_or, ne_eq, not_false_eq_true, not_true_eq_false, false_imp_iff, true_imp_iff, Int.reduceEq, Int.reduceLT, Int.reduceLE, Int.reduceAdd, Int.reduceSub, Int.reduceMul, Int.reduceNeg]
    · have d1 : ¬ -r ≤ 0 := fun z => c1 (Or.inl z)
      have d2 : ¬ 114 ≤ -r := fun z => c1 (Or.inr z)
      by_cases c2 : -r = 113
      · simp (disch := omega) only [GA, GR, GRc, GO, GI, GL, GV, am_w_i, am_ga, am_it, am_if, true_and, and_true, or_true, true_or, ne_eq, not_false_eq_true, not_true_eq_false, false_imp_iff, true_imp_iff, Int.reduceEq, Int.reduceLT, Int.reduceLE, Int.reduceAdd, Int.reduceSub, Int.reduceMul, Int.reduceNeg]
        refine ⟨fun c3 => ?_, fun c3 => ?_⟩
        · have ss : px_st nm r (some (n, st)) = some (n, px_up st ((n : Int) - 1) (if st ((n : Int) - 1) = 0 then 1 else 0)) := by rw [px_st, if_neg c1, if_pos c2, if_neg (by omega)]
          have e5 := e3 ((n : Int) - 1) (by omega) (by omega)
          obtain ⟨k, rfl⟩ : ∃ k, n = k + 1 := ⟨n - 1, by omega⟩
          have ek : ((k + 1 : Nat) : Int) - 1 = k := by omega
          rw [ek] at e5 ss
          simp (disch := omega) only [CMP, e5.1, B15_126, ek, GA, GR, GRc, GO, GI, GL, GV, am_w_i, am_ga, am_it, am_if, true_and, and_true, or_true, true_or, ne_eq, not_false_eq_true, not_true_eq_false, false_imp_iff, true_imp_iff, Int.reduceEq, Int.reduceLT, Int.reduceLE, Int.reduceAdd, Int.reduceSub, Int.reduceMul, Int.reduceNeg]
          refine ⟨fun c4 => ?_, fun c4 => ?_⟩
          · rw [B15_125]
            simp (disch := omega) only [HW hs, B15_126, GA, GR, GRc, GO, GI, GL, GV, am_w_i, am_ga, am_it, am_if, true_and, and_true, or_true, true_or, ne_eq, not_false_eq_true, not_true_eq_false, false_imp_iff, true_imp_iff, Int.reduceEq, Int.reduceLT, Int.reduceLE, Int.reduceAdd, Int.reduceSub, Int.reduceMul, Int.reduceNeg]
            exact go (-r) l5 (k + 1) _ _ ss (by omega) (by rw [if_neg c4]; exact e3u k 0 (by omega) (by omega) (by unfold lT; omega)) (fu _ _)
          · rw [B15_125]
            simp (disch := omega) only [HW hs, B15_126, GA, GR, GRc, GO, GI, GL, GV, am_w_i, am_ga, am_it, am_if, true_and, and_true, or_true, true_or, ne_eq, not_false_eq_true, not_true_eq_false, false_imp_iff, true_imp_iff, Int.reduceEq, Int.reduceLT, Int.reduceLE, Int.reduceAdd, Int.reduceSub, Int.reduceMul, Int.reduceNeg]
            exact go (-r) l5 (k + 1) _ _ ss (by omega) (by rw [if_pos (by omega)]; exact e3u k 1 (by omega) (by omega) (by unfold lT; omega)) (fu _ _)
        · exact stop (by rw [step, px_st, if_neg c1, if_pos c2, if_pos (by omega)]) L1 e4
      · simp (disch := omega) only [GA, GR, GRc, GO, GI, GL, GV, am_w_i, am_ga, am_it, am_if, true_and, and_true, or_true, true_or, ne_eq, not_false_eq_true, not_true_eq_false, false_imp_iff, true_imp_iff, Int.reduceEq, Int.reduceLT, Int.reduceLE, Int.reduceAdd, Int.reduceSub, Int.reduceMul, Int.reduceNeg]
        refine ⟨fun c3 => ?_, fun c3 => ?_⟩
        · obtain ⟨k, rfl⟩ : ∃ k, n = k + 2 := ⟨n - 2, by omega⟩
          have ek1 : ((k + 2 : Nat) : Int) - 2 = k := by omega
          have ek2 : ((k + 2 : Nat) : Int) - 1 = k + 1 := by omega
          have ek3 : ((k + 2 : Nat) : Int) + -1 = k + 1 := by omega
          have ek4 : (k : Int) + 1 - 1 = k := by omega
          have e5 := e3 k (by omega) (by omega)
          have e6 := e3 ((k : Int) + 1) (by omega) (by omega)
          have ss : px_st nm r (some (k + 2, st)) = if px_join (-r) (st k) (st (k + 1)) > lT ∨ px_join (-r) (st k) (st (k + 1)) < -lT then none else some (k + 1, px_up st k (px_join (-r) (st k) (st (k + 1)))) := by rw [px_st, if_neg c1, if_neg c2, if_neg (by omega), ek1, ek2]; rfl
          simp (disch := omega) only [ek3, ek4, e5.1, e6.1, s16 e5.2 e6.2, CMP, HW hs, B15_180, GA, GR, GRc, GO, GI, GL, GV, am_w_i, am_ga, am_it, am_if, true_and, and_true, or_true, true_or, ne_eq, not_false_eq_true, not_true_eq_false, false_imp_iff, true_imp_iff, Int.reduceEq, Int.reduceLT, Int.reduceLE, Int.reduceAdd, Int.reduceSub, Int.reduceMul, Int.reduceNeg]
          generalize px_join (-r) (st k) (st (k + 1)) = v at ss
          refine ⟨fun c4 => ?_, fun c4 => ⟨fun c5 => ?_, fun c5 => ?_⟩⟩
          · exact stop (by rw [step, ss, if_pos (Or.inl (by unfold lT; omega))]) L1 e4
          · exact go (-r) (some (vL v)) (k + 1) _ _ (by rw [ss, if_neg (by unfold lT; omega)]) (by omega) (e3u k v (by omega) (by omega) (by unfold lT; omega)) (fu _ _)
          · exact stop (by rw [step, ss, if_pos (Or.inr (by unfold lT; omega))]) L1 e4
        · exact stop (by rw [step, px_st, if_neg c1, if_neg c2, if_pos (by omega)]) L1 e4
  · intro ⟨l4, l5, n, L1⟩ ⟨st, e1, e2, e3, e4⟩
    dsimp only at e1 e2 e3 e4 ⊢
    rw [B15_9]
    simp (disch := omega) only [HW hs, B15_217, GA, GR, GRc, GO, GI, GL, GV, am_w_i, am_ga, am_it, am_if, true_and, and_true, or_true, true_or, ne_eq, not_false_eq_true, not_true_eq_false, false_imp_iff, true_imp_iff, Int.reduceEq, Int.reduceLT, Int.reduceLE, Int.reduceAdd, Int.reduceSub, Int.reduceMul, Int.reduceNeg]
    have := q L1 e4
    rw [px_val, e1] at this
    dsimp only at this
    refine ⟨fun c => ?_, fun c => ?_⟩
    · rw [if_neg (by omega)] at this; exact this
    · have hn1 : n = 1 := by omega
      rw [if_pos hn1, ← (e3 0 (by omega) (by omega)).1] at this
      exact this
