/-! 9q: an E, the class: the loop; the line law; a line -/
theorem EC.w {w : (Nat × Nat × Nat × Nat)} {I X : (Nat → Int → Int)} (h : EC w I X) (hW : isW w.2.2.1) : EC w (am_up I 44 8 (X 0 8 - 1)) (am_up X 0 8 (X 0 8 - 1)) := by
  refine ⟨PX.z (h.1.f2 hW (fun a ha => by rw [am_up_a _ _ _ _ (by omega)]) (fun j hj => by rw [am_up_n _ _ _ _ (by omega)])) (by decide), ⟨?_, ?_⟩, fun j j0 j1 => ?_⟩
  · rw [am_up_s, am_up_s]
  · rw [am_up_n _ _ _ _ (by decide), am_up_n _ _ _ _ (by decide)]; exact h.2.1.2
  · rw [am_up_s] at j1
    rw [am_up_a _ _ _ _ (by decide), am_up_a _ _ _ _ (by decide)]
    exact h.2.2 j j0 (by omega)
theorem ptF_0 {s u : Nat → Int} {X : (Nat → Int → Int)} {k : Nat} (h : (ptF s u X k).1 = 0) : s k ≠ 0 := fun z => by
  unfold ptF at h
  rw [z, if_neg (by decide), if_neg (by decide), if_neg (by decide), if_neg (by omega)] at h
  simp at h
theorem vlF_k {s u : Nat → Int} {K : Nat} (h0 : s K = 0) : ∀ {f : Nat} {X : (Nat → Int → Int)} {b : Int} {k : Nat}, k ≤ K → (vlF s u f X b k).1 = 0 → (vlF s u f X b k).2.1 ≤ K
  | 0, X, b, k, hk, h => hk
  | f + 1, X, b, k, hk, h => by
    rw [vlF] at h ⊢
    by_cases c : b = 1
    · rw [if_pos c] at h ⊢
      by_cases c1 : (ptF s u X k).1 = 0
      · rw [if_pos c1] at h ⊢; exact vlF_k h0 (rd_k h0 hk (ptF_0 c1)) h
      · rw [if_neg c1] at h ⊢; exact hk
    · rw [if_neg c] at h ⊢
      by_cases c1 : s k = 41 ∧ 0 < X 0 10
      · rw [if_pos c1] at h ⊢; exact vlF_k h0 (rd_k h0 hk (by omega)) h
      · rw [if_neg c1] at h ⊢
        by_cases c2 : s k ≠ 113 ∧ 0 < bdC (s k)
        · rw [if_pos c2] at h ⊢
          have s0 : s k ≠ 0 := fun z => by have := c2.2; rw [z] at this; exact absurd this (by decide)
          by_cases c3 : (siF s X k).1 = 0
          · rw [if_pos c3] at h ⊢; exact vlF_k h0 (rd_k h0 hk s0) h
          · rw [if_neg c3] at h ⊢; exact hk
        · rw [if_neg c2] at h ⊢
          by_cases c3 : 0 < X 0 10
          · rw [if_pos c3]; exact hk
          · rw [if_neg c3]; exact hk
set_option maxHeartbeats 2000000 in
theorem c_val {d : Nat} {w : (Nat × Nat × Nat × Nat)} {L : (Nat → Int → Int)} {s u pl : Nat → Int} {K : Nat} {a0 : Int} {Q : Option am_V → am_H → Prop} (hu : TU s u K) (hW : isW w.2.2.1) : ∀ (f : Nat) (I X : (Nat → Int → Int)) (b : Int) (k i : Nat) (l3 : Option am_V), k + f = K + 1 → i ≤ k → k ≤ K → cT s u pl K I → EC w I X → EI a0 b X → (b = 0 ∨ b = 1) → I 44 3 = k → LCo w I pl L (vlF s u f X b k) Q → am_WP (d + 3) 43 14 [some (vR (some 44)), some (vI b), some (vI (i : Int)), l3] [] (mkH w I L) Q
  | 0, I, X, b, k, i, l3, hf, hi, hk, hT, hc, he, hb, h3, q => absurd hf (by omega)
  | f + 1, I, X, b, k, i, l3, hf, hi, hk, hT, hc, he, hb, h3, q => by
    have hl := isW_le hW
    have hK := hu.2.1
    have h0 := hu.1
    have t1 := (hT k hk).1
    have e9 : I 44 9 = X 0 10 := hc.2.1.2
    have ei : ((i + 1 : Nat) : Int) = (i : Int) + 1 := by omega
    rw [vlF] at q
    rw [B43_14]
    rcases hb with rfl | rfl
    · rw [if_neg (by decide)] at q
      have bd := he.bd (by decide)
      by_cases c41 : s k = 41 ∧ 0 < X 0 10
      · rw [if_pos c41] at q
        have kK := rd_k h0 hk (show s k ≠ 0 by omega)
        have cl := he.cl c41.2
        have cl1 := c41.1
        have cl2 := c41.2
        simp (disch := omega) only [KP, h3, t1, cl1, e9, GA, GR, GRc, GO, GI, GL, GV, am_w_i, am_ga, am_it, am_if, true_and, and_true, or_true, true_or, ne_eq, not_false_eq_true, not_true_eq_false, false_imp_iff, true_imp_iff, Int.reduceEq, Int.reduceLT, Int.reduceLE, Int.reduceAdd, Int.reduceSub, Int.reduceMul, Int.reduceNeg]
        refine s49 (d := d + 1) (X := X) (a0 := a0) (least := 0) hW hc he (fun I1 f1 c1 a1 => ?_)
        have r := EI.rl (least := 0) (m := (X 0 8).toNat) he (by omega)
        have ec : EC w (am_up (am_up (am_up I1 44 8 (eRl 0 (X 0 8).toNat X 0 8 - 1)) 44 9 (eRl 0 (X 0 8).toNat X 0 10 - 1)) 44 3 ((k : Int) + 1)) (eCl X) := by
          have := (((c1.w hW).o (v := eRl 0 (X 0 8).toNat X 0 10 - 1) hW).at (i := 3) (v := (k : Int) + 1) hW (by decide))
          unfold eCl; exact this
        have i8 : I1 44 8 = eRl 0 (X 0 8).toNat X 0 8 := c1.2.1.1
        have i9 : I1 44 9 = eRl 0 (X 0 8).toNat X 0 10 := c1.2.1.2
        have i3 : I1 44 3 = (k : Int) := a1.trans h3
        have bY := r.1.bd (by decide)
        have y10 := r.2.1.1
        have F4 := ((f1.up (a := 44) (i := 8) (v := eRl 0 (X 0 8).toNat X 0 8 - 1) (Or.inl rfl)).up (a := 44) (i := 9) (v := eRl 0 (X 0 8).toNat X 0 10 - 1) (Or.inl rfl)).up (a := 44) (i := 3) (v := (k : Int) + 1) (Or.inl rfl)
        have ih := c_val (d := d) (L := L) (pl := pl) (a0 := a0) (Q := Q) hu hW f _ (eCl X) 0 (k + 1) (i + 1) (some (vI 41)) (by omega) (by omega) kK (hT.cw hW F4) ec cl.1 (Or.inl rfl) (by rw [am_up_s]; omega) (q.tr F4)
        rw [ei] at ih
        clear q he hc c1 ec r cl hT F4
        generalize eRl 0 (X 0 8).toNat X 0 8 = y8 at i8 bY ih
        generalize eRl 0 (X 0 8).toNat X 0 10 = y10' at i9 bY y10 ih
        simp (disch := omega) only [KP, i8, i9, i3, am_up_n, B43_97, B43_107, B43_135, B43_145, GA, GR, GRc, GO, GI, GL, GV, am_w_i, am_ga, am_it, am_if, true_and, and_true, or_true, true_or, ne_eq, not_false_eq_true, not_true_eq_false, false_imp_iff, true_imp_iff, Int.reduceEq, Int.reduceLT, Int.reduceLE, Int.reduceAdd, Int.reduceSub, Int.reduceMul, Int.reduceNeg]
        all_goals exact ih
      · rw [if_neg c41] at q
        have g : am_WP (d + 3) 43 110 [some (vR (some 44)), some (vI 0), some (vI (i : Int)), some (vI (s k))] [] (mkH w I L) Q := by
          rw [B43_110]
          by_cases cs : s k ≠ 113 ∧ 0 < bdC (s k)
          · rw [if_pos cs] at q
            have hw := wbn_of cs.2 cs.1
            have s0 : s k ≠ 0 := fun z => by have := cs.2; rw [z] at this; exact absurd this (by decide)
            have kK := rd_k h0 hk s0
            have cs1 := cs.1
            have cs2 := cs.2
            simp (disch := omega) only [KP, s50, GA, GR, GRc, GO, GI, GL, GV, am_w_i, am_ga, am_it, am_if, true_and, and_true, or_true, true_or, ne_eq, not_false_eq_true, not_true_eq_false, false_imp_iff, true_imp_iff, Int.reduceEq, Int.reduceLT, Int.reduceLE, Int.reduceAdd, Int.reduceSub, Int.reduceMul, Int.reduceNeg]
            refine s45 (d := d) hT hu hW hc he hw h3 hk ⟨fun I1 f1 x1 c1 a1 => ?_, fun I1 f1 x1 y1 z1 => ?_⟩
            · rw [if_pos x1] at q
              have sg := he.sg hw x1
              have F2 := f1.up (a := 44) (i := 3) (v := (k : Int) + 1) (Or.inl rfl)
              have ih := c_val (d := d) (L := L) (pl := pl) (a0 := a0) (Q := Q) hu hW f (am_up I1 44 3 ((k : Int) + 1)) (siF s X k).2 1 (k + 1) (i + 1) (some (vI (s k))) (by omega) (by omega) kK (hT.cw hW F2) (c1.at hW (by decide)) sg.1 (Or.inr rfl) (by rw [am_up_s]; omega) (q.tr F2)
              rw [ei] at ih
              clear q he hc c1 sg hT F2
              simp (disch := omega) only [KP, a1, B43_135, B43_145, GA, GR, GRc, GO, GI, GL, GV, am_w_i, am_ga, am_it, am_if, true_and, and_true, or_true, true_or, ne_eq, not_false_eq_true, not_true_eq_false, false_imp_iff, true_imp_iff, Int.reduceEq, Int.reduceLT, Int.reduceLE, Int.reduceAdd, Int.reduceSub, Int.reduceMul, Int.reduceNeg]
              all_goals exact ih
            · rw [if_neg x1] at q
              have z := q.2 I1 f1 x1 y1 z1
              clear q he hc hT
              first | (simp (disch := omega) only [GA, GR, GRc, GO, GI, GL, GV, am_w_i, am_ga, am_it, am_if, true_and, and_true, or_true, true_or, ne_eq, not_false_eq_true, not_true_eq_false, false_imp_iff, true_imp_iff, Int.reduceEq, Int.reduceLT, Int.reduceLE, Int.reduceAdd, Int.reduceSub, Int.reduceMul, Int.reduceNeg]; exact z) | simp (disch := omega) only [z, GA, GR, GRc, GO, GI, GL, GV, am_w_i, am_ga, am_it, am_if, true_and, and_true, or_true, true_or, ne_eq, not_false_eq_true, not_true_eq_false, false_imp_iff, true_imp_iff, Int.reduceEq, Int.reduceLT, Int.reduceLE, Int.reduceAdd, Int.reduceSub, Int.reduceMul, Int.reduceNeg]
          · rw [if_neg cs] at q
            have g : am_WP (d + 3) 43 151 [some (vR (some 44)), some (vI 0), some (vI (i : Int)), some (vI (s k))] [] (mkH w I L) Q := by
              rw [B43_151]
              by_cases co : 0 < X 0 10
              · rw [if_pos co] at q
                have z := q.2 (am_up (am_up I 44 0 1) 44 1 (pl k)) ((CW.rf.up (Or.inl rfl)).up (Or.inl rfl)) (by simp) (by rw [am_up_n _ _ _ _ (by decide), am_up_s]) (am_up_s _ _ _ _)
                clear q he hc
                first | (simp (disch := omega) only [KP, e9, h3, s27 hT hk hK, GA, GR, GRc, GO, GI, GL, GV, am_w_i, am_ga, am_it, am_if, true_and, and_true, or_true, true_or, ne_eq, not_false_eq_true, not_true_eq_false, false_imp_iff, true_imp_iff, Int.reduceEq, Int.reduceLT, Int.reduceLE, Int.reduceAdd, Int.reduceSub, Int.reduceMul, Int.reduceNeg]; exact z) | simp (disch := omega) only [KP, e9, h3, s27 hT hk hK, z, GA, GR, GRc, GO, GI, GL, GV, am_w_i, am_ga, am_it, am_if, true_and, and_true, or_true, true_or, ne_eq, not_false_eq_true, not_true_eq_false, false_imp_iff, true_imp_iff, Int.reduceEq, Int.reduceLT, Int.reduceLE, Int.reduceAdd, Int.reduceSub, Int.reduceMul, Int.reduceNeg]
              · rw [if_neg co] at q
                simp (disch := omega) only [KP, e9, GA, GR, GRc, GO, GI, GL, GV, am_w_i, am_ga, am_it, am_if, true_and, and_true, or_true, true_or, ne_eq, not_false_eq_true, not_true_eq_false, false_imp_iff, true_imp_iff, Int.reduceEq, Int.reduceLT, Int.reduceLE, Int.reduceAdd, Int.reduceSub, Int.reduceMul, Int.reduceNeg]
                refine s49 (d := d + 1) (X := X) (a0 := a0) (least := 0) hW hc he (fun I1 f1 c1 a1 => ?_)
                have z := q.1 I1 f1 rfl c1.1 (a1.trans h3)
                clear q he hc c1 hT
                first | (simp (disch := omega) only [GA, GR, GRc, GO, GI, GL, GV, am_w_i, am_ga, am_it, am_if, true_and, and_true, or_true, true_or, ne_eq, not_false_eq_true, not_true_eq_false, false_imp_iff, true_imp_iff, Int.reduceEq, Int.reduceLT, Int.reduceLE, Int.reduceAdd, Int.reduceSub, Int.reduceMul, Int.reduceNeg]; exact z) | simp (disch := omega) only [z, GA, GR, GRc, GO, GI, GL, GV, am_w_i, am_ga, am_it, am_if, true_and, and_true, or_true, true_or, ne_eq, not_false_eq_true, not_true_eq_false, false_imp_iff, true_imp_iff, Int.reduceEq, Int.reduceLT, Int.reduceLE, Int.reduceAdd, Int.reduceSub, Int.reduceMul, Int.reduceNeg]
            clear q he hc hT
            by_cases c113 : s k = 113
            · simp (disch := omega) only [c113, GA, GR, GRc, GO, GI, GL, GV, am_w_i, am_ga, am_it, am_if, true_and, and_true, or_true, true_or, ne_eq, not_false_eq_true, not_true_eq_false, false_imp_iff, true_imp_iff, Int.reduceEq, Int.reduceLT, Int.reduceLE, Int.reduceAdd, Int.reduceSub, Int.reduceMul, Int.reduceNeg]
              rw [c113] at g
              all_goals exact g
            · have c0 : bdC (s k) ≤ 0 := by
                have : ¬ 0 < bdC (s k) := fun z => cs ⟨c113, z⟩
                omega
              simp (disch := omega) only [c113, s50, c0, GA, GR, GRc, GO, GI, GL, GV, am_w_i, am_ga, am_it, am_if, true_and, and_true, or_true, true_or, ne_eq, not_false_eq_true, not_true_eq_false, false_imp_iff, true_imp_iff, Int.reduceEq, Int.reduceLT, Int.reduceLE, Int.reduceAdd, Int.reduceSub, Int.reduceMul, Int.reduceNeg]
              all_goals exact g
        clear q he hc hT
        by_cases c : s k = 41
        · have : X 0 10 ≤ 0 := by
            have : ¬ 0 < X 0 10 := fun z => c41 ⟨c, z⟩
            omega
          rw [c] at g
          simp (disch := omega) only [KP, h3, t1, e9, c, GA, GR, GRc, GO, GI, GL, GV, am_w_i, am_ga, am_it, am_if, true_and, and_true, or_true, true_or, ne_eq, not_false_eq_true, not_true_eq_false, false_imp_iff, true_imp_iff, Int.reduceEq, Int.reduceLT, Int.reduceLE, Int.reduceAdd, Int.reduceSub, Int.reduceMul, Int.reduceNeg]
          all_goals exact g
        · simp (disch := omega) only [KP, h3, t1, e9, c, GA, GR, GRc, GO, GI, GL, GV, am_w_i, am_ga, am_it, am_if, true_and, and_true, or_true, true_or, ne_eq, not_false_eq_true, not_true_eq_false, false_imp_iff, true_imp_iff, Int.reduceEq, Int.reduceLT, Int.reduceLE, Int.reduceAdd, Int.reduceSub, Int.reduceMul, Int.reduceNeg]
          all_goals exact g
    · rw [if_pos rfl] at q
      simp (disch := omega) only [KP, h3, t1, GA, GR, GRc, GO, GI, GL, GV, am_w_i, am_ga, am_it, am_if, true_and, and_true, or_true, true_or, ne_eq, not_false_eq_true, not_true_eq_false, false_imp_iff, true_imp_iff, Int.reduceEq, Int.reduceLT, Int.reduceLE, Int.reduceAdd, Int.reduceSub, Int.reduceMul, Int.reduceNeg]
      refine s44 (d := d + 1) hT hu hW hc he h3 hk ⟨fun I1 f1 x1 c1 a1 => ?_, fun I1 f1 x1 y1 z1 => ?_⟩
      · rw [if_pos x1] at q
        have kK := rd_k h0 hk (ptF_0 x1)
        have pt := he.pt (fun z => (hu.2.2.1 k hk z).1) x1
        have F2 := f1.up (a := 44) (i := 3) (v := (k : Int) + 1) (Or.inl rfl)
        have ih := c_val (d := d) (L := L) (pl := pl) (a0 := a0) (Q := Q) hu hW f (am_up I1 44 3 ((k : Int) + 1)) (ptF s u X k).2 (wnF s k) (k + 1) (i + 1) (some (vI (s k))) (by omega) (by omega) kK (hT.cw hW F2) (c1.at hW (by decide)) pt.1 (by unfold wnF; split <;> simp) (by rw [am_up_s]; omega) (q.tr F2)
        rw [ei] at ih
        clear q he hc c1 pt hT F2
        by_cases c1 : s k = 113
        · have e : wnF s k = 1 := by unfold wnF; rw [if_pos (Or.inl c1)]
          rw [e, c1] at ih
          simp (disch := omega) only [KP, a1, c1, B43_60, B43_65, B43_135, B43_145, GA, GR, GRc, GO, GI, GL, GV, am_w_i, am_ga, am_it, am_if, true_and, and_true, or_true, true_or, ne_eq, not_false_eq_true, not_true_eq_false, false_imp_iff, true_imp_iff, Int.reduceEq, Int.reduceLT, Int.reduceLE, Int.reduceAdd, Int.reduceSub, Int.reduceMul, Int.reduceNeg]
          all_goals exact ih
        · by_cases c2 : s k = 40
          · have e : wnF s k = 1 := by unfold wnF; rw [if_pos (Or.inr c2)]
            rw [e, c2] at ih
            simp (disch := omega) only [KP, a1, c2, B43_60, B43_65, B43_135, B43_145, GA, GR, GRc, GO, GI, GL, GV, am_w_i, am_ga, am_it, am_if, true_and, and_true, or_true, true_or, ne_eq, not_false_eq_true, not_true_eq_false, false_imp_iff, true_imp_iff, Int.reduceEq, Int.reduceLT, Int.reduceLE, Int.reduceAdd, Int.reduceSub, Int.reduceMul, Int.reduceNeg]
            all_goals exact ih
          · have e : wnF s k = 0 := by unfold wnF; rw [if_neg (by omega)]
            rw [e] at ih
            simp (disch := omega) only [KP, a1, c1, c2, B43_60, B43_65, B43_135, B43_145, GA, GR, GRc, GO, GI, GL, GV, am_w_i, am_ga, am_it, am_if, true_and, and_true, or_true, true_or, ne_eq, not_false_eq_true, not_true_eq_false, false_imp_iff, true_imp_iff, Int.reduceEq, Int.reduceLT, Int.reduceLE, Int.reduceAdd, Int.reduceSub, Int.reduceMul, Int.reduceNeg]
            all_goals exact ih
      · rw [if_neg x1] at q
        have z := q.2 I1 f1 x1 y1 z1
        clear q he hc hT
        first | (simp (disch := omega) only [GA, GR, GRc, GO, GI, GL, GV, am_w_i, am_ga, am_it, am_if, true_and, and_true, or_true, true_or, ne_eq, not_false_eq_true, not_true_eq_false, false_imp_iff, true_imp_iff, Int.reduceEq, Int.reduceLT, Int.reduceLE, Int.reduceAdd, Int.reduceSub, Int.reduceMul, Int.reduceNeg]; exact z) | simp (disch := omega) only [z, GA, GR, GRc, GO, GI, GL, GV, am_w_i, am_ga, am_it, am_if, true_and, and_true, or_true, true_or, ne_eq, not_false_eq_true, not_true_eq_false, false_imp_iff, true_imp_iff, Int.reduceEq, Int.reduceLT, Int.reduceLE, Int.reduceAdd, Int.reduceSub, Int.reduceMul, Int.reduceNeg]
