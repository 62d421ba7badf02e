/-! 38: Course: a day, days -/
theorem px_try_d {V σ : (Nat → Int → Int)} {lw : Int → (Int → Int) → Int} {F : Int → Int} {i : Int} : px_try V lw F σ i 0 3 = σ 0 3 ∧ ∀ j, j ≠ i → px_try V lw F σ i 3 j = σ 3 j := by
  unfold px_try
  split
  · exact ⟨by rw [am_up_a _ _ _ _ (by decide)], fun j hj => am_up_n _ _ _ _ hj⟩
  · split
    · refine ⟨?_, fun j hj => ?_⟩
      · rw [am_up_a _ _ _ _ (by decide), px_add, am_up_a _ _ _ _ (by decide), am_up_n _ _ _ _ (by decide), am_up_a _ _ _ _ (by decide)]
      · rw [am_up_n _ _ _ _ hj, px_add, am_up_a _ _ _ _ (by decide), am_up_a _ _ _ _ (by decide), am_up_a _ _ _ _ (by decide)]
    · refine ⟨?_, fun j hj => ?_⟩
      · rw [am_up_a _ _ _ _ (by decide), am_up_n _ _ _ _ (by decide), am_up_a _ _ _ _ (by decide)]
      · rw [am_up_n _ _ _ _ hj, am_up_a _ _ _ _ (by decide), am_up_a _ _ _ _ (by decide)]
def px_t1 (V : (Nat → Int → Int)) (lw : Int → (Int → Int) → Int) (F : Int → Int) (i : Nat) (σ : (Nat → Int → Int)) : (Nat → Int → Int) := if V 12 i = σ 0 3 ∧ V 10 i ≠ F 4 then px_try V lw F σ i else σ
theorem px_d1_eq {V : (Nat → Int → Int)} {lw : Int → (Int → Int) → Int} {F : Int → Int} {σ : (Nat → Int → Int)} : px_d1 V lw F σ = px_for (px_t1 V lw F) (V 0 2).toNat σ := rfl
theorem px_t1_d {V σ : (Nat → Int → Int)} {lw : Int → (Int → Int) → Int} {F : Int → Int} : ∀ i : Nat, px_for (px_t1 V lw F) i σ 0 3 = σ 0 3 ∧ ∀ j : Int, (i : Int) ≤ j → px_for (px_t1 V lw F) i σ 3 j = σ 3 j
  | 0 => ⟨rfl, fun _ _ => rfl⟩
  | i + 1 => by
    have ih := px_t1_d (V := V) (σ := σ) (lw := lw) (F := F) i
    rw [px_for]
    generalize px_for (px_t1 V lw F) i σ = σ' at ih
    unfold px_t1
    split
    · have := px_try_d (V := V) (σ := σ') (lw := lw) (F := F) (i := (i : Int))
      exact ⟨this.1.trans ih.1, fun j hj => (this.2 j (by omega)).trans (ih.2 j (by omega))⟩
    · exact ⟨ih.1, fun j hj => ih.2 j (by omega)⟩
theorem WS.t1 {V : (Nat → Int → Int)} {lw : Int → (Int → Int) → Int} {F : Int → Int} {D : Int} {σ : (Nat → Int → Int)} {n i : Nat} (hV : WV V) (h : WS D σ) (hn : V 0 2 = n) (hi : i ≤ n) : WS D (px_for (px_t1 V lw F) i σ) := by
  refine WS.for_ _ _ (fun j σ' hj h' => ?_) h
  unfold px_t1
  split
  · exact h'.try_ hV (by omega) (by omega)
  · exact h'
def px_h1 (V : (Nat → Int → Int)) (lw : Int → (Int → Int) → Int) (F : Int → Int) (k : Nat) (σ : (Nat → Int → Int)) : (Nat → Int → Int) := px_heal V lw F (px_heal V lw F σ k 0) k 1
theorem WS.h1 {V : (Nat → Int → Int)} {lw : Int → (Int → Int) → Int} {F : Int → Int} {D : Int} {σ : (Nat → Int → Int)} {n i : Nat} (hV : WV V) (hF : WF F) (h : WS D σ) (hn : V 0 0 = n) (hi : i ≤ n) : WS D (px_for (px_h1 V lw F) i σ) := by
  refine WS.for_ _ _ (fun j σ' hj h' => ?_) h
  exact (h'.heal hV hF (by omega) (by omega) (by omega)).heal hV hF (by omega) (by omega) (by omega)
theorem CT.fr {I I' : (Nat → Int → Int)} {s n : Nat} (h : CT I s n) (h3 : I' (s + 3) = I (s + 3)) (h5 : I' s 5 = I s 5 ∧ I' s 6 = I s 6 ∧ I' s 7 = I s 7) : CT I' s n := by
  unfold CT at h ⊢; rw [h3, h5.1, h5.2.1, h5.2.2]; exact h
set_option maxHeartbeats 2000000 in
theorem s7 {d : Nat} {w : Nat × Nat × Nat × Nat} {I L : Nat → Int → Int} {V σ : (Nat → Int → Int)} {lw : Int → (Int → Int) → Int} {F : Int → Int} {s n : Nat} {D : Int} (C : CC w I V lw F) (hs : isS s) (hR : RS I s σ) (hW : WS D σ) (hn : V 0 2 = n) (hC : CT I s n) (hN : NY V σ) {Q : Option am_V → am_H → Prop} (q : ∀ I' L', RS I' s (px_day V lw F σ) → CT I' s n → Fr (fun a => s ≤ a ∧ a ≤ s + 3) I I' → LF L L' → Q none (mkH w I' L')) : am_Sp (d + 5) 7 [vR (some 63), vR (some s)] (mkH w I L) Q := by
  have C0 := C
  obtain ⟨hw, hRW, hRL, hV, hF, hWF⟩ := C
  have hk12 := hV.1.2.2.2
  have hk6 := hV.1.1
  have hss := isS_le hs
  obtain ⟨m, hm⟩ : ∃ m : Nat, V 0 0 = m := ⟨(V 0 0).toNat, by omega⟩
  have hn2 : (V 0 2).toNat = n := by omega
  have hm2 : (V 0 0).toNat = m := by omega
  have CCf : ∀ I', Fr (fun a => s ≤ a ∧ a ≤ s + 3) I I' → CC w I' V lw F := fun I' f => C0.fr (fun a ha => f a (by omega))
  -- the day's end
  have p4 : ∀ (l2 : Int) (I3 L3 : (Nat → Int → Int)) (σ3 : (Nat → Int → Int)), RS I3 s σ3 → WS D σ3 → CT I3 s n → Fr (fun a => s ≤ a ∧ a ≤ s + 3) I I3 → LF L L3 → px_d3 V F (px_d2 V lw F (px_d1 V lw F σ)) = σ3 → am_WP (d + 5) 7 145 [some (vR (some 63)), some (vR (some s)), some (vI l2)] [] (mkH w I3 L3) Q := by
    intro l2 I3 L3 σ3 R3 W3 CT3 F3 L3f e3
    have C3 := CCf I3 F3
    have e4 : I3 s 4 = σ3 0 4 := R3.2.2.2.2.1
    have e33 : I3 s 3 = σ3 0 3 := R3.2.2.2.1
    obtain ⟨w1, w2, w3, w4, w5, w6⟩ := W3
    have lev : (∀ k : Nat, k < m → I3 (s + 1) (2 * (k : Int)) = I3 (s + 1) (2 * (k : Int) + 1)) ↔ px_isl V σ3 := by
      unfold px_isl; rw [hm2]
      constructor
      · intro z k hk
        have := z k hk
        rw [R3.1 _ (by omega) (by omega), R3.1 _ (by omega) (by omega)] at this
        exact this
      · intro z k hk
        have := z k hk
        rw [R3.1 _ (by omega) (by omega), R3.1 _ (by omega) (by omega)]
        exact this
    rw [B7_145]
    simp (disch := omega) only [KC, HW hw, HS hs, C3.2.1.1.1, hm, s63 hs (n := m) (by omega) (R3.bA w1), GA, GR, GRc, GO, GI, GL, GV, am_w_i, am_ga, am_it, am_if, true_and, and_true, or_true, true_or, ne_eq, not_false_eq_true, not_true_eq_false, false_imp_iff, true_imp_iff, Int.reduceEq, Int.reduceLT, Int.reduceLE, Int.reduceAdd, Int.reduceSub, Int.reduceMul, Int.reduceNeg]
    unfold px_day px_d4 at q
    rw [e3] at q
    by_cases c : px_isl V σ3
    · rw [if_pos (lev.mpr c)]
      simp (disch := omega) only [B7_169, HS hs, e4, GA, GR, GRc, GO, GI, GL, GV, am_w_i, am_ga, am_it, am_if, true_and, and_true, or_true, true_or, ne_eq, not_false_eq_true, not_true_eq_false, false_imp_iff, true_imp_iff, Int.reduceEq, Int.reduceLT, Int.reduceLE, Int.reduceAdd, Int.reduceSub, Int.reduceMul, Int.reduceNeg]
      have l1 : px_lv V σ3 = 1 := by unfold px_lv; rw [if_pos c]
      rw [l1] at q
      rw [am_up_n _ _ _ _ (by decide), e33, am_w_i (by omega) (by omega)]
      refine q _ L3 (R3.u0.u0) ?_ ((F3.up (by omega)).up (by omega)) L3f
      refine CT3.fr ?_ ⟨?_, ?_, ?_⟩
      · rw [am_up_a _ _ _ _ (by omega), am_up_a _ _ _ _ (by omega)]
      · rw [am_up_n _ _ _ _ (by decide), am_up_n _ _ _ _ (by decide)]
      · rw [am_up_n _ _ _ _ (by decide), am_up_n _ _ _ _ (by decide)]
      · rw [am_up_n _ _ _ _ (by decide), am_up_n _ _ _ _ (by decide)]
    · rw [if_neg (fun z => c (lev.mp z))]
      simp (disch := omega) only [B7_169, HS hs, GA, GR, GRc, GO, GI, GL, GV, am_w_i, am_ga, am_it, am_if, true_and, and_true, or_true, true_or, ne_eq, not_false_eq_true, not_true_eq_false, false_imp_iff, true_imp_iff, Int.reduceEq, Int.reduceLT, Int.reduceLE, Int.reduceAdd, Int.reduceSub, Int.reduceMul, Int.reduceNeg]
      have l1 : px_lv V σ3 = 0 := by unfold px_lv; rw [if_neg c]
      rw [l1] at q
      rw [e33]
      have sm : am_up σ3 0 4 (σ3 0 4 + 0) = σ3 := by funext a j; unfold am_up; split <;> simp_all
      rw [sm] at q
      refine q _ L3 (R3.u0) ?_ (F3.up (by omega)) L3f
      refine CT3.fr ?_ ⟨?_, ?_, ?_⟩
      · rw [am_up_a _ _ _ _ (by omega)]
      · rw [am_up_n _ _ _ _ (by decide)]
      · rw [am_up_n _ _ _ _ (by decide)]
      · rw [am_up_n _ _ _ _ (by decide)]
  -- wages
  have p3 : ∀ (l2 : Int) (I2 L2 : (Nat → Int → Int)) (σ2 : (Nat → Int → Int)), RS I2 s σ2 → WS D σ2 → CT I2 s n → Fr (fun a => s ≤ a ∧ a ≤ s + 3) I I2 → LF L L2 → px_d2 V lw F (px_d1 V lw F σ) = σ2 → am_WP (d + 5) 7 97 [some (vR (some 63)), some (vR (some s)), some (vI l2)] [] (mkH w I2 L2) Q := by
    intro l2 I2 L2 σ2 R2 W2 CT2 F2 L2f e2
    have C2 := CCf I2 F2
    rw [B7_97, B7_99]
    simp (disch := omega) only [KC, C2.2.2.2.2.1, GA, GR, GRc, GO, GI, GL, GV, am_w_i, am_ga, am_it, am_if, true_and, and_true, or_true, true_or, ne_eq, not_false_eq_true, not_true_eq_false, false_imp_iff, true_imp_iff, Int.reduceEq, Int.reduceLT, Int.reduceLE, Int.reduceAdd, Int.reduceSub, Int.reduceMul, Int.reduceNeg]
    by_cases c : F 3 = 0
    · simp (disch := omega) only [c, GA, GR, GRc, GO, GI, GL, GV, am_w_i, am_ga, am_it, am_if, true_and, and_true, or_true, true_or, ne_eq, not_false_eq_true, not_true_eq_false, false_imp_iff, true_imp_iff, Int.reduceEq, Int.reduceLT, Int.reduceLE, Int.reduceAdd, Int.reduceSub, Int.reduceMul, Int.reduceNeg]
      refine p4 _ I2 L2 σ2 R2 W2 CT2 F2 L2f ?_
      unfold px_d3; rw [e2, if_pos c]
    · simp (disch := omega) only [c, HS hs, HW hw, B7_139, GA, GR, GRc, GO, GI, GL, GV, am_w_i, am_ga, am_it, am_if, true_and, and_true, or_true, true_or, ne_eq, not_false_eq_true, not_true_eq_false, false_imp_iff, true_imp_iff, Int.reduceEq, Int.reduceLT, Int.reduceLE, Int.reduceAdd, Int.reduceSub, Int.reduceMul, Int.reduceNeg]
      have W2' := W2.wg hV (t := 0) (by omega)
      have v0 := hV.2.2.2.2.1 0 (by omega) (by omega)
      have v1 := hV.2.2.2.2.1 1 (by omega) (by omega)
      have p0 := W2.2.1 0 (by omega) (by omega)
      have p1 := W2.2.1 1 (by omega) (by omega)
      have r0 : I2 (s + 2) 0 = σ2 2 0 := R2.2.1 0 (by omega) (by omega)
      have r1 : I2 (s + 2) 1 = σ2 2 1 := R2.2.1 1 (by omega) (by omega)
      have x0 := (C2.2.1.2.2.2.2.1 0 (by omega) (by omega)).1
      have x1 := (C2.2.1.2.2.2.2.1 1 (by omega) (by omega)).1
      have hwl := isW_le hw
      rw [x0, r0, am_w_i (by omega) (by omega), B7_99]
      simp (disch := omega) only [KC, HS hs, HW hw, B7_139, am_up_a, C2.2.2.2.2.1, c, x1, GA, GR, GRc, GO, GI, GL, GV, am_w_i, am_ga, am_it, am_if, true_and, and_true, or_true, true_or, ne_eq, not_false_eq_true, not_true_eq_false, false_imp_iff, true_imp_iff, Int.reduceEq, Int.reduceLT, Int.reduceLE, Int.reduceAdd, Int.reduceSub, Int.reduceMul, Int.reduceNeg]
      rw [am_up_n _ _ _ _ (show (1 : Int) ≠ 0 by decide), r1, am_w_i (by omega) (by omega), B7_99]
      simp (disch := omega) only [KC, HS hs, HW hw, B7_139, am_up_a, C2.2.2.2.2.1, c, GA, GR, GRc, GO, GI, GL, GV, am_w_i, am_ga, am_it, am_if, true_and, and_true, or_true, true_or, ne_eq, not_false_eq_true, not_true_eq_false, false_imp_iff, true_imp_iff, Int.reduceEq, Int.reduceLT, Int.reduceLE, Int.reduceAdd, Int.reduceSub, Int.reduceMul, Int.reduceNeg]
      refine p4 _ _ L2 (px_wg V (px_wg V σ2 0) 1) ?_ (W2'.wg hV (by omega)) ?_ ((F2.up (by omega)).up (by omega)) L2f ?_
      · have : px_wg V (px_wg V σ2 0) 1 = am_up (am_up σ2 2 0 (am_min 9999 (σ2 2 0 + V 14 0))) 2 1 (am_min 9999 (σ2 2 1 + V 14 1)) := by
          unfold px_wg; rw [am_up_n _ _ _ _ (show (1 : Int) ≠ 0 by decide)]
        rw [this]; exact R2.u2.u2
      · refine CT2.fr ?_ ⟨?_, ?_, ?_⟩ <;> rw [am_up_a _ _ _ _ (by omega), am_up_a _ _ _ _ (by omega)]
      · unfold px_d3; rw [e2, if_neg c]
  -- healing
  have p2 : ∀ (I1 L1 : (Nat → Int → Int)) (σ1 : (Nat → Int → Int)), RS I1 s σ1 → WS D σ1 → CT I1 s n → Fr (fun a => s ≤ a ∧ a ≤ s + 3) I I1 → LF L L1 → px_d1 V lw F σ = σ1 → am_WP (d + 5) 7 59 [some (vR (some 63)), some (vR (some s)), some (vI 0)] [] (mkH w I1 L1) Q := by
    intro I1 L1 σ1 R1 W1 CT1 F1 L1f e1
    by_cases c : F 1 = 0
    · rw [B7_59]
      simp (disch := omega) only [KC, (CCf I1 F1).2.2.2.2.1, c, GA, GR, GRc, GO, GI, GL, GV, am_w_i, am_ga, am_it, am_if, true_and, and_true, or_true, true_or, ne_eq, not_false_eq_true, not_true_eq_false, false_imp_iff, true_imp_iff, Int.reduceEq, Int.reduceLT, Int.reduceLE, Int.reduceAdd, Int.reduceSub, Int.reduceMul, Int.reduceNeg]
      refine p3 _ I1 L1 σ1 R1 W1 CT1 F1 L1f ?_
      unfold px_d2; rw [e1, if_pos c]
    · refine am_loop (α := (Nat → Int → Int) × (Nat → Int → Int)) m (fun i x => am_WP (d + 5) 7 59 [some (vR (some 63)), some (vR (some s)), some (vI (i : Int))] [] (mkH w x.1 x.2) Q) (fun i x => RS x.1 s (px_for (px_h1 V lw F) i σ1) ∧ CT x.1 s n ∧ Fr (fun a => s ≤ a ∧ a ≤ s + 3) I x.1 ∧ LF L x.2) ?_ ?_ 0 (I1, L1) (Nat.zero_le _) ⟨R1, CT1, F1, L1f⟩
      · intro i ⟨Ia, La⟩ hi ⟨Ra, CTa, Fa, Lfa⟩ ih
        dsimp only at Ra CTa Fa Lfa ⊢
        have Ca := CCf Ia Fa
        have Wa : WS D (px_for (px_h1 V lw F) i σ1) := W1.h1 hV hWF hm (by omega)
        rw [B7_59]
        simp (disch := omega) only [KC, HW hw, Ca.2.2.2.2.1, c, Ca.2.1.1.1, hm, GA, GR, GRc, GO, GI, GL, GV, am_w_i, am_ga, am_it, am_if, true_and, and_true, or_true, true_or, ne_eq, not_false_eq_true, not_true_eq_false, false_imp_iff, true_imp_iff, Int.reduceEq, Int.reduceLT, Int.reduceLE, Int.reduceAdd, Int.reduceSub, Int.reduceMul, Int.reduceNeg]
        refine s10 Ca hs Ra Wa (by omega) (by omega) ⟨by omega, by omega⟩ (fun Ib Lb Rb fb lb => ?_)
        have Fb : Fr (fun a => s ≤ a ∧ a ≤ s + 3) I Ib := Fa.tr (fb.mo (fun a ha => by omega))
        have Cb := CCf Ib Fb
        simp (disch := omega) only [KC, GA, GR, GRc, GO, GI, GL, GV, am_w_i, am_ga, am_it, am_if, true_and, and_true, or_true, true_or, ne_eq, not_false_eq_true, not_true_eq_false, false_imp_iff, true_imp_iff, Int.reduceEq, Int.reduceLT, Int.reduceLE, Int.reduceAdd, Int.reduceSub, Int.reduceMul, Int.reduceNeg]
        refine s10 Cb hs Rb (Wa.heal hV hWF (by omega) (by omega) ⟨by omega, by omega⟩) (by omega) (by omega) ⟨by omega, by omega⟩ (fun Ic Lc Rc fc lc => ?_)
        simp (disch := omega) only [GA, GR, GRc, GO, GI, GL, GV, am_w_i, am_ga, am_it, am_if, true_and, and_true, or_true, true_or, ne_eq, not_false_eq_true, not_true_eq_false, false_imp_iff, true_imp_iff, Int.reduceEq, Int.reduceLT, Int.reduceLE, Int.reduceAdd, Int.reduceSub, Int.reduceMul, Int.reduceNeg]
        refine ih (Ic, Lc) ⟨Rc, CTa.fr ?_ ?_, Fb.tr (fc.mo (fun a ha => by omega)), (Lfa.tr lb).tr lc⟩
        · show Ic (s + 3) = Ia (s + 3)
          rw [fc _ (by omega), fb _ (by omega)]
        · show Ic s 5 = Ia s 5 ∧ Ic s 6 = Ia s 6 ∧ Ic s 7 = Ia s 7
          rw [fc _ (by omega), fb _ (by omega)]; exact ⟨rfl, rfl, rfl⟩
      · intro ⟨Ia, La⟩ ⟨Ra, CTa, Fa, Lfa⟩
        dsimp only at Ra CTa Fa Lfa ⊢
        have Ca := CCf Ia Fa
        rw [B7_59]
        simp (disch := omega) only [KC, HW hw, Ca.2.2.2.2.1, c, Ca.2.1.1.1, hm, GA, GR, GRc, GO, GI, GL, GV, am_w_i, am_ga, am_it, am_if, true_and, and_true, or_true, true_or, ne_eq, not_false_eq_true, not_true_eq_false, false_imp_iff, true_imp_iff, Int.reduceEq, Int.reduceLT, Int.reduceLE, Int.reduceAdd, Int.reduceSub, Int.reduceMul, Int.reduceNeg]
        refine p3 _ Ia La _ Ra (W1.h1 hV hWF hm (Nat.le_refl _)) CTa Fa Lfa ?_
        unfold px_d2; rw [e1, if_neg c, hm2]; rfl
  -- doings
  rw [S7]
  refine am_loop (α := (Nat → Int → Int) × (Nat → Int → Int)) n (fun i x => am_WP (d + 5) 7 2 [some (vR (some 63)), some (vR (some s)), some (vI (i : Int))] [] (mkH w x.1 x.2) Q) (fun i x => RS x.1 s (px_for (px_t1 V lw F) i σ) ∧ CT x.1 s n ∧ Fr (fun a => s ≤ a ∧ a ≤ s + 3) I x.1 ∧ LF L x.2) ?_ ?_ 0 (I, L) (Nat.zero_le _) ⟨hR, hC, Fr.rf, LF.rf⟩
  · intro i ⟨Ia, La⟩ hi ⟨Ra, CTa, Fa, Lfa⟩ ih
    dsimp only at Ra CTa Fa Lfa ⊢
    have Ca := CCf Ia Fa
    have Wa : WS D (px_for (px_t1 V lw F) i σ) := hW.t1 hV hn (by omega)
    have td := px_t1_d (V := V) (σ := σ) (lw := lw) (F := F) i
    have vi := Ca.2.1.2.2.2.1 i (by omega) (by omega)
    have e3 : Ia s 3 = px_for (px_t1 V lw F) i σ 0 3 := Ra.2.2.2.1
    have eq : px_for (px_t1 V lw F) (i + 1) σ = px_t1 V lw F i (px_for (px_t1 V lw F) i σ) := rfl
    have nx : ∀ (Ib Lb : (Nat → Int → Int)), RS Ib s (px_for (px_t1 V lw F) (i + 1) σ) → CT Ib s n → Fr (fun a => s ≤ a ∧ a ≤ s + 3) I Ib → LF L Lb → am_WP (d + 5) 7 51 [some (vR (some 63)), some (vR (some s)), some (vI (i : Int))] [] (mkH w Ib Lb) Q := by
      intro Ib Lb Rb CTb Fb Lfb
      rw [B7_51, am_w_i (by omega) (by omega)]
      exact ih (Ib, Lb) ⟨Rb, CTb, Fb, Lfb⟩
    rw [B7_2]
    simp (disch := omega) only [KC, HW hw, HS hs, Ca.2.1.1.2.2, hn, vi.2.2, vi.1, e3, Ca.2.2.2.2.1, GA, GR, GRc, GO, GI, GL, GV, am_w_i, am_ga, am_it, am_if, true_and, and_true, or_true, true_or, ne_eq, not_false_eq_true, not_true_eq_false, false_imp_iff, true_imp_iff, Int.reduceEq, Int.reduceLT, Int.reduceLE, Int.reduceAdd, Int.reduceSub, Int.reduceMul, Int.reduceNeg]
    by_cases c1 : V 12 i = px_for (px_t1 V lw F) i σ 0 3
    · by_cases c2 : V 10 i = F 4
      · simp (disch := omega) only [c1, c2, GA, GR, GRc, GO, GI, GL, GV, am_w_i, am_ga, am_it, am_if, true_and, and_true, or_true, true_or, ne_eq, not_false_eq_true, not_true_eq_false, false_imp_iff, true_imp_iff, Int.reduceEq, Int.reduceLT, Int.reduceLE, Int.reduceAdd, Int.reduceSub, Int.reduceMul, Int.reduceNeg]
        refine nx Ia La ?_ CTa Fa Lfa
        rw [eq]; unfold px_t1; rw [if_neg (fun z => z.2 c2)]; exact Ra
      · simp (disch := omega) only [c1, c2, GA, GR, GRc, GO, GI, GL, GV, am_w_i, am_ga, am_it, am_if, true_and, and_true, or_true, true_or, ne_eq, not_false_eq_true, not_true_eq_false, false_imp_iff, true_imp_iff, Int.reduceEq, Int.reduceLT, Int.reduceLE, Int.reduceAdd, Int.reduceSub, Int.reduceMul, Int.reduceNeg]
        have h0 : px_for (px_t1 V lw F) i σ 3 i = 0 := by
          rw [td.2 _ (Int.le_refl _)]
          exact hN i (by omega) (by omega) (by rw [← td.1]; omega)
        refine s8 Ca hs Ra Wa hn ⟨by omega, by omega⟩ CTa h0 (fun Ib Lb Rb CTb fb lb => ?_)
        simp (disch := omega) only [GA, GR, GRc, GO, GI, GL, GV, am_w_i, am_ga, am_it, am_if, true_and, and_true, or_true, true_or, ne_eq, not_false_eq_true, not_true_eq_false, false_imp_iff, true_imp_iff, Int.reduceEq, Int.reduceLT, Int.reduceLE, Int.reduceAdd, Int.reduceSub, Int.reduceMul, Int.reduceNeg]
        refine nx Ib Lb ?_ CTb (Fa.tr fb) (Lfa.tr lb)
        rw [eq]; unfold px_t1; rw [if_pos ⟨c1, c2⟩]; exact Rb
    · simp (disch := omega) only [c1, GA, GR, GRc, GO, GI, GL, GV, am_w_i, am_ga, am_it, am_if, true_and, and_true, or_true, true_or, ne_eq, not_false_eq_true, not_true_eq_false, false_imp_iff, true_imp_iff, Int.reduceEq, Int.reduceLT, Int.reduceLE, Int.reduceAdd, Int.reduceSub, Int.reduceMul, Int.reduceNeg]
      refine nx Ia La ?_ CTa Fa Lfa
      rw [eq]; unfold px_t1; rw [if_neg (fun z => c1 z.1)]; exact Ra
  · intro ⟨Ia, La⟩ ⟨Ra, CTa, Fa, Lfa⟩
    dsimp only at Ra CTa Fa Lfa ⊢
    have Ca := CCf Ia Fa
    rw [B7_2]
    simp (disch := omega) only [KC, HW hw, Ca.2.1.1.2.2, hn, GA, GR, GRc, GO, GI, GL, GV, am_w_i, am_ga, am_it, am_if, true_and, and_true, or_true, true_or, ne_eq, not_false_eq_true, not_true_eq_false, false_imp_iff, true_imp_iff, Int.reduceEq, Int.reduceLT, Int.reduceLE, Int.reduceAdd, Int.reduceSub, Int.reduceMul, Int.reduceNeg]
    refine p2 Ia La _ Ra (hW.t1 hV hn (Nat.le_refl _)) CTa Fa Lfa ?_
    rw [px_d1_eq, hn2]
