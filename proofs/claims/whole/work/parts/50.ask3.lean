/-! 50: nextLevel, nextOut, nearest -/
theorem FT7 : FT 1 7 ≠ 0 := by unfold FT; simp
theorem RS.lv {I V σ : (Nat → Int → Int)} {s n : Nat} (h : RS I s σ) (hn : (V 0 0).toNat = n) (h6 : n ≤ 6) : (if ∀ k : Nat, k < n → I (s + 1) (2 * (k : Int)) = I (s + 1) (2 * (k : Int) + 1) then (1 : Int) else 0) = px_lv V σ := by
  unfold px_lv
  have lev : (∀ k : Nat, k < n → I (s + 1) (2 * (k : Int)) = I (s + 1) (2 * (k : Int) + 1)) ↔ px_isl V σ := by
    unfold px_isl; rw [hn]
    constructor
    · intro z k hk
      have := z k hk
      rw [h.1 _ (by omega) (by omega), h.1 _ (by omega) (by omega)] at this
      exact this
    · intro z k hk
      have := z k hk
      rw [h.1 _ (by omega) (by omega), h.1 _ (by omega) (by omega)]
      exact this
  by_cases c : px_isl V σ
  · rw [if_pos (lev.mpr c), if_pos c]
  · rw [if_neg (fun z => c (lev.mp z)), if_neg c]
def px_nx (V : (Nat → Int → Int)) (lw : (Int → (Int → Int) → Int)) (b : Int) (σ : (Nat → Int → Int)) : Nat → Nat → Int
  | 0, _ => -2
  | m + 1, i => if px_lv V (px_days V lw (FT 1) i σ) = b then (i : Int) else px_nx V lw b σ m (i + 1)
theorem c_next {d : Nat} {w : Nat × Nat × Nat × Nat} {I L : Nat → Int → Int} {V σ : (Nat → Int → Int)} {lw : (Int → (Int → Int) → Int)} {b : Int} (G : GC V lw σ w I L) {Q : Option am_V → am_H → Prop} (q : ∀ w' I' L', QR w I L w' I' L' → Q (some (vI (px_nx V lw b σ 200 0))) (mkH w' I' L')) : am_Sp (d + 8) 112 [vR (some 0), vI b] (mkH w I L) Q := by
  have G0 := G
  obtain ⟨⟨hw, hR, hL, hV, hM, hN⟩, rS, mS, wS, ny, ct⟩ := id G
  have h6 := hV.1.1
  have loop : ∀ (m i : Nat) (w' : (Nat × Nat × Nat × Nat)) (I' L' : (Nat → Int → Int)), i + m = 200 → CL V lw (FT 1) (px_days V lw (FT 1) i σ) w I L w' I' L' → px_nx V lw b σ 200 0 = px_nx V lw b σ m i → am_WP (d + 8) 112 6 [some (vR (some 0)), some (vI b), some (vI (i : Int))] [] (mkH w' I' L') Q := by
    intro m
    induction m with
    | zero =>
      intro i w' I' L' hi l e
      rw [B112_6]
      simp (disch := omega) only [GA, GR, GRc, GO, GI, GL, GV, am_w_i, am_ga, am_it, am_if, true_and, and_true, or_true, true_or, ne_eq, not_false_eq_true, not_true_eq_false, false_imp_iff, true_imp_iff, Int.reduceEq, Int.reduceLT, Int.reduceLE, Int.reduceAdd, Int.reduceSub, Int.reduceMul, Int.reduceNeg]
      have := q _ _ _ l.qr
      rw [e] at this; exact this
    | succ m ih =>
      intro i w' I' L' hi l e
      have W2 := wS.days (lw := lw) (F := FT 1) hV FT_WF i (by omega)
      have w2 := l.1
      have r2 := l.2.2.1
      have G2 := G0.q l.qr
      subst w2
      have g1 : I' w.1 0 = ((V 0 0).toNat : Int) := by have : I' w.1 0 = V 0 0 := G2.1.2.1.1.1; omega
      have lvl := r2.lv (V := V) (n := (V 0 0).toNat) rfl (by omega)
      rw [B112_6]
      simp (disch := omega) only [KX, HW hw, HS (show isS 55 from Or.inr (Or.inl rfl)), g1, s63 (s := 55) (n := (V 0 0).toNat) (Or.inr (Or.inl rfl)) (by omega) (r2.bA W2.1), lvl, GA, GR, GRc, GO, GI, GL, GV, am_w_i, am_ga, am_it, am_if, true_and, and_true, or_true, true_or, ne_eq, not_false_eq_true, not_true_eq_false, false_imp_iff, true_imp_iff, Int.reduceEq, Int.reduceLT, Int.reduceLE, Int.reduceAdd, Int.reduceSub, Int.reduceMul, Int.reduceNeg]
      replace e : px_nx V lw b σ 200 0 = (if px_lv V (px_days V lw (FT 1) i σ) = b then (i : Int) else px_nx V lw b σ m (i + 1)) := e
      by_cases c : px_lv V (px_days V lw (FT 1) i σ) = b
      · rw [if_pos c] at e
        have := q _ _ _ l.qr
        rw [e] at this
        simp (disch := omega) only [c, KX, GA, GR, GRc, GO, GI, GL, GV, am_w_i, am_ga, am_it, am_if, true_and, and_true, or_true, true_or, ne_eq, not_false_eq_true, not_true_eq_false, false_imp_iff, true_imp_iff, Int.reduceEq, Int.reduceLT, Int.reduceLE, Int.reduceAdd, Int.reduceSub, Int.reduceMul, Int.reduceNeg]
        exact this
      · rw [if_neg c] at e
        simp (disch := omega) only [c, KX, KC, GA, GR, GRc, GO, GI, GL, GV, am_w_i, am_ga, am_it, am_if, true_and, and_true, or_true, true_or, ne_eq, not_false_eq_true, not_true_eq_false, false_imp_iff, true_imp_iff, Int.reduceEq, Int.reduceLT, Int.reduceLE, Int.reduceAdd, Int.reduceSub, Int.reduceMul, Int.reduceNeg]
        refine CL.day l W2 (fun I2 L2 l2 => ?_)
        simp (disch := omega) only [GA, GR, GRc, GO, GI, GL, GV, am_w_i, am_ga, am_it, am_if, true_and, and_true, or_true, true_or, ne_eq, not_false_eq_true, not_true_eq_false, false_imp_iff, true_imp_iff, Int.reduceEq, Int.reduceLT, Int.reduceLE, Int.reduceAdd, Int.reduceSub, Int.reduceMul, Int.reduceNeg]
        exact ih (i + 1) _ I2 L2 (by omega) l2 e
  rw [S112]
  simp (disch := omega) only [KX, GA, GR, GRc, GO, GI, GL, GV, am_w_i, am_ga, am_it, am_if, true_and, and_true, or_true, true_or, ne_eq, not_false_eq_true, not_true_eq_false, false_imp_iff, true_imp_iff, Int.reduceEq, Int.reduceLT, Int.reduceLE, Int.reduceAdd, Int.reduceSub, Int.reduceMul, Int.reduceNeg]
  refine s108 G0 (fun w' I' l => ?_)
  simp (disch := omega) only [GA, GR, GRc, GO, GI, GL, GV, am_w_i, am_ga, am_it, am_if, true_and, and_true, or_true, true_or, ne_eq, not_false_eq_true, not_true_eq_false, false_imp_iff, true_imp_iff, Int.reduceEq, Int.reduceLT, Int.reduceLE, Int.reduceAdd, Int.reduceSub, Int.reduceMul, Int.reduceNeg]
  exact loop 200 0 w' I' L rfl l rfl
theorem m_next {d : Nat} {w : Nat × Nat × Nat × Nat} {I L : Nat → Int → Int} {V σ : (Nat → Int → Int)} {lw : (Int → (Int → Int) → Int)} {b : Int} (G : GC V lw σ w I L) {Q : Option am_V → am_H → Prop} (q : ∀ I' L', QR w I L w I' L' → Q (some (vI (px_nx V lw b σ 200 0))) (mkH w I' L')) : am_Sp (d + 8) 234 [vR (some 99), vI b] (mkH w I L) Q := by
  have G0 := G
  obtain ⟨⟨hw, hR, hL, hV, hM, hN⟩, rS, mS, wS, ny, ct⟩ := id G
  have loop : ∀ (m i : Nat) (I' L' : (Nat → Int → Int)), i + m = 200 → MA V lw (FT 1) (px_days V lw (FT 1) i σ) I L I' L' → px_nx V lw b σ 200 0 = px_nx V lw b σ m i → am_WP (d + 8) 234 6 [some (vR (some 99)), some (vI b), some (vI (i : Int))] [] (mkH w I' L') Q := by
    intro m
    induction m with
    | zero =>
      intro i I' L' hi l e
      rw [B234_6]
      simp (disch := omega) only [GA, GR, GRc, GO, GI, GL, GV, am_w_i, am_ga, am_it, am_if, true_and, and_true, or_true, true_or, ne_eq, not_false_eq_true, not_true_eq_false, false_imp_iff, true_imp_iff, Int.reduceEq, Int.reduceLT, Int.reduceLE, Int.reduceAdd, Int.reduceSub, Int.reduceMul, Int.reduceNeg]
      have := q _ _ (l.qr (by rw [px_days_8 FT7]; exact mS.2.2.2.2.2.symm))
      rw [e] at this; exact this
    | succ m ih =>
      intro i I' L' hi l e
      have W2 := wS.days (lw := lw) (F := FT 1) hV FT_WF i (by omega)
      rw [B234_6]
      simp (disch := omega) only [Kk, s211 l.1 (Or.inr rfl) l.2.1 W2, GA, GR, GRc, GO, GI, GL, GV, am_w_i, am_ga, am_it, am_if, true_and, and_true, or_true, true_or, ne_eq, not_false_eq_true, not_true_eq_false, false_imp_iff, true_imp_iff, Int.reduceEq, Int.reduceLT, Int.reduceLE, Int.reduceAdd, Int.reduceSub, Int.reduceMul, Int.reduceNeg]
      replace e : px_nx V lw b σ 200 0 = (if px_lv V (px_days V lw (FT 1) i σ) = b then (i : Int) else px_nx V lw b σ m (i + 1)) := e
      by_cases c : px_lv V (px_days V lw (FT 1) i σ) = b
      · rw [if_pos c] at e
        have := q _ _ (l.qr (by rw [px_days_8 FT7]; exact mS.2.2.2.2.2.symm))
        rw [e] at this
        simp (disch := omega) only [c, GA, GR, GRc, GO, GI, GL, GV, am_w_i, am_ga, am_it, am_if, true_and, and_true, or_true, true_or, ne_eq, not_false_eq_true, not_true_eq_false, false_imp_iff, true_imp_iff, Int.reduceEq, Int.reduceLT, Int.reduceLE, Int.reduceAdd, Int.reduceSub, Int.reduceMul, Int.reduceNeg]
        exact this
      · rw [if_neg c] at e
        simp (disch := omega) only [c, Kk, GA, GR, GRc, GO, GI, GL, GV, am_w_i, am_ga, am_it, am_if, true_and, and_true, or_true, true_or, ne_eq, not_false_eq_true, not_true_eq_false, false_imp_iff, true_imp_iff, Int.reduceEq, Int.reduceLT, Int.reduceLE, Int.reduceAdd, Int.reduceSub, Int.reduceMul, Int.reduceNeg]
        refine MA.day l W2 (fun I2 L2 l2 => ?_)
        simp (disch := omega) only [GA, GR, GRc, GO, GI, GL, GV, am_w_i, am_ga, am_it, am_if, true_and, and_true, or_true, true_or, ne_eq, not_false_eq_true, not_true_eq_false, false_imp_iff, true_imp_iff, Int.reduceEq, Int.reduceLT, Int.reduceLE, Int.reduceAdd, Int.reduceSub, Int.reduceMul, Int.reduceNeg]
        exact ih (i + 1) I2 L2 (by omega) l2 e
  rw [S234]
  simp (disch := omega) only [Kk, s198, GA, GR, GRc, GO, GI, GL, GV, am_w_i, am_ga, am_it, am_if, true_and, and_true, or_true, true_or, ne_eq, not_false_eq_true, not_true_eq_false, false_imp_iff, true_imp_iff, Int.reduceEq, Int.reduceLT, Int.reduceLE, Int.reduceAdd, Int.reduceSub, Int.reduceMul, Int.reduceNeg]
  exact loop 200 0 _ L rfl G0.lt rfl
theorem q_nextLevel {V σ : (Nat → Int → Int)} {lw : (Int → (Int → Int) → Int)} : P2 (GC V lw σ) 110 235 [] := by
  refine ⟨vI (px_nx V lw 1 σ 200 0), fun w I L G d Q q => ?_, fun w I L G d Q q => ?_⟩
  · rw [S110]
    simp (disch := omega) only [KX, GA, GR, GRc, GO, GI, GL, GV, am_w_i, am_ga, am_it, am_if, true_and, and_true, or_true, true_or, ne_eq, not_false_eq_true, not_true_eq_false, false_imp_iff, true_imp_iff, Int.reduceEq, Int.reduceLT, Int.reduceLE, Int.reduceAdd, Int.reduceSub, Int.reduceMul, Int.reduceNeg]
    refine c_next G (fun w' I' L' r => ?_)
    simp (disch := omega) only [GA, GR, GRc, GO, GI, GL, GV, am_w_i, am_ga, am_it, am_if, true_and, and_true, or_true, true_or, ne_eq, not_false_eq_true, not_true_eq_false, false_imp_iff, true_imp_iff, Int.reduceEq, Int.reduceLT, Int.reduceLE, Int.reduceAdd, Int.reduceSub, Int.reduceMul, Int.reduceNeg]
    exact q _ _ _ r
  · rw [S235]
    simp (disch := omega) only [Kk, B235_5, GA, GR, GRc, GO, GI, GL, GV, am_w_i, am_ga, am_it, am_if, true_and, and_true, or_true, true_or, ne_eq, not_false_eq_true, not_true_eq_false, false_imp_iff, true_imp_iff, Int.reduceEq, Int.reduceLT, Int.reduceLE, Int.reduceAdd, Int.reduceSub, Int.reduceMul, Int.reduceNeg]
    refine m_next G.t (fun I' L' r => ?_)
    simp (disch := omega) only [GA, GR, GRc, GO, GI, GL, GV, am_w_i, am_ga, am_it, am_if, true_and, and_true, or_true, true_or, ne_eq, not_false_eq_true, not_true_eq_false, false_imp_iff, true_imp_iff, Int.reduceEq, Int.reduceLT, Int.reduceLE, Int.reduceAdd, Int.reduceSub, Int.reduceMul, Int.reduceNeg]
    exact q _ _ (QR.t.tr r)
theorem q_nextOut {V σ : (Nat → Int → Int)} {lw : (Int → (Int → Int) → Int)} : P2 (GC V lw σ) 111 236 [] := by
  refine ⟨vI (px_nx V lw 0 σ 200 0), fun w I L G d Q q => ?_, fun w I L G d Q q => ?_⟩
  · rw [S111]
    simp (disch := omega) only [KX, GA, GR, GRc, GO, GI, GL, GV, am_w_i, am_ga, am_it, am_if, true_and, and_true, or_true, true_or, ne_eq, not_false_eq_true, not_true_eq_false, false_imp_iff, true_imp_iff, Int.reduceEq, Int.reduceLT, Int.reduceLE, Int.reduceAdd, Int.reduceSub, Int.reduceMul, Int.reduceNeg]
    refine c_next G (fun w' I' L' r => ?_)
    simp (disch := omega) only [GA, GR, GRc, GO, GI, GL, GV, am_w_i, am_ga, am_it, am_if, true_and, and_true, or_true, true_or, ne_eq, not_false_eq_true, not_true_eq_false, false_imp_iff, true_imp_iff, Int.reduceEq, Int.reduceLT, Int.reduceLE, Int.reduceAdd, Int.reduceSub, Int.reduceMul, Int.reduceNeg]
    exact q _ _ _ r
  · rw [S236]
    simp (disch := omega) only [Kk, B236_5, GA, GR, GRc, GO, GI, GL, GV, am_w_i, am_ga, am_it, am_if, true_and, and_true, or_true, true_or, ne_eq, not_false_eq_true, not_true_eq_false, false_imp_iff, true_imp_iff, Int.reduceEq, Int.reduceLT, Int.reduceLE, Int.reduceAdd, Int.reduceSub, Int.reduceMul, Int.reduceNeg]
    refine m_next G.t (fun I' L' r => ?_)
    simp (disch := omega) only [GA, GR, GRc, GO, GI, GL, GV, am_w_i, am_ga, am_it, am_if, true_and, and_true, or_true, true_or, ne_eq, not_false_eq_true, not_true_eq_false, false_imp_iff, true_imp_iff, Int.reduceEq, Int.reduceLT, Int.reduceLE, Int.reduceAdd, Int.reduceSub, Int.reduceMul, Int.reduceNeg]
    exact q _ _ (QR.t.tr r)
/-- the nearest of some days: when, how far -/
def px_near (V : (Nat → Int → Int)) (lw : (Int → (Int → Int) → Int)) (σ : (Nat → Int → Int)) : Nat → Int × Int
  | 0 => (0, px_dist V lw (FT 1) σ (V 0 0).toNat)
  | m + 1 => if px_dist V lw (FT 1) (px_days V lw (FT 1) (m + 1) σ) (V 0 0).toNat < (px_near V lw σ m).2 then (((m + 1 : Nat) : Int), px_dist V lw (FT 1) (px_days V lw (FT 1) (m + 1) σ) (V 0 0).toNat) else px_near V lw σ m
theorem q_nearest {V σ : (Nat → Int → Int)} {lw : (Int → (Int → Int) → Int)} {a b : Int} : P2 (GC V lw σ) 131 237 [vI a, vI b] := by
  by_cases c1 : 0 ≤ a ∧ a ≤ 200
  · by_cases c2 : 0 ≤ b ∧ b ≤ 1
    · obtain ⟨m, hm⟩ : ∃ m : Nat, a = m := ⟨a.toNat, by omega⟩
      subst hm
      refine ⟨vI (if b = 0 then (px_near V lw σ m).1 else (px_near V lw σ m).2), fun w I L G d Q q => ?_, fun w I L G d Q q => ?_⟩
      · have G0 := G
        obtain ⟨⟨hw, hR, hL, hV, hM, hN⟩, rS, mS, wS, ny, ct⟩ := id G
        rw [S131]
        simp (disch := omega) only [s96, c1, c2, if_true, KX, GA, GR, GRc, GO, GI, GL, GV, am_w_i, am_ga, am_it, am_if, true_and, and_true, or_true, true_or, ne_eq, not_false_eq_true, not_true_eq_false, false_imp_iff, true_imp_iff, Int.reduceEq, Int.reduceLT, Int.reduceLE, Int.reduceAdd, Int.reduceSub, Int.reduceMul, Int.reduceNeg]
        refine s108 G0 (fun w' I' l => ?_)
        simp (disch := omega) only [KX, KC, GA, GR, GRc, GO, GI, GL, GV, am_w_i, am_ga, am_it, am_if, true_and, and_true, or_true, true_or, ne_eq, not_false_eq_true, not_true_eq_false, false_imp_iff, true_imp_iff, Int.reduceEq, Int.reduceLT, Int.reduceLE, Int.reduceAdd, Int.reduceSub, Int.reduceMul, Int.reduceNeg]
        refine CL.dist l wS (fun L2 l2 => ?_)
        simp (disch := omega) only [GA, GR, GRc, GO, GI, GL, GV, am_w_i, am_ga, am_it, am_if, true_and, and_true, or_true, true_or, ne_eq, not_false_eq_true, not_true_eq_false, false_imp_iff, true_imp_iff, Int.reduceEq, Int.reduceLT, Int.reduceLE, Int.reduceAdd, Int.reduceSub, Int.reduceMul, Int.reduceNeg]
        refine am_loop (α := Option am_V × (Nat → Int → Int) × (Nat → Int → Int)) m (fun i x => am_WP (d + 20) 131 44 [some (vR (some 0)), some (vI (m : Int)), some (vI b), some (vI (px_near V lw σ i).1), some (vI (px_near V lw σ i).2), some (vI ((i : Int) + 1)), x.1] [] (mkH w' x.2.1 x.2.2) Q) (fun i x => CL V lw (FT 1) (px_days V lw (FT 1) i σ) w I L w' x.2.1 x.2.2) ?_ ?_ 0 (none, I', L2) (Nat.zero_le _) l2
        · intro i ⟨l6, Ia, La⟩ hi la ih
          dsimp only at la ⊢
          have W2 := wS.days (lw := lw) (F := FT 1) hV FT_WF i (by omega)
          have W3 := wS.days (lw := lw) (F := FT 1) hV FT_WF (i + 1) (by omega)
          rw [B131_44]
          simp (disch := omega) only [KX, KC, GA, GR, GRc, GO, GI, GL, GV, am_w_i, am_ga, am_it, am_if, true_and, and_true, or_true, true_or, ne_eq, not_false_eq_true, not_true_eq_false, false_imp_iff, true_imp_iff, Int.reduceEq, Int.reduceLT, Int.reduceLE, Int.reduceAdd, Int.reduceSub, Int.reduceMul, Int.reduceNeg]
          refine CL.day la W2 (fun Ib Lb lb => ?_)
          simp (disch := omega) only [KX, KC, GA, GR, GRc, GO, GI, GL, GV, am_w_i, am_ga, am_it, am_if, true_and, and_true, or_true, true_or, ne_eq, not_false_eq_true, not_true_eq_false, false_imp_iff, true_imp_iff, Int.reduceEq, Int.reduceLT, Int.reduceLE, Int.reduceAdd, Int.reduceSub, Int.reduceMul, Int.reduceNeg]
          refine CL.dist lb W3 (fun Lc lc => ?_)
          simp (disch := omega) only [B131_88, GA, GR, GRc, GO, GI, GL, GV, am_w_i, am_ga, am_it, am_if, true_and, and_true, or_true, true_or, ne_eq, not_false_eq_true, not_true_eq_false, false_imp_iff, true_imp_iff, Int.reduceEq, Int.reduceLT, Int.reduceLE, Int.reduceAdd, Int.reduceSub, Int.reduceMul, Int.reduceNeg]
          have z := ih (some (vI (px_dist V lw (FT 1) (px_days V lw (FT 1) (i + 1) σ) (V 0 0).toNat)), Ib, Lc) lc
          rw [px_near] at z
          by_cases c : px_dist V lw (FT 1) (px_days V lw (FT 1) (i + 1) σ) (V 0 0).toNat < (px_near V lw σ i).2
          · rw [if_pos c] at z
            have hg : px_dist V lw (FT 1) (px_day V lw (FT 1) (px_days V lw (FT 1) i σ)) (V 0 0).toNat < (px_near V lw σ i).2 := c
            refine ⟨fun h => absurd hg (by omega), fun _ => z⟩
          · rw [if_neg c] at z
            have hg : ¬ px_dist V lw (FT 1) (px_day V lw (FT 1) (px_days V lw (FT 1) i σ)) (V 0 0).toNat < (px_near V lw σ i).2 := c
            refine ⟨fun h => z, fun h => absurd (by omega) hg⟩
        · intro ⟨l6, Ia, La⟩ la
          dsimp only at la ⊢
          have z := q _ _ _ la.qr
          rw [B131_44]
          simp (disch := omega) only [B131_104, GA, GR, GRc, GO, GI, GL, GV, am_w_i, am_ga, am_it, am_if, true_and, and_true, or_true, true_or, ne_eq, not_false_eq_true, not_true_eq_false, false_imp_iff, true_imp_iff, Int.reduceEq, Int.reduceLT, Int.reduceLE, Int.reduceAdd, Int.reduceSub, Int.reduceMul, Int.reduceNeg]
          by_cases c : b = 0
          · rw [if_pos c] at z; simp (disch := omega) only [c, z, GA, GR, GRc, GO, GI, GL, GV, am_w_i, am_ga, am_it, am_if, true_and, and_true, or_true, true_or, ne_eq, not_false_eq_true, not_true_eq_false, false_imp_iff, true_imp_iff, Int.reduceEq, Int.reduceLT, Int.reduceLE, Int.reduceAdd, Int.reduceSub, Int.reduceMul, Int.reduceNeg]
          · rw [if_neg c] at z; simp (disch := omega) only [c, z, GA, GR, GRc, GO, GI, GL, GV, am_w_i, am_ga, am_it, am_if, true_and, and_true, or_true, true_or, ne_eq, not_false_eq_true, not_true_eq_false, false_imp_iff, true_imp_iff, Int.reduceEq, Int.reduceLT, Int.reduceLE, Int.reduceAdd, Int.reduceSub, Int.reduceMul, Int.reduceNeg]
      · have G1 := G.t (v := 0)
        obtain ⟨⟨hw, hR, hL, hV, hM, hN⟩, rS, mS, wS, ny, ct⟩ := id G
        rw [S237]
        simp (disch := omega) only [Kk, B237_5, s153, c1, c2, if_true, s198, GA, GR, GRc, GO, GI, GL, GV, am_w_i, am_ga, am_it, am_if, true_and, and_true, or_true, true_or, ne_eq, not_false_eq_true, not_true_eq_false, false_imp_iff, true_imp_iff, Int.reduceEq, Int.reduceLT, Int.reduceLE, Int.reduceAdd, Int.reduceSub, Int.reduceMul, Int.reduceNeg]
        refine MA.dist G1.lt wS (fun I2 L2 l2 => ?_)
        simp (disch := omega) only [GA, GR, GRc, GO, GI, GL, GV, am_w_i, am_ga, am_it, am_if, true_and, and_true, or_true, true_or, ne_eq, not_false_eq_true, not_true_eq_false, false_imp_iff, true_imp_iff, Int.reduceEq, Int.reduceLT, Int.reduceLE, Int.reduceAdd, Int.reduceSub, Int.reduceMul, Int.reduceNeg]
        refine am_loop (α := Option am_V × (Nat → Int → Int) × (Nat → Int → Int)) m (fun i x => am_WP (d + 20) 237 43 [some (vR (some 99)), some (vI (m : Int)), some (vI b), some (vI (px_near V lw σ i).1), some (vI (px_near V lw σ i).2), some (vI ((i : Int) + 1)), x.1] [] (mkH w x.2.1 x.2.2) Q) (fun i x => MA V lw (FT 1) (px_days V lw (FT 1) i σ) (am_up I 99 2 0) L x.2.1 x.2.2) ?_ ?_ 0 (none, I2, L2) (Nat.zero_le _) l2
        · intro i ⟨l6, Ia, La⟩ hi la ih
          dsimp only at la ⊢
          have W2 := wS.days (lw := lw) (F := FT 1) hV FT_WF i (by omega)
          have W3 := wS.days (lw := lw) (F := FT 1) hV FT_WF (i + 1) (by omega)
          rw [B237_43]
          simp (disch := omega) only [Kk, GA, GR, GRc, GO, GI, GL, GV, am_w_i, am_ga, am_it, am_if, true_and, and_true, or_true, true_or, ne_eq, not_false_eq_true, not_true_eq_false, false_imp_iff, true_imp_iff, Int.reduceEq, Int.reduceLT, Int.reduceLE, Int.reduceAdd, Int.reduceSub, Int.reduceMul, Int.reduceNeg]
          refine MA.day la W2 (fun Ib Lb lb => ?_)
          simp (disch := omega) only [Kk, GA, GR, GRc, GO, GI, GL, GV, am_w_i, am_ga, am_it, am_if, true_and, and_true, or_true, true_or, ne_eq, not_false_eq_true, not_true_eq_false, false_imp_iff, true_imp_iff, Int.reduceEq, Int.reduceLT, Int.reduceLE, Int.reduceAdd, Int.reduceSub, Int.reduceMul, Int.reduceNeg]
          refine MA.dist lb W3 (fun Ic Lc lc => ?_)
          simp (disch := omega) only [B237_78, GA, GR, GRc, GO, GI, GL, GV, am_w_i, am_ga, am_it, am_if, true_and, and_true, or_true, true_or, ne_eq, not_false_eq_true, not_true_eq_false, false_imp_iff, true_imp_iff, Int.reduceEq, Int.reduceLT, Int.reduceLE, Int.reduceAdd, Int.reduceSub, Int.reduceMul, Int.reduceNeg]
          have z := ih (some (vI (px_dist V lw (FT 1) (px_days V lw (FT 1) (i + 1) σ) (V 0 0).toNat)), Ic, Lc) lc
          rw [px_near] at z
          by_cases c : px_dist V lw (FT 1) (px_days V lw (FT 1) (i + 1) σ) (V 0 0).toNat < (px_near V lw σ i).2
          · rw [if_pos c] at z
            have hg : px_dist V lw (FT 1) (px_day V lw (FT 1) (px_days V lw (FT 1) i σ)) (V 0 0).toNat < (px_near V lw σ i).2 := c
            refine ⟨fun _ => z, fun h => absurd hg h⟩
          · rw [if_neg c] at z
            have hg : ¬ px_dist V lw (FT 1) (px_day V lw (FT 1) (px_days V lw (FT 1) i σ)) (V 0 0).toNat < (px_near V lw σ i).2 := c
            refine ⟨fun h => absurd h hg, fun _ => z⟩
        · intro ⟨l6, Ia, La⟩ la
          dsimp only at la ⊢
          have z := q _ _ (QR.t.tr (la.qr (by rw [px_days_8 FT7]; exact mS.2.2.2.2.2.symm)))
          rw [B237_43]
          simp (disch := omega) only [B237_94, GA, GR, GRc, GO, GI, GL, GV, am_w_i, am_ga, am_it, am_if, true_and, and_true, or_true, true_or, ne_eq, not_false_eq_true, not_true_eq_false, false_imp_iff, true_imp_iff, Int.reduceEq, Int.reduceLT, Int.reduceLE, Int.reduceAdd, Int.reduceSub, Int.reduceMul, Int.reduceNeg]
          by_cases c : b = 0
          · rw [if_pos c] at z; simp (disch := omega) only [c, z, GA, GR, GRc, GO, GI, GL, GV, am_w_i, am_ga, am_it, am_if, true_and, and_true, or_true, true_or, ne_eq, not_false_eq_true, not_true_eq_false, false_imp_iff, true_imp_iff, Int.reduceEq, Int.reduceLT, Int.reduceLE, Int.reduceAdd, Int.reduceSub, Int.reduceMul, Int.reduceNeg]
          · rw [if_neg c] at z; simp (disch := omega) only [c, z, GA, GR, GRc, GO, GI, GL, GV, am_w_i, am_ga, am_it, am_if, true_and, and_true, or_true, true_or, ne_eq, not_false_eq_true, not_true_eq_false, false_imp_iff, true_imp_iff, Int.reduceEq, Int.reduceLT, Int.reduceLE, Int.reduceAdd, Int.reduceSub, Int.reduceMul, Int.reduceNeg]
    · refine ⟨vI (-1), fun w I L G d Q q => ?_, fun w I L G d Q q => ?_⟩
      · rw [S131]
        simp (disch := omega) only [s96, c1, c2, B131_20, if_true, if_false, GA, GR, GRc, GO, GI, GL, GV, am_w_i, am_ga, am_it, am_if, true_and, and_true, or_true, true_or, ne_eq, not_false_eq_true, not_true_eq_false, false_imp_iff, true_imp_iff, Int.reduceEq, Int.reduceLT, Int.reduceLE, Int.reduceAdd, Int.reduceSub, Int.reduceMul, Int.reduceNeg]
        exact q _ _ _ QR.rf
      · rw [S237]
        simp (disch := omega) only [Kk, B237_5, s153, c1, c2, B237_25, if_true, if_false, GA, GR, GRc, GO, GI, GL, GV, am_w_i, am_ga, am_it, am_if, true_and, and_true, or_true, true_or, ne_eq, not_false_eq_true, not_true_eq_false, false_imp_iff, true_imp_iff, Int.reduceEq, Int.reduceLT, Int.reduceLE, Int.reduceAdd, Int.reduceSub, Int.reduceMul, Int.reduceNeg]
        exact q _ _ QR.t
  · refine ⟨vI (-1), fun w I L G d Q q => ?_, fun w I L G d Q q => ?_⟩
    · rw [S131]
      simp (disch := omega) only [s96, c1, B131_20, if_false, GA, GR, GRc, GO, GI, GL, GV, am_w_i, am_ga, am_it, am_if, true_and, and_true, or_true, true_or, ne_eq, not_false_eq_true, not_true_eq_false, false_imp_iff, true_imp_iff, Int.reduceEq, Int.reduceLT, Int.reduceLE, Int.reduceAdd, Int.reduceSub, Int.reduceMul, Int.reduceNeg]
      exact q _ _ _ QR.rf
    · rw [S237]
      simp (disch := omega) only [Kk, B237_5, s153, c1, B237_25, if_false, GA, GR, GRc, GO, GI, GL, GV, am_w_i, am_ga, am_it, am_if, true_and, and_true, or_true, true_or, ne_eq, not_false_eq_true, not_true_eq_false, false_imp_iff, true_imp_iff, Int.reduceEq, Int.reduceLT, Int.reduceLE, Int.reduceAdd, Int.reduceSub, Int.reduceMul, Int.reduceNeg]
      exact q _ _ QR.t
