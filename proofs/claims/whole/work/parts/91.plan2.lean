/-! 91: plans, the reference -/
theorem px_B_i {V : (Nat → Int → Int)} (hV : WV V) : V 0 1 + 1 = ((px_B V : Nat) : Int) ∧ px_B V ≤ 9 := by
  have := hV.1.2.1; unfold px_B; omega
theorem px_B_l {V : (Nat → Int → Int)} (hV : WV V) {i : Nat} (hi : i ≤ 4) : px_B V ^ i ≤ 6561 := by
  have h1 := Nat.pow_le_pow_left (px_B_i hV).2 i
  have h2 : 9 ^ i ≤ 9 ^ 4 := Nat.pow_le_pow_right (by decide) hi
  have h3 : (9 : Nat) ^ 4 = 6561 := by decide
  omega
theorem px_td (a b : Nat) : Int.tdiv (a : Int) (b : Int) = ((a / b : Nat) : Int) := rfl
theorem px_tm (a b : Nat) : Int.tmod (a : Int) (b : Int) = ((a % b : Nat) : Int) := rfl
set_option maxHeartbeats 2000000 in
theorem s242 {d : Nat} {w : Nat × Nat × Nat × Nat} {I L : Nat → Int → Int} {V σ : (Nat → Int → Int)} {lw : (Int → (Int → Int) → Int)} {t : Int} {n code : Nat} (G : GC V lw σ w I L) (ht : 0 ≤ t ∧ t < 2) (hn : 1 ≤ n ∧ n ≤ 4) (hc : code < px_B V ^ n) {Q : Option am_V → am_H → Prop} (q : ∀ I' L', MA V lw (FT 1) (px_ps V lw t n code σ) I L I' L' → WS 9010 (px_ps V lw t n code σ) → Q none (mkH w I' L')) : am_Sp (d + 9) 242 [vR (some 99), vI t, vI (code : Int), vI (n : Int)] (mkH w I L) Q := by
  have l0 := G.lt
  obtain ⟨⟨hw, hR, hL, hV, hM, hN⟩, rS, mS, wS, ny, ct⟩ := id G
  obtain ⟨bi, b9⟩ := px_B_i hV
  have h8 := hV.1.2.1
  have B1 := px_B_p V
  have cl := px_B_l hV hn.2
  have hM0 : MW (cz_lt I) V := l0.1.1
  rw [S242]
  simp (disch := omega) only [Kk, s198, GA, GR, GRc, GO, GI, GL, GV, am_w_i, am_ga, am_it, am_if, true_and, and_true, or_true, true_or, ne_eq, not_false_eq_true, not_true_eq_false, false_imp_iff, true_imp_iff, Int.reduceEq, Int.reduceLT, Int.reduceLE, Int.reduceAdd, Int.reduceSub, Int.reduceMul, Int.reduceNeg]
  have first : am_WP (d + 9) 242 39 [some (vR (some 99)), some (vI t), some (vI (code : Int)), some (vI (n : Int)), some (vI ((px_B V ^ (n - 1) : Nat) : Int)), some (vI (code : Int)), some (vI 0), none] [] (mkH w (cz_lt I) L) Q → am_WP (d + 9) 242 10 [some (vR (some 99)), some (vI t), some (vI (code : Int)), some (vI (n : Int)), some (vI 1), some (vI 1), none, none] [] (mkH w (cz_lt I) L) Q := by
    intro nx
    have key := am_loop (α := Unit) (n - 1) (fun i _ => am_WP (d + 9) 242 10 [some (vR (some 99)), some (vI t), some (vI (code : Int)), some (vI (n : Int)), some (vI ((px_B V ^ i : Nat) : Int)), some (vI ((i : Int) + 1)), none, none] [] (mkH w (cz_lt I) L) Q) (fun _ _ => True) (by
      intro i _ hi _ ih
      have z := ih () trivial
      have p1 := px_B_l hV (i := i) (by omega)
      have p2 := px_B_l hV (i := i + 1) (by omega)
      have e1 : ((px_B V ^ i : Nat) : Int) * (V 0 1 + 1) = ((px_B V ^ (i + 1) : Nat) : Int) := by rw [bi, ← Int.natCast_mul, ← Nat.pow_succ]
      have c1 : ¬ (n : Int) ≤ (i : Int) + 1 := by omega
      rw [B242_10]
      rw [show ((i + 1 : Nat) : Int) + 1 = (i : Int) + 1 + 1 by omega] at z
      simp (disch := omega) only [Kk, hM0.1.2.1, c1, GA, GR, GRc, GO, GI, GL, GV, am_w_i, am_ga, am_it, am_if, true_and, and_true, or_true, true_or, ne_eq, not_false_eq_true, not_true_eq_false, false_imp_iff, true_imp_iff, Int.reduceEq, Int.reduceLT, Int.reduceLE, Int.reduceAdd, Int.reduceSub, Int.reduceMul, Int.reduceNeg]
      rw [e1]
      exact z) (by
      intro _ _
      have c1 : (n : Int) ≤ ((n - 1 : Nat) : Int) + 1 := by omega
      rw [B242_10]
      have z := nx
      first | (simp (disch := omega) only [c1, GA, GR, GRc, GO, GI, GL, GV, am_w_i, am_ga, am_it, am_if, true_and, and_true, or_true, true_or, ne_eq, not_false_eq_true, not_true_eq_false, false_imp_iff, true_imp_iff, Int.reduceEq, Int.reduceLT, Int.reduceLE, Int.reduceAdd, Int.reduceSub, Int.reduceMul, Int.reduceNeg]; exact z) | simp (disch := omega) only [c1, z, GA, GR, GRc, GO, GI, GL, GV, am_w_i, am_ga, am_it, am_if, true_and, and_true, or_true, true_or, ne_eq, not_false_eq_true, not_true_eq_false, false_imp_iff, true_imp_iff, Int.reduceEq, Int.reduceLT, Int.reduceLE, Int.reduceAdd, Int.reduceSub, Int.reduceMul, Int.reduceNeg])
    exact key 0 () (Nat.zero_le _) trivial
  refine first ?_
  have key := am_loop (α := (Nat → Int → Int) × (Nat → Int → Int) × Int × Int × Option am_V) n (fun k x => am_WP (d + 9) 242 39 [some (vR (some 99)), some (vI t), some (vI (code : Int)), some (vI (n : Int)), some (vI x.2.2.1), some (vI x.2.2.2.1), some (vI (k : Int)), x.2.2.2.2] [] (mkH w x.1 x.2.1) Q) (fun k x => ∃ (σ' : (Nat → Int → Int)) (c : Nat), MA V lw (FT 1) σ' I L x.1 x.2.1 ∧ (k < n → x.2.2.1 = ((px_B V ^ (n - k - 1) : Nat) : Int)) ∧ x.2.2.2.1 = (c : Int) ∧ c < px_B V ^ (n - k) ∧ px_ps V lw t (n - k) c σ' = px_ps V lw t n code σ ∧ WS (9000 + k) σ') (by
    rintro k ⟨I1, L1, l4, l5, l7⟩ hk ⟨σ', c, v1, v2, v3, v4, v5, v6⟩ ih
    dsimp only at v1 v2 v3 v4 v5 v6 ⊢
    obtain ⟨r, hr⟩ : ∃ r, n - k = r + 1 := ⟨n - k - 1, by omega⟩
    rw [hr] at v4 v5
    have v2 := v2 hk
    rw [show n - k - 1 = r by omega] at v2
    subst v2
    subst v3
    have hP := px_B_w V r
    have pl := px_B_l hV (i := r) (by omega)
    have pl1 := px_B_l hV (i := r + 1) (by omega)
    have eB : c / px_B V ^ r < px_B V := by
      rw [Nat.div_lt_iff_lt_mul hP, Nat.mul_comm, ← Nat.pow_succ]; exact v4
    have cm : c % px_B V ^ r < px_B V ^ r := Nat.mod_lt _ hP
    have Wd := WS.dp (lw := lw) (e := c / px_B V ^ r) hV ht v6 eB (by omega)
    have M1 := v1.1.1
    have p2 : I1 128 (2 + t) = σ' 2 t := by have := v1.2.1.2.1 t ht.1 ht.2; rwa [show (2 : Int) * 1 + t = 2 + t by omega] at this
    have pb := v6.2.1 t ht.1 ht.2
    have nz : ¬ ((px_B V ^ r : Nat) : Int) = 0 := by omega
    have nb : ¬ ((px_B V : Nat) : Int) = 0 := by omega
    have qd : px_B V ^ r / px_B V ≤ px_B V ^ r := Nat.div_le_self _ _
    rw [px_ps] at v5
    obtain ⟨e, he⟩ : ∃ e, e = c / px_B V ^ r := ⟨_, rfl⟩
    obtain ⟨qq, hqq⟩ : ∃ qq, qq = px_B V ^ r / px_B V := ⟨_, rfl⟩
    obtain ⟨cq, hcq⟩ : ∃ cq, cq = c % px_B V ^ r := ⟨_, rfl⟩
    obtain ⟨PP, hPP⟩ : ∃ PP, PP = px_B V ^ r := ⟨_, rfl⟩
    rw [← he] at eB Wd v5
    rw [← hqq] at qd
    rw [← hcq] at cm v5
    have k121 : ∀ J σ1, MA V lw (FT 1) σ1 I L J L1 → WS (9000 + k) σ1 → px_day V lw (FT 1) σ1 = px_dp V lw t (e) σ' → am_WP (d + 9) 242 121 [some (vR (some 99)), some (vI t), some (vI (code : Int)), some (vI (n : Int)), some (vI ((qq : Nat) : Int)), some (vI ((cq : Nat) : Int)), some (vI (k : Int)), some (vI (((e : Nat) : Int) - 1))] [] (mkH w J L1) Q := by
      intro J σ1 u1 u2 u3
      rw [B242_121]
      simp (disch := omega) only [Kk, GA, GR, GRc, GO, GI, GL, GV, am_w_i, am_ga, am_it, am_if, true_and, and_true, or_true, true_or, ne_eq, not_false_eq_true, not_true_eq_false, false_imp_iff, true_imp_iff, Int.reduceEq, Int.reduceLT, Int.reduceLE, Int.reduceAdd, Int.reduceSub, Int.reduceMul, Int.reduceNeg]
      refine MA.day u1 u2 (fun I2 L2 u4 => ?_)
      rw [u3] at u4
      have z := ih (I2, L2, ((qq : Nat) : Int), ((cq : Nat) : Int), some (vI (((e : Nat) : Int) - 1))) ⟨_, cq, u4, fun y => by
        obtain ⟨r', rfl⟩ : ∃ r', r = r' + 1 := ⟨r - 1, by omega⟩
        dsimp only
        rw [show n - (k + 1) - 1 = r' by omega, hqq, Nat.pow_succ, Nat.mul_div_cancel _ B1], rfl, by rw [show n - (k + 1) = r by omega]; exact cm, by rw [show n - (k + 1) = r by omega]; exact v5, by
        rw [show (9000 : Int) + ((k + 1 : Nat) : Int) = 9000 + k + 1 by omega]; exact Wd⟩
      first | (simp (disch := omega) only [GA, GR, GRc, GO, GI, GL, GV, am_w_i, am_ga, am_it, am_if, true_and, and_true, or_true, true_or, ne_eq, not_false_eq_true, not_true_eq_false, false_imp_iff, true_imp_iff, Int.reduceEq, Int.reduceLT, Int.reduceLE, Int.reduceAdd, Int.reduceSub, Int.reduceMul, Int.reduceNeg]; exact z) | simp (disch := omega) only [z, GA, GR, GRc, GO, GI, GL, GV, am_w_i, am_ga, am_it, am_if, true_and, and_true, or_true, true_or, ne_eq, not_false_eq_true, not_true_eq_false, false_imp_iff, true_imp_iff, Int.reduceEq, Int.reduceLT, Int.reduceLE, Int.reduceAdd, Int.reduceSub, Int.reduceMul, Int.reduceNeg]
    have c1 : ¬ (n : Int) ≤ (k : Int) := by omega
    rw [B242_39]
    simp (disch := omega) only [Kk, M1.1.2.1, c1, bi, px_td, px_tm, nz, nb, ← he, ← hqq, ← hcq, GA, GR, GRc, GO, GI, GL, GV, am_w_i, am_ga, am_it, am_if, true_and, and_true, or_true, true_or, ne_eq, not_false_eq_true, not_true_eq_false, false_imp_iff, true_imp_iff, Int.reduceEq, Int.reduceLT, Int.reduceLE, Int.reduceAdd, Int.reduceSub, Int.reduceMul, Int.reduceNeg]
    by_cases e0 : e = 0
    · have z := k121 I1 σ' v1 v6 (by rw [e0]; unfold px_dp; rw [if_neg (by omega)])
      have e3 : (e : Int) - 1 < 0 := by omega
      first | (simp (disch := omega) only [e3, GA, GR, GRc, GO, GI, GL, GV, am_w_i, am_ga, am_it, am_if, true_and, and_true, or_true, true_or, ne_eq, not_false_eq_true, not_true_eq_false, false_imp_iff, true_imp_iff, Int.reduceEq, Int.reduceLT, Int.reduceLE, Int.reduceAdd, Int.reduceSub, Int.reduceMul, Int.reduceNeg]; exact z) | simp (disch := omega) only [e3, z, GA, GR, GRc, GO, GI, GL, GV, am_w_i, am_ga, am_it, am_if, true_and, and_true, or_true, true_or, ne_eq, not_false_eq_true, not_true_eq_false, false_imp_iff, true_imp_iff, Int.reduceEq, Int.reduceLT, Int.reduceLE, Int.reduceAdd, Int.reduceSub, Int.reduceMul, Int.reduceNeg]
    · have e2 : ¬ (e : Int) - 1 < 0 := by omega
      have e1 : (0 : Int) ≤ (e : Int) - 1 ∧ (e : Int) - 1 < V 0 1 := by omega
      have vi := M1.2.2.1 _ e1.1 e1.2
      have wi := hV.2.2.1 _ e1.1 e1.2
      by_cases cc : V 8 ((e : Int) - 1) ≤ σ' 2 t
      · have Wu := v6.u2 (i := t) (v := σ' 2 t - V 8 ((e : Int) - 1)) (by omega)
        have Mu := v1.2.1.u2 (i := t) (v := σ' 2 t - V 8 ((e : Int) - 1))
        have fu : MFr 1 I1 (am_up I1 128 (2 * 1 + t) (σ' 2 t - V 8 ((e : Int) - 1))) := MFr.u2 ht.1
        rw [show (2 : Int) * 1 + t = 2 + t by omega] at Mu fu
        simp (disch := omega) only [Kk, Ks, Kw, p2, vi.2.2.2.1, cc, e2, GA, GR, GRc, GO, GI, GL, GV, am_w_i, am_ga, am_it, am_if, true_and, and_true, or_true, true_or, ne_eq, not_false_eq_true, not_true_eq_false, false_imp_iff, true_imp_iff, Int.reduceEq, Int.reduceLT, Int.reduceLE, Int.reduceAdd, Int.reduceSub, Int.reduceMul, Int.reduceNeg]
        rw [B242_113]
        simp (disch := omega) only [Kk, GA, GR, GRc, GO, GI, GL, GV, am_w_i, am_ga, am_it, am_if, true_and, and_true, or_true, true_or, ne_eq, not_false_eq_true, not_true_eq_false, false_imp_iff, true_imp_iff, Int.reduceEq, Int.reduceLT, Int.reduceLE, Int.reduceAdd, Int.reduceSub, Int.reduceMul, Int.reduceNeg]
        refine s214 (v1.1.fr fu) (Or.inr rfl) Mu Wu ht e1.1 e1.2 (fun I2 R2 F2 => ?_)
        have z := k121 I2 _ ⟨(v1.1.fr fu).fr F2, R2, v1.2.2.1.tr ((QF.mf fu).tr (QF.mf F2)), v1.2.2.2⟩ Wu.add (by unfold px_dp; rw [if_pos ⟨by omega, cc⟩])
        first | (simp (disch := omega) only [GA, GR, GRc, GO, GI, GL, GV, am_w_i, am_ga, am_it, am_if, true_and, and_true, or_true, true_or, ne_eq, not_false_eq_true, not_true_eq_false, false_imp_iff, true_imp_iff, Int.reduceEq, Int.reduceLT, Int.reduceLE, Int.reduceAdd, Int.reduceSub, Int.reduceMul, Int.reduceNeg]; exact z) | simp (disch := omega) only [z, GA, GR, GRc, GO, GI, GL, GV, am_w_i, am_ga, am_it, am_if, true_and, and_true, or_true, true_or, ne_eq, not_false_eq_true, not_true_eq_false, false_imp_iff, true_imp_iff, Int.reduceEq, Int.reduceLT, Int.reduceLE, Int.reduceAdd, Int.reduceSub, Int.reduceMul, Int.reduceNeg]
      · have z := k121 I1 σ' v1 v6 (by rw [px_dp_n cc]; unfold px_dp; rw [if_neg (by omega)])
        first | (simp (disch := omega) only [Kk, Ks, Kw, p2, vi.2.2.2.1, cc, e2, GA, GR, GRc, GO, GI, GL, GV, am_w_i, am_ga, am_it, am_if, true_and, and_true, or_true, true_or, ne_eq, not_false_eq_true, not_true_eq_false, false_imp_iff, true_imp_iff, Int.reduceEq, Int.reduceLT, Int.reduceLE, Int.reduceAdd, Int.reduceSub, Int.reduceMul, Int.reduceNeg]; exact z) | simp (disch := omega) only [Kk, Ks, Kw, p2, vi.2.2.2.1, cc, e2, z, GA, GR, GRc, GO, GI, GL, GV, am_w_i, am_ga, am_it, am_if, true_and, and_true, or_true, true_or, ne_eq, not_false_eq_true, not_true_eq_false, false_imp_iff, true_imp_iff, Int.reduceEq, Int.reduceLT, Int.reduceLE, Int.reduceAdd, Int.reduceSub, Int.reduceMul, Int.reduceNeg]) (by
    rintro ⟨I1, L1, l4, l5, l7⟩ ⟨σ', c, v1, v2, v3, v4, v5, v6⟩
    dsimp only at v1 v2 v3 v4 v5 v6 ⊢
    rw [Nat.sub_self, px_ps] at v5
    subst v5
    rw [B242_39]
    have z := q I1 L1 v1 (v6.mo (by omega) (by omega))
    first | (simp (disch := omega) only [GA, GR, GRc, GO, GI, GL, GV, am_w_i, am_ga, am_it, am_if, true_and, and_true, or_true, true_or, ne_eq, not_false_eq_true, not_true_eq_false, false_imp_iff, true_imp_iff, Int.reduceEq, Int.reduceLT, Int.reduceLE, Int.reduceAdd, Int.reduceSub, Int.reduceMul, Int.reduceNeg]; exact z) | simp (disch := omega) only [z, GA, GR, GRc, GO, GI, GL, GV, am_w_i, am_ga, am_it, am_if, true_and, and_true, or_true, true_or, ne_eq, not_false_eq_true, not_true_eq_false, false_imp_iff, true_imp_iff, Int.reduceEq, Int.reduceLT, Int.reduceLE, Int.reduceAdd, Int.reduceSub, Int.reduceMul, Int.reduceNeg])
  exact key 0 (cz_lt I, L, ((px_B V ^ (n - 1) : Nat) : Int), (code : Int), none) (Nat.zero_le _) ⟨σ, code, l0, fun _ => rfl, rfl, hc, rfl, by have := wS; rwa [show (9000 : Int) + ((0 : Nat) : Int) = 9000 by omega]⟩
theorem px_ps_8 {V : (Nat → Int → Int)} {lw : (Int → (Int → Int) → Int)} {t : Int} : ∀ {n c : Nat} {σ : (Nat → Int → Int)}, px_ps V lw t n c σ 0 8 = σ 0 8
  | 0, _, _ => rfl
  | n + 1, c, σ => by
    rw [px_ps, px_ps_8]
    unfold px_dp
    rw [px_day_8 (by unfold FT; decide)]
    split
    · unfold px_add; rw [am_up_a _ _ _ _ (by decide), am_up_a _ _ _ _ (by decide)]
    · rfl
set_option maxHeartbeats 2000000 in
theorem s243 {d : Nat} {w : Nat × Nat × Nat × Nat} {I L : Nat → Int → Int} {V σ : (Nat → Int → Int)} {lw : (Int → (Int → Int) → Int)} {t x : Int} {n : Nat} (G : GC V lw σ w I L) (ht : t = 0 ∨ t = 1) (hn : 1 ≤ n ∧ n ≤ 4) (hx : 0 ≤ x ∧ x ≤ 4) {v : Int} (hv : v = if x = 4 then (px_pm (px_pd V lw t n σ) (px_B V ^ n - 1)).2 else if x < n ∧ 0 ≤ px_dg V n (px_pm (px_pd V lw t n σ) (px_B V ^ n - 1)).1 x.toNat then px_dg V n (px_pm (px_pd V lw t n σ) (px_B V ^ n - 1)).1 x.toNat else -2) {Q : Option am_V → am_H → Prop} (q : ∀ I' L', QR w I L w I' L' → Q (some (vI v)) (mkH w I' L')) : am_Sp (d + 20) 243 [vR (some 99), vI t, vI (n : Int), vI x] (mkH w I L) Q := by
  have G1 := G.t (v := 0)
  have ht2 : 0 ≤ t ∧ t < 2 := by omega
  have hn2 : (1 : Int) ≤ n ∧ (n : Int) ≤ 4 := by omega
  have hV := G.1.2.2.2.1
  obtain ⟨bi, b9⟩ := px_B_i hV
  have h8 := hV.1.2.1
  have B1 := px_B_p V
  have al := px_B_l hV hn.2
  have a1 := px_B_w V n
  rw [S243]
  simp (disch := omega) only [Kk, GA, GR, GRc, GO, GI, GL, GV, am_w_i, am_ga, am_it, am_if, true_and, and_true, or_true, true_or, ne_eq, not_false_eq_true, not_true_eq_false, false_imp_iff, true_imp_iff, Int.reduceEq, Int.reduceLT, Int.reduceLE, Int.reduceAdd, Int.reduceSub, Int.reduceMul, Int.reduceNeg]
  rw [B243_5]
  by_cases c0 : x < 4 ∧ ¬ x < n
  · have z := q _ _ (QR.t (v := 0))
    rw [hv, if_neg (by omega), if_neg (by omega)] at z
    simp (disch := omega) only [s201, ht, if_true, s153, hn2, hx, c0, GA, GR, GRc, GO, GI, GL, GV, am_w_i, am_ga, am_it, am_if, true_and, and_true, or_true, true_or, ne_eq, not_false_eq_true, not_true_eq_false, false_imp_iff, true_imp_iff, Int.reduceEq, Int.reduceLT, Int.reduceLE, Int.reduceAdd, Int.reduceSub, Int.reduceMul, Int.reduceNeg]
    exact z
  · have nx : am_WP (d + 20) 243 45 [some (vR (some 99)), some (vI t), some (vI (n : Int)), some (vI x), none, none, none, none, none] [] (mkH w (am_up I 99 2 0) L) Q := by
      rw [B243_45]
      have key := am_loop (α := Unit) n (fun i _ => am_WP (d + 20) 243 51 [some (vR (some 99)), some (vI t), some (vI (n : Int)), some (vI x), some (vI ((px_B V ^ i : Nat) : Int)), some (vI (i : Int)), none, none, none] [] (mkH w (am_up I 99 2 0) L) Q) (fun _ _ => True) (by
        intro i _ hi _ ih
        have z := ih () trivial
        have p1 := px_B_l hV (i := i) (by omega)
        have p2 := px_B_l hV (i := i + 1) (by omega)
        have e1 : ((px_B V ^ i : Nat) : Int) * (V 0 1 + 1) = ((px_B V ^ (i + 1) : Nat) : Int) := by rw [bi, ← Int.natCast_mul, ← Nat.pow_succ]
        rw [B243_51]
        rw [show ((i + 1 : Nat) : Int) = (i : Int) + 1 by omega] at z
        simp (disch := omega) only [Kk, G1.1.2.2.2.2.1.1.2.1, GA, GR, GRc, GO, GI, GL, GV, am_w_i, am_ga, am_it, am_if, true_and, and_true, or_true, true_or, ne_eq, not_false_eq_true, not_true_eq_false, false_imp_iff, true_imp_iff, Int.reduceEq, Int.reduceLT, Int.reduceLE, Int.reduceAdd, Int.reduceSub, Int.reduceMul, Int.reduceNeg]
        rw [e1]
        exact z) (by
        intro _ _
        rw [B243_51]
        simp (disch := omega) only [GA, GR, GRc, GO, GI, GL, GV, am_w_i, am_ga, am_it, am_if, true_and, and_true, or_true, true_or, ne_eq, not_false_eq_true, not_true_eq_false, false_imp_iff, true_imp_iff, Int.reduceEq, Int.reduceLT, Int.reduceLE, Int.reduceAdd, Int.reduceSub, Int.reduceMul, Int.reduceNeg]
        have key := am_loop (α := (Nat → Int → Int) × (Nat → Int → Int) × Int × Int × Option am_V) (px_B V ^ n) (fun c x' => am_WP (d + 20) 243 83 [some (vR (some 99)), some (vI t), some (vI (n : Int)), some (vI x), some (vI ((px_B V ^ n : Nat) : Int)), some (vI x'.2.2.1), some (vI x'.2.2.2.1), some (vI (c : Int)), x'.2.2.2.2] [] (mkH w x'.1 x'.2.1) Q) (fun c x' => QR w (am_up I 99 2 0) L w x'.1 x'.2.1 ∧ ((c = 0 ∧ x'.2.2.1 = -1) ∨ (1 ≤ c ∧ x'.2.2.1 = ((px_pm (px_pd V lw t n σ) (c - 1)).1 : Int) ∧ x'.2.2.2.1 = (px_pm (px_pd V lw t n σ) (c - 1)).2))) (by
          rintro c ⟨I1, L1, l5, l6, l8⟩ hc ⟨r, v⟩ ih
          dsimp only at r v ⊢
          have Ga := G1.q r
          have cz : ¬ ((px_B V ^ n : Nat) : Int) ≤ (c : Int) := by omega
          rw [B243_83]
          simp (disch := omega) only [cz, Kk, GA, GR, GRc, GO, GI, GL, GV, am_w_i, am_ga, am_it, am_if, true_and, and_true, or_true, true_or, ne_eq, not_false_eq_true, not_true_eq_false, false_imp_iff, true_imp_iff, Int.reduceEq, Int.reduceLT, Int.reduceLE, Int.reduceAdd, Int.reduceSub, Int.reduceMul, Int.reduceNeg]
          refine s242 (d := d + 10) Ga ht2 hn hc (fun I2 L2 u1 u2 => ?_)
          simp (disch := omega) only [Kk, GA, GR, GRc, GO, GI, GL, GV, am_w_i, am_ga, am_it, am_if, true_and, and_true, or_true, true_or, ne_eq, not_false_eq_true, not_true_eq_false, false_imp_iff, true_imp_iff, Int.reduceEq, Int.reduceLT, Int.reduceLE, Int.reduceAdd, Int.reduceSub, Int.reduceMul, Int.reduceNeg]
          refine MA.dist u1 u2 (fun I3 L3 u3 => ?_)
          have q3 := u3.qr (w := w) (by rw [px_ps_8]; exact Ga.2.2.1.2.2.2.2.2.symm)
          have fd : px_dist V lw (FT 1) (px_ps V lw t n c σ) (V 0 0).toNat = px_pd V lw t n σ c := rfl
          rw [fd]
          have z := fun y5 y6 hy => ih (I3, L3, y5, y6, some (vI (px_pd V lw t n σ c))) ⟨r.tr q3, hy⟩
          dsimp only at z
          rcases v with ⟨c1, c2⟩ | ⟨c1, c2, c3⟩
          · subst c1
            subst c2
            have z := z 0 (px_pd V lw t n σ 0) (Or.inr ⟨by omega, rfl, rfl⟩)
            simp (disch := omega) only [B243_120, B243_128, GA, GR, GRc, GO, GI, GL, GV, am_w_i, am_ga, am_it, am_if, true_and, and_true, or_true, true_or, ne_eq, not_false_eq_true, not_true_eq_false, false_imp_iff, true_imp_iff, Int.reduceEq, Int.reduceLT, Int.reduceLE, Int.reduceAdd, Int.reduceSub, Int.reduceMul, Int.reduceNeg]
            exact z
          · obtain ⟨k, rfl⟩ : ∃ k, c = k + 1 := ⟨c - 1, by omega⟩
            rw [show k + 1 - 1 = k by omega] at c2 c3
            subst c2
            subst c3
            have pbd := (px_pm_b (f := px_pd V lw t n σ) (m := k)).1
            by_cases c4 : px_pd V lw t n σ (k + 1) < (px_pm (px_pd V lw t n σ) k).2
            · have z := z ((k + 1 : Nat) : Int) (px_pd V lw t n σ (k + 1)) (Or.inr ⟨by omega, by rw [show k + 1 + 1 - 1 = k + 1 by omega, px_pm, if_pos c4], by rw [show k + 1 + 1 - 1 = k + 1 by omega, px_pm, if_pos c4]⟩)
              simp (disch := omega) only [c4, B243_120, B243_128, GA, GR, GRc, GO, GI, GL, GV, am_w_i, am_ga, am_it, am_if, true_and, and_true, or_true, true_or, ne_eq, not_false_eq_true, not_true_eq_false, false_imp_iff, true_imp_iff, Int.reduceEq, Int.reduceLT, Int.reduceLE, Int.reduceAdd, Int.reduceSub, Int.reduceMul, Int.reduceNeg]
              exact z
            · have z := z ((px_pm (px_pd V lw t n σ) k).1 : Int) (px_pm (px_pd V lw t n σ) k).2 (Or.inr ⟨by omega, by rw [show k + 1 + 1 - 1 = k + 1 by omega, px_pm, if_neg c4], by rw [show k + 1 + 1 - 1 = k + 1 by omega, px_pm, if_neg c4]⟩)
              simp (disch := omega) only [c4, B243_128, GA, GR, GRc, GO, GI, GL, GV, am_w_i, am_ga, am_it, am_if, true_and, and_true, or_true, true_or, ne_eq, not_false_eq_true, not_true_eq_false, false_imp_iff, true_imp_iff, Int.reduceEq, Int.reduceLT, Int.reduceLE, Int.reduceAdd, Int.reduceSub, Int.reduceMul, Int.reduceNeg]
              exact z) (by
          rintro ⟨I1, L1, l5, l6, l8⟩ ⟨r, v⟩
          dsimp only at r v ⊢
          have Ga := G1.q r
          rcases v with ⟨c1, c2⟩ | ⟨c1, c2, c3⟩
          · omega
          subst c2
          subst c3
          have pbd := (px_pm_b (f := px_pd V lw t n σ) (m := px_B V ^ n - 1)).1
          have z := q I1 L1 (QR.t.tr r)
          rw [B243_83]
          by_cases c4 : x = 4
          · rw [hv, if_pos c4] at z
            first | (simp (disch := omega) only [c4, GA, GR, GRc, GO, GI, GL, GV, am_w_i, am_ga, am_it, am_if, true_and, and_true, or_true, true_or, ne_eq, not_false_eq_true, not_true_eq_false, false_imp_iff, true_imp_iff, Int.reduceEq, Int.reduceLT, Int.reduceLE, Int.reduceAdd, Int.reduceSub, Int.reduceMul, Int.reduceNeg]; exact z) | simp (disch := omega) only [c4, z, GA, GR, GRc, GO, GI, GL, GV, am_w_i, am_ga, am_it, am_if, true_and, and_true, or_true, true_or, ne_eq, not_false_eq_true, not_true_eq_false, false_imp_iff, true_imp_iff, Int.reduceEq, Int.reduceLT, Int.reduceLE, Int.reduceAdd, Int.reduceSub, Int.reduceMul, Int.reduceNeg]
          · rw [hv, if_neg c4] at z
            generalize px_pm (px_pd V lw t n σ) (px_B V ^ n - 1) = bl at z pbd ⊢
            obtain ⟨bc, ls⟩ := bl
            dsimp only at z pbd ⊢
            simp (disch := omega) only [c4, GA, GR, GRc, GO, GI, GL, GV, am_w_i, am_ga, am_it, am_if, true_and, and_true, or_true, true_or, ne_eq, not_false_eq_true, not_true_eq_false, false_imp_iff, true_imp_iff, Int.reduceEq, Int.reduceLT, Int.reduceLE, Int.reduceAdd, Int.reduceSub, Int.reduceMul, Int.reduceNeg]
            obtain ⟨xn, hxn⟩ : ∃ xn : Nat, x = xn := ⟨x.toNat, by omega⟩
            have ex : x.toNat = xn := by omega
            rw [ex] at z
            unfold px_dg at z
            have key := am_loop (α := Unit) (n - 1 - xn) (fun i _ => am_WP (d + 20) 243 147 [some (vR (some 99)), some (vI t), some (vI (n : Int)), some (vI x), some (vI ((px_B V ^ n : Nat) : Int)), some (vI ((bc / px_B V ^ i : Nat) : Int)), some (vI ls), some (vI ((n : Int) - 1 - i)), l8] [] (mkH w I1 L1) Q) (fun _ _ => True) (by
              intro i _ hi _ ih
              have z := ih () trivial
              have nb : ¬ ((px_B V : Nat) : Int) = 0 := by omega
              have c5 : ¬ (n : Int) - 1 - i ≤ x := by omega
              have db : bc / px_B V ^ i / px_B V ≤ bc := Nat.le_trans (Nat.div_le_self _ _) (Nat.div_le_self _ _)
              obtain ⟨b1, hb1⟩ : ∃ b1, b1 = bc / px_B V ^ i := ⟨_, rfl⟩
              obtain ⟨b2, hb2⟩ : ∃ b2, b2 = b1 / px_B V := ⟨_, rfl⟩
              have hb3 : bc / px_B V ^ (i + 1) = b2 := by rw [hb2, hb1, Nat.div_div_eq_div_mul, ← Nat.pow_succ]
              rw [← hb1, ← hb2] at db
              rw [hb3, show (n : Int) - 1 - ((i + 1 : Nat) : Int) = (n : Int) - 1 - i + -1 by omega] at z
              rw [B243_147, ← hb1]
              first | (simp (disch := omega) only [Kk, Ga.1.2.2.2.2.1.1.2.1, c5, bi, px_td, nb, ← hb2, GA, GR, GRc, GO, GI, GL, GV, am_w_i, am_ga, am_it, am_if, true_and, and_true, or_true, true_or, ne_eq, not_false_eq_true, not_true_eq_false, false_imp_iff, true_imp_iff, Int.reduceEq, Int.reduceLT, Int.reduceLE, Int.reduceAdd, Int.reduceSub, Int.reduceMul, Int.reduceNeg]; exact z) | simp (disch := omega) only [Kk, Ga.1.2.2.2.2.1.1.2.1, c5, bi, px_td, nb, ← hb2, z, GA, GR, GRc, GO, GI, GL, GV, am_w_i, am_ga, am_it, am_if, true_and, and_true, or_true, true_or, ne_eq, not_false_eq_true, not_true_eq_false, false_imp_iff, true_imp_iff, Int.reduceEq, Int.reduceLT, Int.reduceLE, Int.reduceAdd, Int.reduceSub, Int.reduceMul, Int.reduceNeg]) (by
              intro _ _
              have nb : ¬ ((px_B V : Nat) : Int) = 0 := by omega
              have c5 : (n : Int) - 1 - ((n - 1 - xn : Nat) : Int) ≤ x := by omega
              have mb : bc / px_B V ^ (n - 1 - xn) % px_B V < px_B V := Nat.mod_lt _ B1
              obtain ⟨b1, hb1⟩ : ∃ b1, b1 = bc / px_B V ^ (n - 1 - xn) := ⟨_, rfl⟩
              obtain ⟨b2, hb2⟩ : ∃ b2, b2 = b1 % px_B V := ⟨_, rfl⟩
              rw [← hb1, ← hb2] at mb z
              rw [B243_147, ← hb1]
              by_cases c6 : (0 : Int) ≤ (b2 : Int) - 1
              · rw [if_pos ⟨by omega, c6⟩] at z
                first | (simp (disch := omega) only [Kk, Ga.1.2.2.2.2.1.1.2.1, c5, bi, px_tm, nb, B243_195, ← hb2, c6, GA, GR, GRc, GO, GI, GL, GV, am_w_i, am_ga, am_it, am_if, true_and, and_true, or_true, true_or, ne_eq, not_false_eq_true, not_true_eq_false, false_imp_iff, true_imp_iff, Int.reduceEq, Int.reduceLT, Int.reduceLE, Int.reduceAdd, Int.reduceSub, Int.reduceMul, Int.reduceNeg]; exact z) | simp (disch := omega) only [Kk, Ga.1.2.2.2.2.1.1.2.1, c5, bi, px_tm, nb, B243_195, ← hb2, c6, z, GA, GR, GRc, GO, GI, GL, GV, am_w_i, am_ga, am_it, am_if, true_and, and_true, or_true, true_or, ne_eq, not_false_eq_true, not_true_eq_false, false_imp_iff, true_imp_iff, Int.reduceEq, Int.reduceLT, Int.reduceLE, Int.reduceAdd, Int.reduceSub, Int.reduceMul, Int.reduceNeg]
              · rw [if_neg (fun y => c6 y.2)] at z
                first | (simp (disch := omega) only [Kk, Ga.1.2.2.2.2.1.1.2.1, c5, bi, px_tm, nb, B243_195, ← hb2, c6, GA, GR, GRc, GO, GI, GL, GV, am_w_i, am_ga, am_it, am_if, true_and, and_true, or_true, true_or, ne_eq, not_false_eq_true, not_true_eq_false, false_imp_iff, true_imp_iff, Int.reduceEq, Int.reduceLT, Int.reduceLE, Int.reduceAdd, Int.reduceSub, Int.reduceMul, Int.reduceNeg]; exact z) | simp (disch := omega) only [Kk, Ga.1.2.2.2.2.1.1.2.1, c5, bi, px_tm, nb, B243_195, ← hb2, c6, z, GA, GR, GRc, GO, GI, GL, GV, am_w_i, am_ga, am_it, am_if, true_and, and_true, or_true, true_or, ne_eq, not_false_eq_true, not_true_eq_false, false_imp_iff, true_imp_iff, Int.reduceEq, Int.reduceLT, Int.reduceLE, Int.reduceAdd, Int.reduceSub, Int.reduceMul, Int.reduceNeg])
            have k0 := key 0 () (Nat.zero_le _) trivial
            rw [Nat.pow_zero, Nat.div_one] at k0
            rw [show (n : Int) - 1 - ((0 : Nat) : Int) = (n : Int) - 1 by omega] at k0
            exact k0)
        exact key 0 (am_up I 99 2 0, L, -1, 0, none) (Nat.zero_le _) ⟨QR.rf, Or.inl ⟨rfl, rfl⟩⟩)
      exact key 0 () (Nat.zero_le _) trivial
    by_cases c4 : x = 4
    · simp (disch := omega) only [s201, ht, if_true, s153, hn2, hx, c4, GA, GR, GRc, GO, GI, GL, GV, am_w_i, am_ga, am_it, am_if, true_and, and_true, or_true, true_or, ne_eq, not_false_eq_true, not_true_eq_false, false_imp_iff, true_imp_iff, Int.reduceEq, Int.reduceLT, Int.reduceLE, Int.reduceAdd, Int.reduceSub, Int.reduceMul, Int.reduceNeg]
      rw [c4] at nx
      exact nx
    · have c5 : x < n := by omega
      have c6 : ¬ (4 : Int) ≤ x := by omega
      simp (disch := omega) only [s201, ht, if_true, s153, hn2, hx, c5, c6, GA, GR, GRc, GO, GI, GL, GV, am_w_i, am_ga, am_it, am_if, true_and, and_true, or_true, true_or, ne_eq, not_false_eq_true, not_true_eq_false, false_imp_iff, true_imp_iff, Int.reduceEq, Int.reduceLT, Int.reduceLE, Int.reduceAdd, Int.reduceSub, Int.reduceMul, Int.reduceNeg]
      exact nx
