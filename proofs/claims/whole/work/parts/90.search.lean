/-! 90: plans, the class's search -/
theorem px_stt (w : (Nat × Nat × Nat × Nat)) (I L : (Nat → Int → Int)) {j : Nat} (h : j ≤ 4) : am_R (mkH w I L) 67 (j : Int) = some (68 + 4 * j) := by
  rcases (show j = 0 ∨ j = 1 ∨ j = 2 ∨ j = 3 ∨ j = 4 by omega) with rfl | rfl | rfl | rfl | rfl <;> rfl
theorem pl_ar {P B e x : Nat} (he : e < B) (hx : x < P) : e * P + x < P * B := by
  have h : (e + 1) * P ≤ B * P := Nat.mul_le_mul_right P he
  rw [Nat.add_mul, Nat.one_mul] at h
  rw [Nat.mul_comm P B]; omega
theorem isS_j {j : Nat} (h : j ≤ 4) : isS (68 + 4 * j) := by unfold isS; omega
theorem s55 {d : Nat} {w : Nat × Nat × Nat × Nat} {I L : Nat → Int → Int} {x : Int} {Q : Option am_V → am_H → Prop} (q1 : I 64 1 ≤ x → Q none (mkH w I L)) (q2 : x < I 64 1 → Q none (mkH w (cz_cp (am_up I 64 1 x) 66 0 65 0 4) L)) : am_Sp d 55 [vR (some 64), vI x] (mkH w I L) Q := by
  rw [S55]
  by_cases c : I 64 1 ≤ x
  · have z := q1 c
    first | (simp (disch := omega) only [KN, c, GA, GR, GRc, GO, GI, GL, GV, am_w_i, am_ga, am_it, am_if, true_and, and_true, or_true, true_or, ne_eq, not_false_eq_true, not_true_eq_false, false_imp_iff, true_imp_iff, Int.reduceEq, Int.reduceLT, Int.reduceLE, Int.reduceAdd, Int.reduceSub, Int.reduceMul, Int.reduceNeg]; exact z) | simp (disch := omega) only [KN, c, z, GA, GR, GRc, GO, GI, GL, GV, am_w_i, am_ga, am_it, am_if, true_and, and_true, or_true, true_or, ne_eq, not_false_eq_true, not_true_eq_false, false_imp_iff, true_imp_iff, Int.reduceEq, Int.reduceLT, Int.reduceLE, Int.reduceAdd, Int.reduceSub, Int.reduceMul, Int.reduceNeg]
  · have z := q2 (by omega)
    first | (simp (disch := omega) only [KN, c, B55_13, GA, GR, GRc, GO, GI, GL, GV, am_w_i, am_ga, am_it, am_if, true_and, and_true, or_true, true_or, ne_eq, not_false_eq_true, not_true_eq_false, false_imp_iff, true_imp_iff, Int.reduceEq, Int.reduceLT, Int.reduceLE, Int.reduceAdd, Int.reduceSub, Int.reduceMul, Int.reduceNeg]; exact z) | simp (disch := omega) only [KN, c, B55_13, z, GA, GR, GRc, GO, GI, GL, GV, am_w_i, am_ga, am_it, am_if, true_and, and_true, or_true, true_or, ne_eq, not_false_eq_true, not_true_eq_false, false_imp_iff, true_imp_iff, Int.reduceEq, Int.reduceLT, Int.reduceLE, Int.reduceAdd, Int.reduceSub, Int.reduceMul, Int.reduceNeg]
set_option maxHeartbeats 2000000 in
theorem s54 {V : (Nat → Int → Int)} {lw : (Int → (Int → Int) → Int)} {t : Int} {n : Nat} {f : Nat → Int} {w : (Nat × Nat × Nat × Nat)} (hV : WV V) (ht : 0 ≤ t ∧ t < 2) (hn : n ≤ 4) : ∀ (r j s d dd : Nat) (I L σ : (Nat → Int → Int)) (c : Nat) (D : Int) (Q : Option am_V → am_H → Prop), j + r = n → s = 68 + 4 * j → dd = d + r + 6 → CC w I V lw (FT 1) → RS I s σ → CT I s (V 0 2).toNat → NY V σ → WS D σ → D + r ≤ 20000 → I 64 5 = t → I 64 6 = n → (∀ x, x < px_B V ^ r → f (c * px_B V ^ r + x) = px_pd V lw t r σ x) → (∀ i : Nat, i < j → ∀ x, x < px_B V ^ r → I 66 i = px_dg V n (c * px_B V ^ r + x) i) → plJ V n f (c * px_B V ^ r) I → (∀ I' L', plJ V n f ((c + 1) * px_B V ^ r) I' → (∀ a, a ≠ 64 → a ≠ 65 → a ≠ 66 → ¬ (s + 4 ≤ a ∧ a ≤ 87) → I' a = I a) → (∀ k, k ≠ 1 → I' 64 k = I 64 k) → (∀ i : Int, i < j → I' 66 i = I 66 i) → LF L L' → Q none (mkH w I' L')) → am_Sp dd 54 [vR (some 64), vR (some 63), vI (j : Int)] (mkH w I L) Q
  | 0, j, s, d, dd, I, L, σ, c, D, Q, hj, hs, hd, C, R, T, N, W, hD, h5, h6, hf, hc, hJ, q => by
    subst hd
    subst hs
    have ej : (j : Int) = n := by omega
    have k6 := hV.1.1
    have f0 := hf 0 (by rw [Nat.pow_zero]; exact Nat.one_pos)
    rw [Nat.pow_zero, Nat.mul_one, Nat.add_zero] at f0
    rw [Nat.pow_zero, Nat.mul_one] at hJ
    have fb : f c = px_dist V lw (FT 1) σ (V 0 0).toNat := f0
    have bb := px_dist_b (V := V) (lw := lw) (F := FT 1) (n := (V 0 0).toNat) W (by omega)
    rw [S54]
    simp (disch := omega) only [KN, h6, px_stt _ _ _ (show j ≤ 4 by omega), GA, GR, GRc, GO, GI, GL, GV, am_w_i, am_ga, am_it, am_if, true_and, and_true, or_true, true_or, ne_eq, not_false_eq_true, not_true_eq_false, false_imp_iff, true_imp_iff, Int.reduceEq, Int.reduceLT, Int.reduceLE, Int.reduceAdd, Int.reduceSub, Int.reduceMul, Int.reduceNeg]
    rw [B54_20]
    simp (disch := omega) only [KC, GA, GR, GRc, GO, GI, GL, GV, am_w_i, am_ga, am_it, am_if, true_and, and_true, or_true, true_or, ne_eq, not_false_eq_true, not_true_eq_false, false_imp_iff, true_imp_iff, Int.reduceEq, Int.reduceLT, Int.reduceLE, Int.reduceAdd, Int.reduceSub, Int.reduceMul, Int.reduceNeg]
    refine s5 C (isS_j (by omega)) R W (n := (V 0 0).toNat) (by omega) (fun L2 l2 => ?_)
    simp (disch := omega) only [KN, GA, GR, GRc, GO, GI, GL, GV, am_w_i, am_ga, am_it, am_if, true_and, and_true, or_true, true_or, ne_eq, not_false_eq_true, not_true_eq_false, false_imp_iff, true_imp_iff, Int.reduceEq, Int.reduceLT, Int.reduceLE, Int.reduceAdd, Int.reduceSub, Int.reduceMul, Int.reduceNeg]
    refine s55 (fun y => ?_) (fun y => ?_)
    · simp (disch := omega) only [GA, GR, GRc, GO, GI, GL, GV, am_w_i, am_ga, am_it, am_if, true_and, and_true, or_true, true_or, ne_eq, not_false_eq_true, not_true_eq_false, false_imp_iff, true_imp_iff, Int.reduceEq, Int.reduceLT, Int.reduceLE, Int.reduceAdd, Int.reduceSub, Int.reduceMul, Int.reduceNeg]
      refine q I L2 ?_ (fun _ _ _ _ _ => rfl) (fun _ _ => rfl) (fun _ _ => rfl) l2
      rw [Nat.pow_zero, Nat.mul_one]
      exact hJ.no (by omega) (by omega)
    · simp (disch := omega) only [GA, GR, GRc, GO, GI, GL, GV, am_w_i, am_ga, am_it, am_if, true_and, and_true, or_true, true_or, ne_eq, not_false_eq_true, not_true_eq_false, false_imp_iff, true_imp_iff, Int.reduceEq, Int.reduceLT, Int.reduceLE, Int.reduceAdd, Int.reduceSub, Int.reduceMul, Int.reduceNeg]
      refine q _ L2 ?_ (fun a h1 h2 h3 _ => ?_) (fun k hk => ?_) (fun i hi => ?_) l2
      · rw [Nat.pow_zero, Nat.mul_one]
        refine hJ.ye (by omega) ?_ (fun i hi => ?_)
        · rw [cz_cp_a _ _ _ _ _ _ (by decide), am_up_s, fb]
        · rw [cz_cp_b _ _ _ _ _ _ (by omega) (by omega), am_up_a _ _ _ _ (by decide)]
          have := hc i (by omega) 0 (by rw [Nat.pow_zero]; exact Nat.one_pos)
          rw [Nat.pow_zero, Nat.mul_one, Nat.add_zero] at this
          rw [← this]; congr 1; omega
      · rw [cz_cp_a _ _ _ _ _ _ h2, am_up_a _ _ _ _ h1]
      · rw [cz_cp_a _ _ _ _ _ _ (by decide), am_up_n _ _ _ _ hk]
      · rw [cz_cp_a _ _ _ _ _ _ (by decide), am_up_a _ _ _ _ (by decide)]
  | r + 1, j, s, d, dd, I, L, σ, c, D, Q, hj, hs, hd, C, R, T, N, W, hD, h5, h6, hf, hc, hJ, q => by
    obtain ⟨d1, hd1⟩ : ∃ d1, d1 = d + r + 6 := ⟨_, rfl⟩
    obtain rfl : dd = d1 + 1 := by omega
    have iS : isS s := by rw [hs]; exact isS_j (by omega)
    have iS4 : isS (s + 4) := by rw [hs]; exact isS_j (j := j + 1) (by omega)
    have st0 : ∀ I L, am_R (mkH w I L) 67 (j : Int) = some s := fun I L => by rw [px_stt _ _ _ (by omega), hs]
    have st1 : ∀ I L, am_R (mkH w I L) 67 ((j : Int) + 1) = some (s + 4) := fun I L => by
      have := px_stt w I L (j := j + 1) (by omega)
      rw [hs]; exact this
    have k6 := hV.1.1
    have k8 := hV.1.2.1
    have k12 := hV.1.2.2
    obtain ⟨hw, hR, -⟩ := id C
    have hle := isW_le hw
    obtain ⟨m, hm⟩ : ∃ m : Nat, V 0 1 = m := ⟨(V 0 1).toNat, by omega⟩
    have hB : px_B V = m + 1 := by unfold px_B; omega
    have hP := px_B_w V r
    have hPB : px_B V ^ (r + 1) = px_B V ^ r * px_B V := Nat.pow_succ _ _
    rw [S54]
    simp (disch := omega) only [KN, KC, h6, st0, GA, GR, GRc, GO, GI, GL, GV, am_w_i, am_ga, am_it, am_if, true_and, and_true, or_true, true_or, ne_eq, not_false_eq_true, not_true_eq_false, false_imp_iff, true_imp_iff, Int.reduceEq, Int.reduceLT, Int.reduceLE, Int.reduceAdd, Int.reduceSub, Int.reduceMul, Int.reduceNeg]
    have key := am_loop (α := (Nat → Int → Int) × (Nat → Int → Int) × Option am_V) (m + 1) (fun e x => am_WP (d1 + 1) 54 39 [some (vR (some 64)), some (vR (some 63)), some (vI (j : Int)), some (vR (some s)), some (vR (some w.2.2.2)), some (vI ((e : Int) - 1)), x.2.2] [] (mkH w x.1 x.2.1) Q) (fun e x => plJ V n f (c * px_B V ^ (r + 1) + e * px_B V ^ r) x.1 ∧ (∀ a, a ≠ 64 → a ≠ 65 → a ≠ 66 → ¬ (s + 4 ≤ a ∧ a ≤ 87) → x.1 a = I a) ∧ (∀ k, k ≠ 1 → x.1 64 k = I 64 k) ∧ (∀ i : Int, i < j → x.1 66 i = I 66 i) ∧ LF L x.2.1) (by
      rintro e ⟨I1, L1, l6⟩ he ⟨v1, v2, v3, v4, v5⟩ ih
      dsimp only at v1 v2 v3 v4 v5 ⊢
      have C1 : CC w I1 V lw (FT 1) := C.fr (fun a ha => v2 a (by omega) (by omega) (by omega) (by omega))
      have R1 : RS I1 s σ := R.fr (fun a h1 h2 => v2 a (by omega) (by omega) (by omega) (by omega))
      have T1 : CT I1 s (V 0 2).toNat := T.fr (v2 (s + 3) (by omega) (by omega) (by omega) (by omega)) (by rw [v2 s (by omega) (by omega) (by omega) (by omega)]; exact ⟨rfl, rfl, rfl⟩)
      have hR1 := C1.2.1
      have g5 : I1 w.2.2.2 5 = m := by rw [hR1.1.2.1]; exact hm
      have t5 : I1 64 5 = t := by rw [v3 5 (by decide)]; exact h5
      have p2 : I1 (s + 2) t = σ 2 t := R1.2.1 t ht.1 ht.2
      have pb := W.2.1 t ht.1 ht.2
      have cf := (cz_copy_at (I := I1) (s := s + 4) (t := s) (by omega)).2.2.2.2
      have Rc : RS (cz_copy I1 (s + 4) s) (s + 4) σ := R1.copy (by omega)
      have Tc : CT (cz_copy I1 (s + 4) s) (s + 4) (V 0 2).toNat := T1.copy (by omega) (by omega)
      have eB : e < px_B V := by omega
      have k144 : ∀ J σ1, RS J (s + 4) σ1 → CT J (s + 4) (V 0 2).toNat → NY V σ1 → WS D σ1 → px_day V lw (FT 1) σ1 = px_dp V lw t e σ → (∀ a, ¬ (s + 4 ≤ a ∧ a ≤ s + 7) → J a = I1 a) → am_WP (d1 + 1) 54 144 [some (vR (some 64)), some (vR (some 63)), some (vI (j : Int)), some (vR (some s)), some (vR (some w.2.2.2)), some (vI ((e : Int) - 1)), some (vR (some (s + 4)))] [] (mkH w J L1) Q := by
        intro J σ1 RJ TJ NJ WJ ed fJ
        have fK : ∀ a, a ≠ 66 → am_up J 66 j ((e : Int) - 1) a = J a := fun a ha => am_up_a _ _ _ _ ha
        have CK : CC w (am_up J 66 j ((e : Int) - 1)) V lw (FT 1) := C1.fr (fun a ha => by rw [fK a (by omega)]; exact fJ a (by omega))
        have RK : RS (am_up J 66 j ((e : Int) - 1)) (s + 4) σ1 := RJ.fr (fun a _ _ => fK a (by omega))
        have TK : CT (am_up J 66 j ((e : Int) - 1)) (s + 4) (V 0 2).toNat := TJ.fr (fK _ (by omega)) (by rw [fK _ (by omega)]; exact ⟨rfl, rfl, rfl⟩)
        rw [B54_144]
        simp (disch := omega) only [KN, GA, GR, GRc, GO, GI, GL, GV, am_w_i, am_ga, am_it, am_if, true_and, and_true, or_true, true_or, ne_eq, not_false_eq_true, not_true_eq_false, false_imp_iff, true_imp_iff, Int.reduceEq, Int.reduceLT, Int.reduceLE, Int.reduceAdd, Int.reduceSub, Int.reduceMul, Int.reduceNeg]
        rw [B54_152]
        subst hd1
        simp (disch := omega) only [KC, GA, GR, GRc, GO, GI, GL, GV, am_w_i, am_ga, am_it, am_if, true_and, and_true, or_true, true_or, ne_eq, not_false_eq_true, not_true_eq_false, false_imp_iff, true_imp_iff, Int.reduceEq, Int.reduceLT, Int.reduceLE, Int.reduceAdd, Int.reduceSub, Int.reduceMul, Int.reduceNeg]
        refine s7 (d := d + r + 1) CK iS4 RK WJ (n := (V 0 2).toNat) (by omega) TK NJ (fun I2 L2 R2 T2 f2 l2 => ?_)
        rw [ed] at R2
        simp (disch := omega) only [KN, GA, GR, GRc, GO, GI, GL, GV, am_w_i, am_ga, am_it, am_if, true_and, and_true, or_true, true_or, ne_eq, not_false_eq_true, not_true_eq_false, false_imp_iff, true_imp_iff, Int.reduceEq, Int.reduceLT, Int.reduceLE, Int.reduceAdd, Int.reduceSub, Int.reduceMul, Int.reduceNeg]
        have WN := W.dp (lw := lw) (e := e) hV ht eB (by omega)
        have fA : ∀ a, a ≠ 66 → ¬ (s + 4 ≤ a ∧ a ≤ s + 7) → I2 a = I1 a := fun a h1 h2 => by rw [f2 a (by omega), fK a h1, fJ a h2]
        have f66 : I2 66 = am_up I1 66 j ((e : Int) - 1) 66 := by
          rw [f2 66 (by omega)]; funext i; unfold am_up; rw [fJ 66 (by omega)]
        have ec : (c * px_B V + e) * px_B V ^ r = c * px_B V ^ (r + 1) + e * px_B V ^ r := by
          rw [Nat.add_mul, hPB, Nat.mul_assoc, Nat.mul_comm (px_B V) (px_B V ^ r)]
        refine s54 (lw := lw) (t := t) (f := f) hV ht hn r (j + 1) (s + 4) d _ I2 L2 (px_dp V lw t e σ) (c * px_B V + e) (D + 1) _ (by omega) (by omega) rfl (C1.fr (fun a ha => fA a (by omega) (by omega))) R2 T2 N.dp WN (by omega) (by rw [fA 64 (by decide) (by omega)]; exact t5) (by rw [fA 64 (by decide) (by omega), v3 6 (by decide)]; exact h6) (fun x hx => ?_) (fun i hi x hx => ?_) ?_ (fun I3 L3 u1 u2 u3 u4 u5 => ?_)
        · rw [ec, Nat.add_assoc, hf _ (by rw [hPB]; exact pl_ar eB hx), px_pd_s hx]
        · rw [ec, Nat.add_assoc, f66]
          by_cases ei : i = j
          · subst ei
            rw [am_up_s, show i = n - (r + 1) by omega, px_dg_e (by omega) hx eB]
          · rw [am_up_n _ _ _ _ (by omega), v4 i (by omega)]
            exact hc i (by omega) _ (by rw [hPB]; exact pl_ar eB hx)
        · rw [ec]
          exact v1.fr (by rw [fA 64 (by decide) (by omega)]) (fA 65 (by decide) (by omega))
        · simp (disch := omega) only [GA, GR, GRc, GO, GI, GL, GV, am_w_i, am_ga, am_it, am_if, true_and, and_true, or_true, true_or, ne_eq, not_false_eq_true, not_true_eq_false, false_imp_iff, true_imp_iff, Int.reduceEq, Int.reduceLT, Int.reduceLE, Int.reduceAdd, Int.reduceSub, Int.reduceMul, Int.reduceNeg]
          rw [B54_166]
          have z := ih (I3, L3, some (vR (some (s + 4)))) ⟨by
            have : (c * px_B V + e + 1) * px_B V ^ r = c * px_B V ^ (r + 1) + (e + 1) * px_B V ^ r := by
              rw [Nat.add_mul (c * px_B V + e), ec, Nat.add_mul e 1, Nat.add_assoc]
            rw [this] at u1; exact u1, fun a h1 h2 h3 h4 => by
            dsimp only; rw [u2 a h1 h2 h3 (by omega), fA a h3 (by omega)]; exact v2 a h1 h2 h3 h4, fun k hk => by
            dsimp only; rw [u3 k hk, fA 64 (by decide) (by omega)]; exact v3 k hk, fun i hi => by
            dsimp only; rw [u4 i (by omega), f66, am_up_n _ _ _ _ (by omega)]; exact v4 i hi, v5.tr (l2.tr u5)⟩
          dsimp only at z
          rw [show ((e + 1 : Nat) : Int) - 1 = (e : Int) by omega] at z
          rw [show (e : Int) - 1 + 1 = e by omega, am_w_i (by omega) (by omega)]
          exact z
      rw [B54_39]
      by_cases e0 : e = 0
      · subst e0
        have z := k144 (cz_copy I1 (s + 4) s) σ Rc Tc N W (by unfold px_dp; rw [if_neg (by omega)]) (fun a ha => cf a (by omega))
        first | (simp (disch := omega) only [HW hw, HS iS, HS iS4, g5, B54_77, KN, st1, s58 iS4 iS (by omega), GA, GR, GRc, GO, GI, GL, GV, am_w_i, am_ga, am_it, am_if, true_and, and_true, or_true, true_or, ne_eq, not_false_eq_true, not_true_eq_false, false_imp_iff, true_imp_iff, Int.reduceEq, Int.reduceLT, Int.reduceLE, Int.reduceAdd, Int.reduceSub, Int.reduceMul, Int.reduceNeg]; exact z) | simp (disch := omega) only [HW hw, HS iS, HS iS4, g5, B54_77, KN, st1, s58 iS4 iS (by omega), z, GA, GR, GRc, GO, GI, GL, GV, am_w_i, am_ga, am_it, am_if, true_and, and_true, or_true, true_or, ne_eq, not_false_eq_true, not_true_eq_false, false_imp_iff, true_imp_iff, Int.reduceEq, Int.reduceLT, Int.reduceLE, Int.reduceAdd, Int.reduceSub, Int.reduceMul, Int.reduceNeg]
      · have e1 : (0 : Int) ≤ (e : Int) - 1 ∧ (e : Int) - 1 < V 0 1 := by omega
        have vi := hR1.2.2.1 _ e1.1 e1.2
        have wi := hV.2.2.1 _ e1.1 e1.2
        by_cases cc : V 8 ((e : Int) - 1) ≤ σ 2 t
        · have fcw : ∀ a, a ≤ 50 → cz_copy I1 (s + 4) s a = I1 a := fun a ha => cf a (by omega)
          have c64 : cz_copy I1 (s + 4) s 64 = I1 64 := cf 64 (by omega)
          have cp : cz_copy I1 (s + 4) s (s + 4 + 2) t = σ 2 t := Rc.2.1 t ht.1 ht.2
          have c8 : cz_copy I1 (s + 4) s (w.2.2.2 + 8) ((e : Int) - 1) = V 8 ((e : Int) - 1) := by rw [fcw _ (by omega)]; exact vi.2.2.2.1
          have c7 : cz_copy I1 (s + 4) s (w.2.2.2 + 7) ((e : Int) - 1) = V 7 ((e : Int) - 1) := by rw [fcw _ (by omega)]; exact vi.2.2.1
          have c6 : cz_copy I1 (s + 4) s (w.2.2.2 + 6) ((e : Int) - 1) = V 6 ((e : Int) - 1) := by rw [fcw _ (by omega)]; exact vi.2.1
          have Ru := Rc.u2 (i := t) (v := σ 2 t - V 8 ((e : Int) - 1))
          have Wu := W.u2 (i := t) (v := σ 2 t - V 8 ((e : Int) - 1)) (by omega)
          have a1 : am_up (cz_copy I1 (s + 4) s) (s + 4 + 2) t (σ 2 t - V 8 ((e : Int) - 1)) (s + 4 + 1) (2 * V 6 ((e : Int) - 1) + t) = σ 1 (2 * V 6 ((e : Int) - 1) + t) := by
            rw [Ru.1 _ (by omega) (by omega), am_up_a _ _ _ _ (by decide)]
          have z := k144 (am_up (am_up (cz_copy I1 (s + 4) s) (s + 4 + 2) t (σ 2 t - V 8 ((e : Int) - 1))) (s + 4 + 1) (2 * V 6 ((e : Int) - 1) + t) (px_cl (σ 1 (2 * V 6 ((e : Int) - 1) + t) + V 7 ((e : Int) - 1)))) (px_add V (am_up σ 2 t (σ 2 t - V 8 ((e : Int) - 1))) t ((e : Int) - 1)) (by
              have := Ru.u1 (i := 2 * V 6 ((e : Int) - 1) + t) (v := px_cl (σ 1 (2 * V 6 ((e : Int) - 1) + t) + V 7 ((e : Int) - 1)))
              unfold px_add; rw [am_up_a σ _ _ _ (show (1 : Nat) ≠ 2 by decide)]; exact this) (Tc.fr (by rw [am_up_a _ _ _ _ (by omega), am_up_a _ _ _ _ (by omega)]) (by rw [am_up_a _ _ _ _ (by omega), am_up_a _ _ _ _ (by omega)]; exact ⟨rfl, rfl, rfl⟩)) N.u2.add Wu.add (by unfold px_dp; rw [if_pos ⟨by omega, cc⟩]) (fun a ha => by rw [am_up_a _ _ _ _ (by omega), am_up_a _ _ _ _ (by omega), cf a (by omega)])
          subst hd1
          first | (simp (disch := omega) only [HW hw, HS iS, HS iS4, g5, t5, p2, vi.2.2.2.1, cc, B54_77, KN, st1, s58 iS4 iS (by omega), c64, cp, c8, B54_119, am_up_a, c6, c7, s61 (s := s + 4) iS4 (k := V 6 ((e : Int) - 1)) (t := t) ⟨wi.1.1, by omega⟩ ht (Ru.bA Wu.1) (v := V 7 ((e : Int) - 1)) ⟨by omega, by omega⟩, a1, GA, GR, GRc, GO, GI, GL, GV, am_w_i, am_ga, am_it, am_if, true_and, and_true, or_true, true_or, ne_eq, not_false_eq_true, not_true_eq_false, false_imp_iff, true_imp_iff, Int.reduceEq, Int.reduceLT, Int.reduceLE, Int.reduceAdd, Int.reduceSub, Int.reduceMul, Int.reduceNeg]; exact z) | simp (disch := omega) only [HW hw, HS iS, HS iS4, g5, t5, p2, vi.2.2.2.1, cc, B54_77, KN, st1, s58 iS4 iS (by omega), c64, cp, c8, B54_119, am_up_a, c6, c7, s61 (s := s + 4) iS4 (k := V 6 ((e : Int) - 1)) (t := t) ⟨wi.1.1, by omega⟩ ht (Ru.bA Wu.1) (v := V 7 ((e : Int) - 1)) ⟨by omega, by omega⟩, a1, z, GA, GR, GRc, GO, GI, GL, GV, am_w_i, am_ga, am_it, am_if, true_and, and_true, or_true, true_or, ne_eq, not_false_eq_true, not_true_eq_false, false_imp_iff, true_imp_iff, Int.reduceEq, Int.reduceLT, Int.reduceLE, Int.reduceAdd, Int.reduceSub, Int.reduceMul, Int.reduceNeg]
        · have z := ih (I1, L1, l6) ⟨by
            have k := v1.sk (k := px_B V ^ r) (by
              have : 1 * 1 ≤ e * px_B V ^ r := Nat.mul_le_mul (by omega) hP
              omega) (fun x hx => ⟨c * px_B V ^ (r + 1) + x, by
                have : 1 * px_B V ^ r ≤ e * px_B V ^ r := Nat.mul_le_mul_right _ (by omega)
                omega, by
                have q0 := pl_ar (P := px_B V ^ r) (B := px_B V) (e := 0) (x := x) (by omega) hx
                rw [Nat.add_assoc, hf _ (by rw [hPB]; exact pl_ar eB hx), px_pd_s hx, px_dp_n cc, ← px_pd_s (e := 0) hx, Nat.zero_mul, Nat.zero_add, hf x (by rw [hPB]; omega)]⟩)
            rw [Nat.add_assoc, ← Nat.succ_mul] at k; exact k, v2, v3, v4, v5⟩
          dsimp only at z
          rw [show ((e + 1 : Nat) : Int) - 1 = (e : Int) by omega] at z
          simp (disch := omega) only [HW hw, HS iS, g5, t5, p2, vi.2.2.2.1, cc, B54_166, KN, GA, GR, GRc, GO, GI, GL, GV, am_w_i, am_ga, am_it, am_if, true_and, and_true, or_true, true_or, ne_eq, not_false_eq_true, not_true_eq_false, false_imp_iff, true_imp_iff, Int.reduceEq, Int.reduceLT, Int.reduceLE, Int.reduceAdd, Int.reduceSub, Int.reduceMul, Int.reduceNeg]
          rw [show (e : Int) - 1 + 1 = e by omega]
          exact z) (by
      rintro ⟨I1, L1, l6⟩ ⟨v1, v2, v3, v4, v5⟩
      dsimp only at v1 v2 v3 v4 v5 ⊢
      have C1 : CC w I1 V lw (FT 1) := C.fr (fun a ha => v2 a (by omega) (by omega) (by omega) (by omega))
      have g5 : I1 w.2.2.2 5 = m := by rw [C1.2.1.1.2.1]; exact hm
      rw [B54_39]
      have z := q I1 L1 (by
        have : (c + 1) * px_B V ^ (r + 1) = c * px_B V ^ (r + 1) + (m + 1) * px_B V ^ r := by rw [Nat.add_mul, Nat.one_mul, hPB, hB, Nat.mul_comm ((m + 1) ^ r) (m + 1)]
        rw [this]; exact v1) v2 v3 v4 v5
      first | (simp (disch := omega) only [HW hw, g5, GA, GR, GRc, GO, GI, GL, GV, am_w_i, am_ga, am_it, am_if, true_and, and_true, or_true, true_or, ne_eq, not_false_eq_true, not_true_eq_false, false_imp_iff, true_imp_iff, Int.reduceEq, Int.reduceLT, Int.reduceLE, Int.reduceAdd, Int.reduceSub, Int.reduceMul, Int.reduceNeg]; exact z) | simp (disch := omega) only [HW hw, g5, z, GA, GR, GRc, GO, GI, GL, GV, am_w_i, am_ga, am_it, am_if, true_and, and_true, or_true, true_or, ne_eq, not_false_eq_true, not_true_eq_false, false_imp_iff, true_imp_iff, Int.reduceEq, Int.reduceLT, Int.reduceLE, Int.reduceAdd, Int.reduceSub, Int.reduceMul, Int.reduceNeg])
    exact key 0 (I, L, none) (Nat.zero_le _) ⟨by rw [Nat.zero_mul, Nat.add_zero]; exact hJ, fun _ _ _ _ _ => rfl, fun _ _ => rfl, fun _ _ => rfl, LF.rf⟩
