/-! c6: the amount in the machine's terms -/
theorem am_amt {w : (Nat × Nat × Nat × Nat)} {I Lg : (Nat → Int → Int)} {k t : Int} (hG : GG w I Lg) : ∃ (x1 x2 v v2 e : Int) (I2 : (Nat → Int → Int)), (x1 = 0 ∨ x1 = 1) ∧ (x2 = 0 ∨ x2 = 1) ∧ (∃ n, am_run n 20 93 0 (am_en 93 [vR (some 0), vI k]) [] (mkH w I Lg) = some (some (vI x1), mkH w I Lg)) ∧ (∃ n, am_run n 20 95 0 (am_en 95 [vI t]) [] (mkH w I Lg) = some (some (vI x2), mkH w I Lg)) ∧ (x1 ≠ 0 → x2 ≠ 0 → ∃ n, am_run n 20 59 0 (am_en 59 [vR (some 51), vI k, vI t]) [] (mkH w I Lg) = some (some (vI v), mkH w I Lg)) ∧ (∃ n, am_run n 20 222 0 (am_en 222 [vR (some 99), vI k, vI t]) [] (mkH w I Lg) = some (some (vI v2), mkH w I2 Lg)) ∧ (∃ n, am_run n 20 151 0 (am_en 151 [vR (some 99)]) [] (mkH w I2 Lg) = some (some (vI e), mkH w I2 Lg)) ∧ GG w I2 Lg ∧ ((e = 0 ∧ x1 ≠ 0 ∧ x2 ≠ 0 ∧ v2 = v) ∨ (e = 1 ∧ x1 = 0) ∨ (e = 2 ∧ x1 ≠ 0 ∧ x2 = 0)) := by
  obtain ⟨V, lw, σ, n, f, g, hg⟩ := hG
  have G := hg.1
  obtain ⟨⟨hw, hR, hL, hV, hM, hN⟩, rS, mS, wS, ny, ct⟩ := id G
  have h6 := hV.1.1
  have mk : ∀ {d j : Nat} {as : List am_V} {h : am_H} {v : am_V} {h' : am_H}, am_Sp d j as h (fun r h2 => r = some v ∧ h2 = h') → ∃ n, am_run n d j 0 (am_en j as) [] h = some (some v, h') := by
    intro d j as h v h' z
    obtain ⟨n, r, h2, e1, rfl, rfl⟩ := z
    exact ⟨n, e1⟩
  have r1 := mk (d := 20) (j := 93) (as := [vR (some 0), vI k]) (h := mkH w I Lg) (v := vI (if 0 ≤ k ∧ k < V 0 0 then 1 else 0)) (h' := mkH w I Lg) ((s93 hw hR _).mpr ⟨rfl, rfl⟩)
  have r2 := mk (d := 20) (j := 95) (as := [vI t]) (h := mkH w I Lg) (v := vI (if t = 0 ∨ t = 1 then 1 else 0)) (h' := mkH w I Lg) ((s95 _).mpr ⟨rfl, rfl⟩)
  have r5 : ∀ I2 : (Nat → Int → Int), ∃ n, am_run n 20 151 0 (am_en 151 [vR (some 99)]) [] (mkH w I2 Lg) = some (some (vI (I2 99 2)), mkH w I2 Lg) := fun I2 => mk ((S151 _ _ _ _).mpr ⟨rfl, rfl, rfl⟩)
  by_cases c1 : 0 ≤ k ∧ k < V 0 0
  · by_cases c2 : t = 0 ∨ t = 1
    · have e3 : I (51 + 1) (2 * k + t) = σ 1 (2 * k + t) := rS.1 _ (by omega) (by omega)
      have e4 : I 127 (2 * k + t) = σ 1 (2 * k + t) := mS.a0 (j := 2 * k + t) (by omega) (by omega)
      have r3 := mk (d := 20) (j := 59) (as := [vR (some 51), vI k, vI t]) (h := mkH w I Lg) (v := vI (σ 1 (2 * k + t))) (h' := mkH w I Lg) ((s59 (s := 51) (Or.inl rfl) ⟨c1.1, by omega⟩ (by omega) _).mpr ⟨by rw [e3], rfl⟩)
      have r4 := mk (d := 20) (j := 222) (as := [vR (some 99), vI k, vI t]) (h := mkH w I Lg) (v := vI (σ 1 (2 * k + t))) (h' := mkH w (am_up I 99 2 0) Lg) (by
        rw [S222]
        simp (disch := omega) only [Kk, B222_5, s199 hM.t, s201, c1, c2, if_true, Ks, am_up_a, e4, B222_46, GA, GR, GRc, GO, GI, GL, GV, am_w_i, am_ga, am_it, am_if, true_and, and_true, or_true, true_or, ne_eq, not_false_eq_true, not_true_eq_false, false_imp_iff, true_imp_iff, Int.reduceEq, Int.reduceLT, Int.reduceLE, Int.reduceAdd, Int.reduceSub, Int.reduceMul, Int.reduceNeg])
      refine ⟨1, 1, σ 1 (2 * k + t), σ 1 (2 * k + t), 0, am_up I 99 2 0, Or.inr rfl, Or.inr rfl, ?_, ?_, fun _ _ => r3, r4, ?_, ⟨V, lw, σ, n, f, g, hg.q QR.t⟩, Or.inl ⟨rfl, by decide, by decide, rfl⟩⟩
      · rw [if_pos c1] at r1; exact r1
      · rw [if_pos c2] at r2; exact r2
      · have := r5 (am_up I 99 2 0); rw [am_up_s] at this; exact this
    · have r4 := mk (d := 20) (j := 222) (as := [vR (some 99), vI k, vI t]) (h := mkH w I Lg) (v := vI 0) (h' := mkH w (am_up (am_up I 99 2 0) 99 2 2) Lg) (by
        rw [S222]
        simp (disch := omega) only [Kk, B222_5, s199 hM.t, s201, c1, c2, if_true, if_false, S221, B221_5, B222_46, GA, GR, GRc, GO, GI, GL, GV, am_w_i, am_ga, am_it, am_if, true_and, and_true, or_true, true_or, ne_eq, not_false_eq_true, not_true_eq_false, false_imp_iff, true_imp_iff, Int.reduceEq, Int.reduceLT, Int.reduceLE, Int.reduceAdd, Int.reduceSub, Int.reduceMul, Int.reduceNeg])
      refine ⟨1, 0, 0, 0, 2, am_up (am_up I 99 2 0) 99 2 2, Or.inr rfl, Or.inl rfl, ?_, ?_, fun _ y => absurd rfl y, r4, ?_, ⟨V, lw, σ, n, f, g, (hg.q QR.t).q QR.t⟩, Or.inr (Or.inr ⟨rfl, by decide, rfl⟩)⟩
      · rw [if_pos c1] at r1; exact r1
      · rw [if_neg c2] at r2; exact r2
      · have := r5 (am_up (am_up I 99 2 0) 99 2 2); rw [am_up_s] at this; exact this
  · have r4 := mk (d := 20) (j := 222) (as := [vR (some 99), vI k, vI t]) (h := mkH w I Lg) (v := vI 0) (h' := mkH w (am_up (am_up I 99 2 0) 99 2 1) Lg) (by
      rw [S222]
      simp (disch := omega) only [Kk, B222_5, s199 hM.t, s201, c1, if_false, S221, B221_5, B222_46, GA, GR, GRc, GO, GI, GL, GV, am_w_i, am_ga, am_it, am_if, true_and, and_true, or_true, true_or, ne_eq, not_false_eq_true, not_true_eq_false, false_imp_iff, true_imp_iff, Int.reduceEq, Int.reduceLT, Int.reduceLE, Int.reduceAdd, Int.reduceSub, Int.reduceMul, Int.reduceNeg])
    refine ⟨0, if t = 0 ∨ t = 1 then 1 else 0, 0, 0, 1, am_up (am_up I 99 2 0) 99 2 1, Or.inl rfl, ?_, ?_, r2, fun y _ => absurd rfl y, r4, ?_, ⟨V, lw, σ, n, f, g, (hg.q QR.t).q QR.t⟩, Or.inr (Or.inl ⟨rfl, rfl⟩)⟩
    · split; exact Or.inr rfl; exact Or.inl rfl
    · rw [if_neg c1] at r1; exact r1
    · have := r5 (am_up (am_up I 99 2 0) 99 2 1); rw [am_up_s] at this; exact this
