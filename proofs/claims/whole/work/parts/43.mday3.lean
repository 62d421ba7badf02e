/-! 43: the reference: how far apart, level, luck, doings, healing -/
theorem MFr.or {b : Int} {I I' : (Nat → Int → Int)} (h : I' = I ∨ ∃ v, I' = am_up I 99 53 v) : MFr b I I' := by
  rcases h with rfl | ⟨v, rfl⟩
  · exact MFr.rf
  · exact MFr.e
theorem MS.or {I I' L : (Nat → Int → Int)} {b : Int} {σ : (Nat → Int → Int)} (h : MS I L b σ) (e : I' = I ∨ ∃ v, I' = am_up I 99 53 v) : MS I' L b σ := by
  rcases e with rfl | ⟨v, rfl⟩
  · exact h
  · exact h.e
theorem s210 {d : Nat} {w : Nat × Nat × Nat × Nat} {I L : Nat → Int → Int} {V σ : (Nat → Int → Int)} {lw : Int → (Int → Int) → Int} {F : Int → Int} {b D : Int} {n : Nat} (C : MC I V lw F) (hb : b = 0 ∨ b = 1) (hR : MS I L b σ) (hW : WS D σ) (hn : V 0 0 = n) {Q : Option am_V → am_H → Prop} (q : ∀ I' L', MS I' L' b σ → MFr b I I' → (∀ a, a ≠ 99 → I' a = I a) → LN L L' → Q (some (vI (px_dist V lw F σ n))) (mkH w I' L')) : am_Sp (d + 5) 210 [vR (some 99), vI b] (mkH w I L) Q := by
  have hV := C.2.2.1
  have h6 := hV.1.1.2
  have hbd : ∀ i : Nat, i ≤ n → 0 ≤ px_dist V lw F σ i ∧ px_dist V lw F σ i ≤ i * 9999 := by
    intro i
    induction i with
    | zero => intro _; exact ⟨by simp [px_dist, px_sum], by simp [px_dist, px_sum]⟩
    | succ i ih =>
      intro hi
      have a := ih (by omega)
      have b := px_gap_b (k := i) hW.1 (by omega) (by omega)
      have c := px_lim_b (v := lw 0 (px_nm V F σ i 0)) (most := 9999) (wo := px_gap σ i) (by omega) (by omega)
      have e : px_dist V lw F σ (i + 1) = px_dist V lw F σ i + px_lim (lw 0 (px_nm V F σ i 0)) 9999 (px_gap σ i) := rfl
      rw [e]; omega
  rw [S210]
  refine am_loop (α := (Nat → Int → Int) × (Nat → Int → Int)) n (fun i x => am_WP (d + 5) 210 4 [some (vR (some 99)), some (vI b), some (vI (px_dist V lw F σ i)), some (vI (i : Int))] [] (mkH w x.1 x.2) Q) (fun i x => MS x.1 x.2 b σ ∧ MFr b I x.1 ∧ (∀ a, a ≠ 99 → x.1 a = I a) ∧ LN L x.2) ?_ ?_ 0 (I, L) (Nat.zero_le _) ⟨hR, MFr.rf, fun _ _ => rfl, fun _ _ _ => rfl⟩
  · intro i ⟨Ia, La⟩ hi ⟨Ra, Fa, Ga, Lna⟩ ih
    dsimp only at Ra Fa Ga Lna ⊢
    have Ca := C.fr Fa
    have b1 := hbd i (by omega)
    have b2 := hbd (i + 1) (by omega)
    have e : px_dist V lw F σ (i + 1) = px_dist V lw F σ i + px_lim (lw 0 (px_nm V F σ i 0)) 9999 (px_gap σ i) := rfl
    rw [B210_4]
    simp (disch := omega) only [Kk, Ca.1.1.1, hn, GA, GR, GRc, GO, GI, GL, GV, am_w_i, am_ga, am_it, am_if, true_and, and_true, or_true, true_or, ne_eq, not_false_eq_true, not_true_eq_false, false_imp_iff, true_imp_iff, Int.reduceEq, Int.reduceLT, Int.reduceLE, Int.reduceAdd, Int.reduceSub, Int.reduceMul, Int.reduceNeg]
    refine s207 Ca hb Ra hW (by omega) (by omega) ⟨by omega, by omega⟩ (fun Lb lb nb => ?_)
    have Rb := Ra.ln lb
    simp (disch := omega) only [Kk, s205 hb (k := (i : Int)) ⟨by omega, by omega⟩ Rb hW, GA, GR, GRc, GO, GI, GL, GV, am_w_i, am_ga, am_it, am_if, true_and, and_true, or_true, true_or, ne_eq, not_false_eq_true, not_true_eq_false, false_imp_iff, true_imp_iff, Int.reduceEq, Int.reduceLT, Int.reduceLE, Int.reduceAdd, Int.reduceSub, Int.reduceMul, Int.reduceNeg]
    refine s209 Ca ⟨by omega, by omega⟩ nb (px_nm_b hV C.2.2.2.2 hW (by omega) (by omega) ⟨by omega, by omega⟩) ⟨by omega, by omega⟩ (fun Ic Lc ic lc => ?_)
    simp (disch := omega) only [GA, GR, GRc, GO, GI, GL, GV, am_w_i, am_ga, am_it, am_if, true_and, and_true, or_true, true_or, ne_eq, not_false_eq_true, not_true_eq_false, false_imp_iff, true_imp_iff, Int.reduceEq, Int.reduceLT, Int.reduceLE, Int.reduceAdd, Int.reduceSub, Int.reduceMul, Int.reduceNeg]
    rw [← e]
    refine ih (Ic, Lc) ⟨(Rb.ln lc).or ic, Fa.tr (MFr.or ic), fun a ha => ?_, (Lna.tr lb).tr lc⟩
    show Ic a = I a
    rcases ic with rfl | ⟨v, rfl⟩
    · exact Ga a ha
    · rw [am_up_a _ _ _ _ ha]; exact Ga a ha
  · intro ⟨Ia, La⟩ ⟨Ra, Fa, Ga, Lna⟩
    dsimp only at Ra Fa Ga Lna ⊢
    have Ca := C.fr Fa
    rw [B210_4]
    simp (disch := omega) only [Kk, Ca.1.1.1, hn, GA, GR, GRc, GO, GI, GL, GV, am_w_i, am_ga, am_it, am_if, true_and, and_true, or_true, true_or, ne_eq, not_false_eq_true, not_true_eq_false, false_imp_iff, true_imp_iff, Int.reduceEq, Int.reduceLT, Int.reduceLE, Int.reduceAdd, Int.reduceSub, Int.reduceMul, Int.reduceNeg]
    exact q Ia La Ra Fa Ga Lna
theorem s211 {d : Nat} {w : Nat × Nat × Nat × Nat} {I L : Nat → Int → Int} {V σ : (Nat → Int → Int)} {lw : Int → (Int → Int) → Int} {F : Int → Int} {b D : Int} (C : MC I V lw F) (hb : b = 0 ∨ b = 1) (hR : MS I L b σ) (hW : WS D σ) (Q : Option am_V → am_H → Prop) : am_Sp (d + 2) 211 [vR (some 99), vI b] (mkH w I L) Q ↔ Q (some (vI (px_lv V σ))) (mkH w I L) := by
  have hV := C.2.2.1
  have h6 := hV.1.1
  obtain ⟨n, hn⟩ : ∃ n : Nat, V 0 0 = n := ⟨(V 0 0).toNat, by omega⟩
  have hn2 : (V 0 0).toNat = n := by omega
  refine am_det ?_ Q
  rw [S211]
  refine am_loop (α := Unit) n (fun i _ => am_WP (d + 2) 211 2 [some (vR (some 99)), some (vI b), some (vI (i : Int))] [] (mkH w I L) _) (fun i _ => ∀ k : Nat, k < i → σ 1 (2 * (k : Int)) = σ 1 (2 * (k : Int) + 1)) ?_ ?_ 0 () (Nat.zero_le _) (fun k hk => absurd hk (Nat.not_lt_zero _))
  · intro i _ hi hI ih
    rw [B211_2]
    simp (disch := omega) only [Kk, C.1.1.1, hn, s205 hb (k := (i : Int)) ⟨by omega, by omega⟩ hR hW, GA, GR, GRc, GO, GI, GL, GV, am_w_i, am_ga, am_it, am_if, true_and, and_true, or_true, true_or, ne_eq, not_false_eq_true, not_true_eq_false, false_imp_iff, true_imp_iff, Int.reduceEq, Int.reduceLT, Int.reduceLE, Int.reduceAdd, Int.reduceSub, Int.reduceMul, Int.reduceNeg]
    refine ⟨fun e => ?_, fun e => ?_⟩
    · exact ih () (fun k hk => by
        rcases Nat.lt_succ_iff_lt_or_eq.mp hk with q | q
        · exact hI k q
        · subst q; unfold px_gap iabs at e; split at e <;> omega)
    · have : ¬ px_isl V σ := by
        unfold px_isl; rw [hn2]
        intro q
        have := q i hi
        apply e; unfold px_gap iabs; split <;> omega
      unfold px_lv; rw [if_neg this]
  · intro _ hI
    rw [B211_2]
    simp (disch := omega) only [Kk, C.1.1.1, hn, GA, GR, GRc, GO, GI, GL, GV, am_w_i, am_ga, am_it, am_if, true_and, and_true, or_true, true_or, ne_eq, not_false_eq_true, not_true_eq_false, false_imp_iff, true_imp_iff, Int.reduceEq, Int.reduceLT, Int.reduceLE, Int.reduceAdd, Int.reduceSub, Int.reduceMul, Int.reduceNeg]
    have : px_isl V σ := by unfold px_isl; rw [hn2]; exact hI
    unfold px_lv; rw [if_pos this]
theorem am_andl31 {x : Int} (h0 : 0 ≤ x) (h1 : x < 9223372036854775808) : am_andl x 2147483647 = x % 2147483648 := by
  unfold am_andl
  have e : (Int64.ofInt x &&& Int64.ofInt 2147483647).toInt = (Int64.ofInt x &&& Int64.ofInt 2147483647).toBitVec.toInt := rfl
  rw [e]
  have h2 : (Int64.ofInt x &&& Int64.ofInt 2147483647).toBitVec = BitVec.ofInt 64 x &&& 2147483647#64 := rfl
  rw [h2]
  have h3 : (BitVec.ofInt 64 x &&& 2147483647#64).toNat = (x % 2147483648).toNat := by
    rw [BitVec.toNat_and, BitVec.toNat_ofInt, show (2147483647#64).toNat = 2 ^ 31 - 1 from rfl, Nat.and_two_pow_sub_one_eq_mod]
    omega
  rw [BitVec.toInt_eq_toNat_cond, h3]
  split <;> omega
theorem s212 {d : Nat} {w : Nat × Nat × Nat × Nat} {I L : Nat → Int → Int} {x : Int} (hx : L 99 59 = x) (h0 : 0 ≤ x ∧ x ≤ 2147483647) (Q : Option am_V → am_H → Prop) : am_Sp d 212 [vR (some 99), vI 100] (mkH w I L) Q ↔ Q (some (vI (px_num x / 65536 % 100))) (mkH w I (am_up L 99 59 (px_num x))) := by
  have e1 : am_wl (x * 1103515245) = x * 1103515245 := am_wl_i (by omega) (by omega)
  have e2 : am_wl (x * 1103515245 + 12345) = x * 1103515245 + 12345 := am_wl_i (by omega) (by omega)
  have e3 : am_andl (x * 1103515245 + 12345) 2147483647 = px_num x := am_andl31 (by omega) (by omega)
  have hb := px_num_b x
  have e4 : (px_num x).tdiv 65536 = px_num x / 65536 := Int.tdiv_eq_ediv_of_nonneg hb.1
  have hq : 0 ≤ px_num x / 65536 ∧ px_num x / 65536 ≤ px_num x := ⟨Int.ediv_nonneg hb.1 (by omega), Int.ediv_le_self _ hb.1⟩
  have e5 : (px_num x / 65536).tmod 100 = px_num x / 65536 % 100 := tmod_nn hq.1
  simp (disch := omega) only [S212, B212_20, Kk, hx, e1, e2, e3, am_up_s, e4, am_wl_i, e5, GA, GR, GRc, GO, GI, GL, GV, am_w_i, am_ga, am_it, am_if, true_and, and_true, or_true, true_or, ne_eq, not_false_eq_true, not_true_eq_false, false_imp_iff, true_imp_iff, Int.reduceEq, Int.reduceLT, Int.reduceLE, Int.reduceAdd, Int.reduceSub, Int.reduceMul, Int.reduceNeg]
theorem s213 {d : Nat} {w : Nat × Nat × Nat × Nat} {I L : Nat → Int → Int} {V σ : (Nat → Int → Int)} {lw : Int → (Int → Int) → Int} {F : Int → Int} {b odds D : Int} (C : MC I V lw F) (hR : MS I L b σ) (hW : WS D σ) (ho : 0 ≤ odds ∧ odds ≤ 100) {Q : Option am_V → am_H → Prop} (q : ∀ L', MS I L' b (am_up σ 0 8 (px_lk F (σ 0 8) odds).2) → LM L L' → Q (some (vI (if (px_lk F (σ 0 8) odds).1 = true then 1 else 0))) (mkH w I L')) : am_Sp (d + 1) 213 [vR (some 99), vI odds] (mkH w I L) Q := by
  obtain ⟨-, -, -, hF, -⟩ := C
  have sm : MS I L b (am_up σ 0 8 (σ 0 8)) := by rw [am_up_id]; exact hR
  have hx := hW.2.2.2.2.1
  have h8 : L 99 59 = σ 0 8 := hR.2.2.2.2.2
  unfold px_lk at q
  rw [S213]
  rcases hF.2.2.2.2 with ⟨f7, f62, f60⟩ | ⟨f7, f62, f60⟩ | ⟨f7, f62, f60⟩
  · rw [if_pos f7] at q
    simp (disch := omega) only [Kk, f62, f60, B213_13, B213_57, s212 h8 hx, GA, GR, GRc, GO, GI, GL, GV, am_w_i, am_ga, am_it, am_if, true_and, and_true, or_true, true_or, ne_eq, not_false_eq_true, not_true_eq_false, false_imp_iff, true_imp_iff, Int.reduceEq, Int.reduceLT, Int.reduceLE, Int.reduceAdd, Int.reduceSub, Int.reduceMul, Int.reduceNeg]
    by_cases c1 : odds = 100
    · rw [if_pos c1] at q
      have := q L sm LM.rf
      simpa [c1] using this
    · rw [if_neg c1] at q
      by_cases c2 : odds = 0
      · rw [if_pos (by omega)] at q
        have := q L sm LM.rf
        simpa [c1, c2] using this
      · rw [if_neg (by omega)] at q
        have := q (am_up L 99 59 (px_num (σ 0 8))) hR.u8 ⟨fun a x _ _ => am_up_a _ _ _ _ x, fun j x => am_up_n _ _ _ _ x⟩
        by_cases c3 : px_num (σ 0 8) / 65536 % 100 < odds
        · have c4 : ¬ odds ≤ px_num (σ 0 8) / 65536 % 100 := by omega
          simpa [c1, c2, c3, c4] using this
        · have c4 : odds ≤ px_num (σ 0 8) / 65536 % 100 := by omega
          simpa [c1, c2, c3, c4] using this
  · rw [if_neg (by omega)] at q
    have := q L sm LM.rf
    simp (disch := omega) only [Kk, f62, f60, B213_13, B213_57, GA, GR, GRc, GO, GI, GL, GV, am_w_i, am_ga, am_it, am_if, true_and, and_true, or_true, true_or, ne_eq, not_false_eq_true, not_true_eq_false, false_imp_iff, true_imp_iff, Int.reduceEq, Int.reduceLT, Int.reduceLE, Int.reduceAdd, Int.reduceSub, Int.reduceMul, Int.reduceNeg]
    by_cases c1 : odds = 100
    · simpa [c1, f7] using this
    · by_cases c2 : odds = 0
      · simpa [c1, c2, f7] using this
      · by_cases c3 : 50 ≤ odds
        · have c4 : ¬ odds < 50 := by omega
          simpa [c1, c2, c3, c4, f7] using this
        · have c4 : odds < 50 := by omega
          simpa [c1, c2, c3, c4, f7] using this
  · rw [if_neg (by omega)] at q
    have := q L sm LM.rf
    simp (disch := omega) only [Kk, f62, f60, B213_13, B213_57, GA, GR, GRc, GO, GI, GL, GV, am_w_i, am_ga, am_it, am_if, true_and, and_true, or_true, true_or, ne_eq, not_false_eq_true, not_true_eq_false, false_imp_iff, true_imp_iff, Int.reduceEq, Int.reduceLT, Int.reduceLE, Int.reduceAdd, Int.reduceSub, Int.reduceMul, Int.reduceNeg]
    simpa [f7] using this
theorem s214 {d : Nat} {w : Nat × Nat × Nat × Nat} {I L : Nat → Int → Int} {V σ : (Nat → Int → Int)} {lw : Int → (Int → Int) → Int} {F : Int → Int} {b D t e : Int} (C : MC I V lw F) (hb : b = 0 ∨ b = 1) (hR : MS I L b σ) (hW : WS D σ) (ht : 0 ≤ t ∧ t < 2) (h0 : 0 ≤ e) (h1 : e < V 0 1) {Q : Option am_V → am_H → Prop} (q : ∀ I', MS I' L b (px_add V σ t e) → MFr b I I' → Q none (mkH w I' L)) : am_Sp (d + 1) 214 [vR (some 99), vI b, vI t, vI e] (mkH w I L) Q := by
  obtain ⟨hM, -, hV, -, -⟩ := C
  have h6 := hV.1.1.2
  have h8 := hV.1.2.1.2
  have v := hM.2.2.1 e h0 h1
  have wv := hV.2.2.1 e h0 h1
  have r := hR.1 (2 * V 6 e + t) (by omega) (by omega)
  have bA := hW.1 (2 * V 6 e + t) (by omega) (by omega)
  have ea : 12 * b + 2 * V 6 e + t = 12 * b + (2 * V 6 e + t) := by omega
  rw [S214]
  simp (disch := omega) only [Kk, Kw, Ks, v.2.1, v.2.2.1, ea, r, s203 (a := -999) (b := 999), GA, GR, GRc, GO, GI, GL, GV, am_w_i, am_ga, am_it, am_if, true_and, and_true, or_true, true_or, ne_eq, not_false_eq_true, not_true_eq_false, false_imp_iff, true_imp_iff, Int.reduceEq, Int.reduceLT, Int.reduceLE, Int.reduceAdd, Int.reduceSub, Int.reduceMul, Int.reduceNeg]
  exact q _ hR.u1 (MFr.u1 (by omega))
