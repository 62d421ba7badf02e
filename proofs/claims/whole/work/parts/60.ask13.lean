/-! 60: busiest -/
def px_on (V σ : (Nat → Int → Int)) (e : Int) : Nat → Int
  | 0 => 0
  | m + 1 => px_on V σ e m + if σ 3 m = 0 ∧ V 12 m = e then 1 else 0
theorem px_on_b (V σ : (Nat → Int → Int)) (e : Int) : ∀ n : Nat, 0 ≤ px_on V σ e n ∧ px_on V σ e n ≤ n
  | 0 => by simp [px_on]
  | n + 1 => by have := px_on_b V σ e n; rw [px_on]; split <;> omega
theorem px_on_p {V σ : (Nat → Int → Int)} {e : Int} : ∀ {n : Nat}, 0 < px_on V σ e n → ∃ i : Nat, i < n ∧ σ 3 i = 0 ∧ V 12 i = e
  | 0, h => by simp [px_on] at h
  | n + 1, h => by
    rw [px_on] at h
    by_cases c : σ 3 n = 0 ∧ V 12 n = e
    · exact ⟨n, Nat.lt_succ_self n, c.1, c.2⟩
    · rw [if_neg c] at h
      obtain ⟨i, a, b⟩ := px_on_p (V := V) (σ := σ) (e := e) (n := n) (by omega)
      exact ⟨i, Nat.lt_succ_of_lt a, b⟩
def bzR (f : Int → Int) (D : Int → Prop) (x : Int × Int) : Prop := (x.2 = 0 ∧ x.1 = -2 ∧ ∀ e, D e → f e = 0) ∨ (0 < x.2 ∧ f x.1 = x.2 ∧ ∀ e, D e → f e ≤ x.2 ∧ (f e = x.2 → x.1 ≤ e))
theorem bzR_uniq {f : Int → Int} {D D' : Int → Prop} {x y : Int × Int} (hD : ∀ e, 0 < f e → D e) (hD' : ∀ e, 0 < f e → D' e) (h : bzR f D x) (h' : bzR f D' y) (hf : ∀ e, 0 ≤ f e) : x.1 = y.1 := by
  rcases h with ⟨a, b, c⟩ | ⟨a, b, c⟩ <;> rcases h' with ⟨a', b', c'⟩ | ⟨a', b', c'⟩
  · rw [b, b']
  · have := c y.1 (hD _ (by omega)); omega
  · have := c' x.1 (hD' _ (by omega)); omega
  · have h1 := c y.1 (hD _ (by omega))
    have h2 := c' x.1 (hD' _ (by omega))
    have h3 := h1.2
    have h4 := h2.2
    omega
def px_bz (V σ : (Nat → Int → Int)) (n : Nat) : Nat → Int × Int
  | 0 => (-2, 0)
  | m + 1 => if (px_bz V σ n m).2 < px_on V σ (V 12 m) n ∨ (0 < px_on V σ (V 12 m) n ∧ px_on V σ (V 12 m) n = (px_bz V σ n m).2 ∧ V 12 m < (px_bz V σ n m).1) then (V 12 m, px_on V σ (V 12 m) n) else px_bz V σ n m
theorem px_bz_R {V σ : (Nat → Int → Int)} {n : Nat} : ∀ m, bzR (fun e => px_on V σ e n) (fun e => ∃ i : Nat, i < m ∧ V 12 i = e) (px_bz V σ n m)
  | 0 => Or.inl ⟨rfl, rfl, fun e h => by obtain ⟨i, a, _⟩ := h; omega⟩
  | m + 1 => by
    have ih := px_bz_R (V := V) (σ := σ) (n := n) m
    have pb := px_on_b V σ (V 12 m) n
    rw [px_bz]
    generalize px_bz V σ n m = x at ih ⊢
    obtain ⟨f, c⟩ := x
    unfold bzR at ih ⊢
    dsimp only at ih ⊢
    split
    · rename_i h
      right
      dsimp only
      refine ⟨by omega, rfl, ?_⟩
      rintro e ⟨i, hi, rfl⟩
      by_cases e1 : i = m
      · subst e1; exact ⟨Int.le_refl _, fun _ => Int.le_refl _⟩
      · rcases ih with ⟨a, b, k⟩ | ⟨a, b, k⟩
        · have := k (V 12 i) ⟨i, by omega, rfl⟩; omega
        · have := k (V 12 i) ⟨i, by omega, rfl⟩; omega
    · rename_i h
      rcases ih with ⟨a, b, k⟩ | ⟨a, b, k⟩
      · left
        refine ⟨a, b, ?_⟩
        rintro e ⟨i, hi, rfl⟩
        by_cases e1 : i = m
        · subst e1; omega
        · exact k (V 12 i) ⟨i, by omega, rfl⟩
      · right
        refine ⟨a, b, ?_⟩
        rintro e ⟨i, hi, rfl⟩
        by_cases e1 : i = m
        · subst e1; omega
        · exact k (V 12 i) ⟨i, by omega, rfl⟩
def px_bm (V σ : (Nat → Int → Int)) (n : Nat) : Nat → Int × Int
  | 0 => (-2, 0)
  | m + 1 => if px_on V σ (σ 0 3 + m) n ≤ (px_bm V σ n m).2 then px_bm V σ n m else (σ 0 3 + m, px_on V σ (σ 0 3 + m) n)
theorem px_bm_R {V σ : (Nat → Int → Int)} {n : Nat} : ∀ m : Nat, bzR (fun e => px_on V σ e n) (fun e => σ 0 3 ≤ e ∧ e < σ 0 3 + m) (px_bm V σ n m) ∧ 0 ≤ (px_bm V σ n m).2 ∧ (px_bm V σ n m).2 ≤ n ∧ (0 < (px_bm V σ n m).2 → (px_bm V σ n m).1 < σ 0 3 + m)
  | 0 => ⟨Or.inl ⟨rfl, rfl, fun e h => by omega⟩, by simp [px_bm], by simp [px_bm], by simp [px_bm]⟩
  | m + 1 => by
    obtain ⟨ih, ib⟩ := px_bm_R (V := V) (σ := σ) (n := n) m
    have pb := px_on_b V σ (σ 0 3 + m) n
    rw [px_bm]
    generalize px_bm V σ n m = x at ih ib ⊢
    obtain ⟨f, c⟩ := x
    unfold bzR at ih ⊢
    dsimp only at ih ib ⊢
    split
    · rename_i h
      refine ⟨?_, by omega, by omega, fun y => by have := ib.2.2 y; omega⟩
      rcases ih with ⟨a, b, k⟩ | ⟨a, b, k⟩
      · left
        refine ⟨a, b, fun e he => ?_⟩
        by_cases e1 : e = σ 0 3 + m
        · subst e1; omega
        · exact k e (by omega)
      · right
        refine ⟨a, b, fun e he => ?_⟩
        by_cases e1 : e = σ 0 3 + m
        · subst e1
          exact ⟨h, fun e2 => by have := ib.2.2 a; omega⟩
        · exact k e (by omega)
    · rename_i h
      refine ⟨Or.inr ?_, ?_⟩
      · dsimp only
        refine ⟨by omega, rfl, fun e he => ?_⟩
        by_cases e1 : e = σ 0 3 + m
        · subst e1; exact ⟨Int.le_refl _, fun _ => Int.le_refl _⟩
        · rcases ih with ⟨a, b, k⟩ | ⟨a, b, k⟩
          · have := k e (by omega); omega
          · have := k e (by omega); omega
      · dsimp only; omega
theorem s136 {d : Nat} {w : Nat × Nat × Nat × Nat} {I L : Nat → Int → Int} {V σ : (Nat → Int → Int)} {lw : (Int → (Int → Int) → Int)} {e : Int} (G : GC V lw σ w I L) (Q : Option am_V → am_H → Prop) : am_Sp d 136 [vR (some 0), vI e] (mkH w I L) Q ↔ Q (some (vI (px_on V σ e (V 0 2).toNat))) (mkH w I L) := by
  obtain ⟨⟨hw, hR, hL, hV, hM, hN⟩, rS, mS, wS, ny, ct⟩ := id G
  have h12 := hV.1.2.2
  obtain ⟨n, hn⟩ : ∃ n : Nat, V 0 2 = n := ⟨(V 0 2).toNat, by omega⟩
  have hn2 : (V 0 2).toNat = n := by omega
  rw [hn2]
  refine am_det ?_ Q
  rw [S136]
  refine am_loop (α := Unit) n (fun i _ => am_WP d 136 4 [some (vR (some 0)), some (vI e), some (vI (px_on V σ e i)), some (vI (i : Int))] [] (mkH w I L) _) (fun i _ => True) ?_ ?_ 0 () (Nat.zero_le _) trivial
  · intro i _ hi _ ih
    have z := ih () trivial
    have b := px_on_b V σ e i
    rw [px_on] at z
    rw [B136_4]
    simp (disch := omega) only [KX, HW hw, HS (show isS 51 from Or.inl rfl), hR.1.2.2, hn, rS.2.2.1 i (by omega) (by omega), (hR.2.2.2.1 i (by omega) (by omega)).2.2, B136_43, GA, GR, GRc, GO, GI, GL, GV, am_w_i, am_ga, am_it, am_if, true_and, and_true, or_true, true_or, ne_eq, not_false_eq_true, not_true_eq_false, false_imp_iff, true_imp_iff, Int.reduceEq, Int.reduceLT, Int.reduceLE, Int.reduceAdd, Int.reduceSub, Int.reduceMul, Int.reduceNeg]
    by_cases c1 : σ 3 i = 0
    · by_cases c2 : V 12 i = e
      · rw [if_pos ⟨c1, c2⟩] at z; first | (simp (disch := omega) only [c1, c2, GA, GR, GRc, GO, GI, GL, GV, am_w_i, am_ga, am_it, am_if, true_and, and_true, or_true, true_or, ne_eq, not_false_eq_true, not_true_eq_false, false_imp_iff, true_imp_iff, Int.reduceEq, Int.reduceLT, Int.reduceLE, Int.reduceAdd, Int.reduceSub, Int.reduceMul, Int.reduceNeg]; exact z) | simp (disch := omega) only [c1, c2, z, GA, GR, GRc, GO, GI, GL, GV, am_w_i, am_ga, am_it, am_if, true_and, and_true, or_true, true_or, ne_eq, not_false_eq_true, not_true_eq_false, false_imp_iff, true_imp_iff, Int.reduceEq, Int.reduceLT, Int.reduceLE, Int.reduceAdd, Int.reduceSub, Int.reduceMul, Int.reduceNeg]
      · rw [if_neg (fun y => c2 y.2), Int.add_zero] at z; first | (simp (disch := omega) only [c1, c2, GA, GR, GRc, GO, GI, GL, GV, am_w_i, am_ga, am_it, am_if, true_and, and_true, or_true, true_or, ne_eq, not_false_eq_true, not_true_eq_false, false_imp_iff, true_imp_iff, Int.reduceEq, Int.reduceLT, Int.reduceLE, Int.reduceAdd, Int.reduceSub, Int.reduceMul, Int.reduceNeg]; exact z) | simp (disch := omega) only [c1, c2, z, GA, GR, GRc, GO, GI, GL, GV, am_w_i, am_ga, am_it, am_if, true_and, and_true, or_true, true_or, ne_eq, not_false_eq_true, not_true_eq_false, false_imp_iff, true_imp_iff, Int.reduceEq, Int.reduceLT, Int.reduceLE, Int.reduceAdd, Int.reduceSub, Int.reduceMul, Int.reduceNeg]
    · rw [if_neg (fun y => c1 y.1), Int.add_zero] at z; first | (simp (disch := omega) only [c1, GA, GR, GRc, GO, GI, GL, GV, am_w_i, am_ga, am_it, am_if, true_and, and_true, or_true, true_or, ne_eq, not_false_eq_true, not_true_eq_false, false_imp_iff, true_imp_iff, Int.reduceEq, Int.reduceLT, Int.reduceLE, Int.reduceAdd, Int.reduceSub, Int.reduceMul, Int.reduceNeg]; exact z) | simp (disch := omega) only [c1, z, GA, GR, GRc, GO, GI, GL, GV, am_w_i, am_ga, am_it, am_if, true_and, and_true, or_true, true_or, ne_eq, not_false_eq_true, not_true_eq_false, false_imp_iff, true_imp_iff, Int.reduceEq, Int.reduceLT, Int.reduceLE, Int.reduceAdd, Int.reduceSub, Int.reduceMul, Int.reduceNeg]
  · intro _ _
    rw [B136_4]
    simp (disch := omega) only [KX, HW hw, hR.1.2.2, hn, GA, GR, GRc, GO, GI, GL, GV, am_w_i, am_ga, am_it, am_if, true_and, and_true, or_true, true_or, ne_eq, not_false_eq_true, not_true_eq_false, false_imp_iff, true_imp_iff, Int.reduceEq, Int.reduceLT, Int.reduceLE, Int.reduceAdd, Int.reduceSub, Int.reduceMul, Int.reduceNeg]
theorem q_busiest {V σ : (Nat → Int → Int)} {lw : (Int → (Int → Int) → Int)} (hD : DN V σ) (hV0 : WV V) : P2 (GC V lw σ) 135 259 [] := by
  have h12 := hV0.1.2.2
  obtain ⟨n, hn⟩ : ∃ n : Nat, V 0 2 = n := ⟨(V 0 2).toNat, by omega⟩
  have hn2 : (V 0 2).toNat = n := by omega
  have same : ∀ m : Nat, (100 : Int) ≤ σ 0 3 + m → (px_bz V σ n n).1 = (px_bm V σ n m).1 := by
    intro m hm
    refine bzR_uniq (f := fun e => px_on V σ e n) ?_ ?_ (px_bz_R n) (px_bm_R m).1 (fun e => (px_on_b V σ e n).1)
    · intro e he
      obtain ⟨i, a, b, c⟩ := px_on_p he
      exact ⟨i, a, c⟩
    · intro e he
      obtain ⟨i, a, b, c⟩ := px_on_p he
      have wi := (hV0.2.2.2.1 i (by omega) (by omega)).2.2
      have dn := hD i (by omega) (by omega)
      refine ⟨?_, by omega⟩
      rcases Int.lt_or_le e (σ 0 3) with h | h
      · exact absurd b (dn (by omega))
      · exact h
  refine ⟨vI (px_bz V σ n n).1, fun w I L G d Q q => ?_, fun w I L G d Q q => ?_⟩
  · have G0 := G
    obtain ⟨⟨hw, hR, hL, hV, hM, hN⟩, rS, mS, wS, ny, ct⟩ := id G
    rw [S135]
    refine am_loop (α := Option am_V × Option am_V) n (fun i x => am_WP (d + 20) 135 7 [some (vR (some 0)), some (vI (px_bz V σ n i).1), some (vI (px_bz V σ n i).2), some (vI (i : Int)), x.1, x.2] [] (mkH w I L) Q) (fun i _ => True) ?_ ?_ 0 (none, none) (Nat.zero_le _) trivial
    · intro i ⟨l4, l5⟩ hi _ ih
      have z := ih (some (vI (V 12 i)), some (vI (px_on V σ (V 12 i) n))) trivial
      have pb := px_on_b V σ (V 12 i) n
      dsimp only at z ⊢
      rw [px_bz] at z
      rw [B135_7]
      simp (disch := omega) only [KX, HW hw, hR.1.2.2, hn, (hR.2.2.2.1 i (by omega) (by omega)).2.2, s136 G0, hn2, Int.toNat_natCast, B135_60, B135_66, GA, GR, GRc, GO, GI, GL, GV, am_w_i, am_ga, am_it, am_if, true_and, and_true, or_true, true_or, ne_eq, not_false_eq_true, not_true_eq_false, false_imp_iff, true_imp_iff, Int.reduceEq, Int.reduceLT, Int.reduceLE, Int.reduceAdd, Int.reduceSub, Int.reduceMul, Int.reduceNeg]
      generalize px_on V σ (V 12 i) n = c at z pb ⊢
      by_cases c1 : (px_bz V σ n i).2 < c
      · rw [if_pos (Or.inl c1)] at z
        first | (simp (disch := omega) only [GA, GR, GRc, GO, GI, GL, GV, am_w_i, am_ga, am_it, am_if, true_and, and_true, or_true, true_or, ne_eq, not_false_eq_true, not_true_eq_false, false_imp_iff, true_imp_iff, Int.reduceEq, Int.reduceLT, Int.reduceLE, Int.reduceAdd, Int.reduceSub, Int.reduceMul, Int.reduceNeg]; exact z) | simp (disch := omega) only [z, GA, GR, GRc, GO, GI, GL, GV, am_w_i, am_ga, am_it, am_if, true_and, and_true, or_true, true_or, ne_eq, not_false_eq_true, not_true_eq_false, false_imp_iff, true_imp_iff, Int.reduceEq, Int.reduceLT, Int.reduceLE, Int.reduceAdd, Int.reduceSub, Int.reduceMul, Int.reduceNeg]
      · by_cases c2 : 0 < c
        · by_cases c3 : c = (px_bz V σ n i).2
          · by_cases c4 : V 12 i < (px_bz V σ n i).1
            · rw [if_pos (Or.inr ⟨c2, c3, c4⟩)] at z
              first | (simp (disch := omega) only [GA, GR, GRc, GO, GI, GL, GV, am_w_i, am_ga, am_it, am_if, true_and, and_true, or_true, true_or, ne_eq, not_false_eq_true, not_true_eq_false, false_imp_iff, true_imp_iff, Int.reduceEq, Int.reduceLT, Int.reduceLE, Int.reduceAdd, Int.reduceSub, Int.reduceMul, Int.reduceNeg]; exact z) | simp (disch := omega) only [z, GA, GR, GRc, GO, GI, GL, GV, am_w_i, am_ga, am_it, am_if, true_and, and_true, or_true, true_or, ne_eq, not_false_eq_true, not_true_eq_false, false_imp_iff, true_imp_iff, Int.reduceEq, Int.reduceLT, Int.reduceLE, Int.reduceAdd, Int.reduceSub, Int.reduceMul, Int.reduceNeg]
            · rw [if_neg (by omega)] at z
              first | (simp (disch := omega) only [GA, GR, GRc, GO, GI, GL, GV, am_w_i, am_ga, am_it, am_if, true_and, and_true, or_true, true_or, ne_eq, not_false_eq_true, not_true_eq_false, false_imp_iff, true_imp_iff, Int.reduceEq, Int.reduceLT, Int.reduceLE, Int.reduceAdd, Int.reduceSub, Int.reduceMul, Int.reduceNeg]; exact z) | simp (disch := omega) only [z, GA, GR, GRc, GO, GI, GL, GV, am_w_i, am_ga, am_it, am_if, true_and, and_true, or_true, true_or, ne_eq, not_false_eq_true, not_true_eq_false, false_imp_iff, true_imp_iff, Int.reduceEq, Int.reduceLT, Int.reduceLE, Int.reduceAdd, Int.reduceSub, Int.reduceMul, Int.reduceNeg]
          · rw [if_neg (by omega)] at z
            first | (simp (disch := omega) only [GA, GR, GRc, GO, GI, GL, GV, am_w_i, am_ga, am_it, am_if, true_and, and_true, or_true, true_or, ne_eq, not_false_eq_true, not_true_eq_false, false_imp_iff, true_imp_iff, Int.reduceEq, Int.reduceLT, Int.reduceLE, Int.reduceAdd, Int.reduceSub, Int.reduceMul, Int.reduceNeg]; exact z) | simp (disch := omega) only [z, GA, GR, GRc, GO, GI, GL, GV, am_w_i, am_ga, am_it, am_if, true_and, and_true, or_true, true_or, ne_eq, not_false_eq_true, not_true_eq_false, false_imp_iff, true_imp_iff, Int.reduceEq, Int.reduceLT, Int.reduceLE, Int.reduceAdd, Int.reduceSub, Int.reduceMul, Int.reduceNeg]
        · rw [if_neg (by omega)] at z
          first | (simp (disch := omega) only [GA, GR, GRc, GO, GI, GL, GV, am_w_i, am_ga, am_it, am_if, true_and, and_true, or_true, true_or, ne_eq, not_false_eq_true, not_true_eq_false, false_imp_iff, true_imp_iff, Int.reduceEq, Int.reduceLT, Int.reduceLE, Int.reduceAdd, Int.reduceSub, Int.reduceMul, Int.reduceNeg]; exact z) | simp (disch := omega) only [z, GA, GR, GRc, GO, GI, GL, GV, am_w_i, am_ga, am_it, am_if, true_and, and_true, or_true, true_or, ne_eq, not_false_eq_true, not_true_eq_false, false_imp_iff, true_imp_iff, Int.reduceEq, Int.reduceLT, Int.reduceLE, Int.reduceAdd, Int.reduceSub, Int.reduceMul, Int.reduceNeg]
    · intro ⟨l4, l5⟩ _
      rw [B135_7]
      simp (disch := omega) only [KX, HW hw, hR.1.2.2, hn, GA, GR, GRc, GO, GI, GL, GV, am_w_i, am_ga, am_it, am_if, true_and, and_true, or_true, true_or, ne_eq, not_false_eq_true, not_true_eq_false, false_imp_iff, true_imp_iff, Int.reduceEq, Int.reduceLT, Int.reduceLE, Int.reduceAdd, Int.reduceSub, Int.reduceMul, Int.reduceNeg]
      exact q _ _ _ QR.rf
  · obtain ⟨⟨hw, hR, hL, hV, hM, hN⟩, rS, mS, wS, ny, ct⟩ := id G
    have dy := wS.2.2.1
    have h131 : am_up I 99 2 0 131 0 = σ 0 3 := by rw [am_up_a _ _ _ _ (by decide)]; exact mS.2.2.2.1
    rw [S259]
    simp (disch := omega) only [Kk, B259_5, Ks, h131, GA, GR, GRc, GO, GI, GL, GV, am_w_i, am_ga, am_it, am_if, true_and, and_true, or_true, true_or, ne_eq, not_false_eq_true, not_true_eq_false, false_imp_iff, true_imp_iff, Int.reduceEq, Int.reduceLT, Int.reduceLE, Int.reduceAdd, Int.reduceSub, Int.reduceMul, Int.reduceNeg]
    have inner : ∀ (f c e : Int) (K : Int → Prop), (∀ x, x = px_on V σ e n → am_WP (d + 20) 259 29 [some (vR (some 99)), some (vI f), some (vI c), some (vI e), some (vI x), some (vI (n : Int))] [] (mkH w (am_up I 99 2 0) L) Q) → am_WP (d + 20) 259 29 [some (vR (some 99)), some (vI f), some (vI c), some (vI e), some (vI 0), some (vI 0)] [] (mkH w (am_up I 99 2 0) L) Q := by
      intro f c e _ hk
      refine am_loop (α := Unit) n (fun i _ => am_WP (d + 20) 259 29 [some (vR (some 99)), some (vI f), some (vI c), some (vI e), some (vI (px_on V σ e i)), some (vI (i : Int))] [] (mkH w (am_up I 99 2 0) L) Q) (fun i _ => True) ?_ ?_ 0 () (Nat.zero_le _) trivial
      · intro i _ hi _ ih
        have z := ih () trivial
        have pb := px_on_b V σ e i
        rw [px_on] at z
        have vi := hM.2.2.2.1 i (by omega) (by omega)
        rw [B259_29]
        simp (disch := omega) only [Kk, am_up_n, hM.1.2.2, hn, Kw, Ks, am_up_a, vi.2.2, mS.o0 (j := (i : Int)), B259_65, B259_66, GA, GR, GRc, GO, GI, GL, GV, am_w_i, am_ga, am_it, am_if, true_and, and_true, or_true, true_or, ne_eq, not_false_eq_true, not_true_eq_false, false_imp_iff, true_imp_iff, Int.reduceEq, Int.reduceLT, Int.reduceLE, Int.reduceAdd, Int.reduceSub, Int.reduceMul, Int.reduceNeg]
        by_cases c1 : σ 3 i = 0
        · by_cases c2 : V 12 i = e
          · rw [if_pos ⟨c1, c2⟩] at z; first | (simp (disch := omega) only [c1, c2, GA, GR, GRc, GO, GI, GL, GV, am_w_i, am_ga, am_it, am_if, true_and, and_true, or_true, true_or, ne_eq, not_false_eq_true, not_true_eq_false, false_imp_iff, true_imp_iff, Int.reduceEq, Int.reduceLT, Int.reduceLE, Int.reduceAdd, Int.reduceSub, Int.reduceMul, Int.reduceNeg]; exact z) | simp (disch := omega) only [c1, c2, z, GA, GR, GRc, GO, GI, GL, GV, am_w_i, am_ga, am_it, am_if, true_and, and_true, or_true, true_or, ne_eq, not_false_eq_true, not_true_eq_false, false_imp_iff, true_imp_iff, Int.reduceEq, Int.reduceLT, Int.reduceLE, Int.reduceAdd, Int.reduceSub, Int.reduceMul, Int.reduceNeg]
          · rw [if_neg (fun y => c2 y.2)] at z; first | (simp (disch := omega) only [c1, c2, GA, GR, GRc, GO, GI, GL, GV, am_w_i, am_ga, am_it, am_if, true_and, and_true, or_true, true_or, ne_eq, not_false_eq_true, not_true_eq_false, false_imp_iff, true_imp_iff, Int.reduceEq, Int.reduceLT, Int.reduceLE, Int.reduceAdd, Int.reduceSub, Int.reduceMul, Int.reduceNeg]; exact z) | simp (disch := omega) only [c1, c2, z, GA, GR, GRc, GO, GI, GL, GV, am_w_i, am_ga, am_it, am_if, true_and, and_true, or_true, true_or, ne_eq, not_false_eq_true, not_true_eq_false, false_imp_iff, true_imp_iff, Int.reduceEq, Int.reduceLT, Int.reduceLE, Int.reduceAdd, Int.reduceSub, Int.reduceMul, Int.reduceNeg]
        · rw [if_neg (fun y => c1 y.1)] at z
          by_cases c2 : V 12 i = e
          · first | (simp (disch := omega) only [c1, c2, GA, GR, GRc, GO, GI, GL, GV, am_w_i, am_ga, am_it, am_if, true_and, and_true, or_true, true_or, ne_eq, not_false_eq_true, not_true_eq_false, false_imp_iff, true_imp_iff, Int.reduceEq, Int.reduceLT, Int.reduceLE, Int.reduceAdd, Int.reduceSub, Int.reduceMul, Int.reduceNeg]; exact z) | simp (disch := omega) only [c1, c2, z, GA, GR, GRc, GO, GI, GL, GV, am_w_i, am_ga, am_it, am_if, true_and, and_true, or_true, true_or, ne_eq, not_false_eq_true, not_true_eq_false, false_imp_iff, true_imp_iff, Int.reduceEq, Int.reduceLT, Int.reduceLE, Int.reduceAdd, Int.reduceSub, Int.reduceMul, Int.reduceNeg]
          · first | (simp (disch := omega) only [c1, c2, GA, GR, GRc, GO, GI, GL, GV, am_w_i, am_ga, am_it, am_if, true_and, and_true, or_true, true_or, ne_eq, not_false_eq_true, not_true_eq_false, false_imp_iff, true_imp_iff, Int.reduceEq, Int.reduceLT, Int.reduceLE, Int.reduceAdd, Int.reduceSub, Int.reduceMul, Int.reduceNeg]; exact z) | simp (disch := omega) only [c1, c2, z, GA, GR, GRc, GO, GI, GL, GV, am_w_i, am_ga, am_it, am_if, true_and, and_true, or_true, true_or, ne_eq, not_false_eq_true, not_true_eq_false, false_imp_iff, true_imp_iff, Int.reduceEq, Int.reduceLT, Int.reduceLE, Int.reduceAdd, Int.reduceSub, Int.reduceMul, Int.reduceNeg]
      · intro _ _
        exact hk _ rfl
    have loop : ∀ (k m : Nat) (l4 l5 : Option am_V), (100 - σ 0 3).toNat = k + m → am_WP (d + 20) 259 17 [some (vR (some 99)), some (vI (px_bm V σ n m).1), some (vI (px_bm V σ n m).2), some (vI (σ 0 3 + m)), l4, l5] [] (mkH w (am_up I 99 2 0) L) Q := by
      intro k
      induction k with
      | zero =>
        intro m l4 l5 hm
        have z := q _ _ (QR.t (v := 0))
        rw [same m (by omega)] at z
        rw [B259_17]
        simp (disch := omega) only [z, GA, GR, GRc, GO, GI, GL, GV, am_w_i, am_ga, am_it, am_if, true_and, and_true, or_true, true_or, ne_eq, not_false_eq_true, not_true_eq_false, false_imp_iff, true_imp_iff, Int.reduceEq, Int.reduceLT, Int.reduceLE, Int.reduceAdd, Int.reduceSub, Int.reduceMul, Int.reduceNeg]
      | succ k ih =>
        intro m l4 l5 hm
        rw [B259_17]
        simp (disch := omega) only [GA, GR, GRc, GO, GI, GL, GV, am_w_i, am_ga, am_it, am_if, true_and, and_true, or_true, true_or, ne_eq, not_false_eq_true, not_true_eq_false, false_imp_iff, true_imp_iff, Int.reduceEq, Int.reduceLT, Int.reduceLE, Int.reduceAdd, Int.reduceSub, Int.reduceMul, Int.reduceNeg]
        refine inner _ _ _ (fun _ => True) (fun x hx => ?_)
        have z := ih (m + 1) (some (vI x)) (some (vI (n : Int))) (by omega)
        rw [px_bm, ← hx] at z
        have e3 : σ 0 3 + ((m + 1 : Nat) : Int) = σ 0 3 + m + 1 := by omega
        rw [e3] at z
        rw [B259_29]
        simp (disch := omega) only [Kk, am_up_n, hM.1.2.2, hn, B259_89, GA, GR, GRc, GO, GI, GL, GV, am_w_i, am_ga, am_it, am_if, true_and, and_true, or_true, true_or, ne_eq, not_false_eq_true, not_true_eq_false, false_imp_iff, true_imp_iff, Int.reduceEq, Int.reduceLT, Int.reduceLE, Int.reduceAdd, Int.reduceSub, Int.reduceMul, Int.reduceNeg]
        by_cases c1 : x ≤ (px_bm V σ n m).2
        · rw [if_pos c1] at z; first | (simp (disch := omega) only [GA, GR, GRc, GO, GI, GL, GV, am_w_i, am_ga, am_it, am_if, true_and, and_true, or_true, true_or, ne_eq, not_false_eq_true, not_true_eq_false, false_imp_iff, true_imp_iff, Int.reduceEq, Int.reduceLT, Int.reduceLE, Int.reduceAdd, Int.reduceSub, Int.reduceMul, Int.reduceNeg]; exact z) | simp (disch := omega) only [z, GA, GR, GRc, GO, GI, GL, GV, am_w_i, am_ga, am_it, am_if, true_and, and_true, or_true, true_or, ne_eq, not_false_eq_true, not_true_eq_false, false_imp_iff, true_imp_iff, Int.reduceEq, Int.reduceLT, Int.reduceLE, Int.reduceAdd, Int.reduceSub, Int.reduceMul, Int.reduceNeg]
        · rw [if_neg c1] at z; first | (simp (disch := omega) only [GA, GR, GRc, GO, GI, GL, GV, am_w_i, am_ga, am_it, am_if, true_and, and_true, or_true, true_or, ne_eq, not_false_eq_true, not_true_eq_false, false_imp_iff, true_imp_iff, Int.reduceEq, Int.reduceLT, Int.reduceLE, Int.reduceAdd, Int.reduceSub, Int.reduceMul, Int.reduceNeg]; exact z) | simp (disch := omega) only [z, GA, GR, GRc, GO, GI, GL, GV, am_w_i, am_ga, am_it, am_if, true_and, and_true, or_true, true_or, ne_eq, not_false_eq_true, not_true_eq_false, false_imp_iff, true_imp_iff, Int.reduceEq, Int.reduceLT, Int.reduceLE, Int.reduceAdd, Int.reduceSub, Int.reduceMul, Int.reduceNeg]
    have := loop (100 - σ 0 3).toNat 0 none none rfl
    simpa [px_bm] using this
