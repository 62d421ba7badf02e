/-! 64: what can be undone: pushing -/
theorem am_x5 (k : Int) : k * 5 = 5 * k := Int.mul_comm k 5
/-- how many rows go out at the low end, how many stand then -/
def uSh (u : Nat) : Nat := if u = 20 then 1 else 0
theorem uSh_b {u : Nat} (h : u ≤ 20) : u - uSh u ≤ 19 ∧ (u < 20 → uSh u = 0) ∧ (u = 20 → uSh u = 1) := by unfold uSh; split <;> omega
theorem s19 {d : Nat} {w : Nat × Nat × Nat × Nat} {I L : Nat → Int → Int} {σ : (Nat → Int → Int)} {u : Nat} {k D : Int} (rS : RS I 51 σ) (wS : WS D σ) (hu : I 90 0 = u) (h20 : u ≤ 20) (hk : -1 ≤ k ∧ k < 6) {Q : Option am_V → am_H → Prop} (q : ∀ I', I' 90 0 = ((u - uSh u + 1 : Nat) : Int) → (∀ (i : Nat) (c : Int), i < u - uSh u → 0 ≤ c → c < 5 → I' 91 (5 * (i : Int) + c) = I 91 (5 * ((i + uSh u : Nat) : Int) + c)) → (I' 91 (5 * ((u - uSh u : Nat) : Int)) = k ∧ (0 ≤ k → I' 91 (5 * ((u - uSh u : Nat) : Int) + 1) = σ 1 (2 * k) ∧ I' 91 (5 * ((u - uSh u : Nat) : Int) + 2) = σ 1 (2 * k + 1)) ∧ I' 91 (5 * ((u - uSh u : Nat) : Int) + 3) = σ 2 0 ∧ I' 91 (5 * ((u - uSh u : Nat) : Int) + 4) = σ 2 1) → Fr (fun a => a = 90 ∨ a = 91) I I' → Q none (mkH w I' L)) : am_Sp (d + 1) 19 [vR (some 90), vR (some 51), vI k] (mkH w I L) Q := by
  have hb := uSh_b h20
  have core : ∀ J, J 90 0 = ((u - uSh u : Nat) : Int) → (∀ (i : Nat) (c : Int), i < u - uSh u → 0 ≤ c → c < 5 → J 91 (5 * (i : Int) + c) = I 91 (5 * ((i + uSh u : Nat) : Int) + c)) → Fr (fun a => a = 90 ∨ a = 91) I J → am_WP (d + 1) 19 35 [some (vR (some 90)), some (vR (some 51)), some (vI k), none] [] (mkH w J L) Q := by
    intro J j1 j2 j3
    generalize hv : u - uSh u = v at *
    have r51 : ∀ x, 51 ≤ x → x ≤ 54 → J x = I x := fun x _ _ => j3 x (by omega)
    have RJ : RS J 51 σ := rS.fr r51
    have p0 : J (51 + 2) 0 = σ 2 0 := RJ.2.1 0 (by omega) (by omega)
    have p1 : J (51 + 2) 1 = σ 2 1 := RJ.2.1 1 (by omega) (by omega)
    have fin : ∀ a0 a1 : Int, (0 ≤ k → a0 = σ 1 (2 * k) ∧ a1 = σ 1 (2 * k + 1)) → Q none (mkH w (am_up (am_up (am_up (am_up (am_up (am_up J 91 (5 * (v : Int)) k) 91 (5 * (v : Int) + 1) a0) 91 (5 * (v : Int) + 2) a1) 91 (5 * (v : Int) + 3) (σ 2 0)) 91 (5 * (v : Int) + 4) (σ 2 1)) 90 0 ((v : Int) + 1)) L) := by
      intro a0 a1 ha
      refine q _ ?_ ?_ ?_ ?_
      · rw [am_up_s]; omega
      · intro i c hi c0 c1
        rw [am_up_a _ _ _ _ (by decide)]
        simp (disch := omega) only [am_up_n]
        exact j2 i c hi c0 c1
      · rw [am_up_a _ _ _ _ (by decide)]
        refine ⟨?_, fun y => ⟨?_, ?_⟩, ?_, ?_⟩
        · simp (disch := omega) only [am_up_n, am_up_s]
        · simp (disch := omega) only [am_up_n, am_up_s]; exact (ha y).1
        · simp (disch := omega) only [am_up_n, am_up_s]; exact (ha y).2
        · simp (disch := omega) only [am_up_n, am_up_s]
        · simp (disch := omega) only [am_up_n, am_up_s]
      · intro x hx
        simp (disch := omega) only [am_up_a]
        exact j3 x hx
    by_cases ck : 0 ≤ k
    · have e0 : J (51 + 1) (2 * k) = σ 1 (2 * k) := RJ.1 _ (by omega) (by omega)
      have e1 : J (51 + 1) (2 * k + 1) = σ 1 (2 * k + 1) := RJ.1 _ (by omega) (by omega)
      have z := fin (σ 1 (2 * k)) (σ 1 (2 * k + 1)) (fun _ => ⟨rfl, rfl⟩)
      rw [B19_35]
      simp (disch := omega) only [KG, j1, am_x5, B19_49, HS (show isS 51 from Or.inl rfl), s59 (s := 51) (Or.inl rfl) (k := k) (t := 0) ⟨ck, by omega⟩ (by omega), s59 (s := 51) (Or.inl rfl) (k := k) (t := 1) ⟨ck, by omega⟩ (by omega), am_up_a, Int.add_zero, e0, e1, B19_70, B19_71, B19_92, B19_93, p0, p1, B19_107, B19_121, GA, GR, GRc, GO, GI, GL, GV, am_w_i, am_ga, am_it, am_if, true_and, and_true, or_true, true_or, ne_eq, not_false_eq_true, not_true_eq_false, false_imp_iff, true_imp_iff, Int.reduceEq, Int.reduceLT, Int.reduceLE, Int.reduceAdd, Int.reduceSub, Int.reduceMul, Int.reduceNeg]
      exact z
    · have z := fin 0 0 (fun y => absurd y ck)
      rw [B19_35]
      simp (disch := omega) only [KG, j1, am_x5, B19_49, HS (show isS 51 from Or.inl rfl), am_up_a, B19_70, B19_71, B19_92, B19_93, p0, p1, B19_107, B19_121, GA, GR, GRc, GO, GI, GL, GV, am_w_i, am_ga, am_it, am_if, true_and, and_true, or_true, true_or, ne_eq, not_false_eq_true, not_true_eq_false, false_imp_iff, true_imp_iff, Int.reduceEq, Int.reduceLT, Int.reduceLE, Int.reduceAdd, Int.reduceSub, Int.reduceMul, Int.reduceNeg]
      exact z
  rw [S19]
  by_cases c : u < 20
  · have e := hb.2.1 c
    simp (disch := omega) only [KG, hu, GA, GR, GRc, GO, GI, GL, GV, am_w_i, am_ga, am_it, am_if, true_and, and_true, or_true, true_or, ne_eq, not_false_eq_true, not_true_eq_false, false_imp_iff, true_imp_iff, Int.reduceEq, Int.reduceLT, Int.reduceLE, Int.reduceAdd, Int.reduceSub, Int.reduceMul, Int.reduceNeg]
    refine core I (by rw [e]; exact hu) (fun i c' _ _ _ => by rw [e]; rfl) Fr.rf
  · have e20 : u = 20 := by omega
    have e := hb.2.2 e20
    simp (disch := omega) only [KG, hu, B19_29, GA, GR, GRc, GO, GI, GL, GV, am_w_i, am_ga, am_it, am_if, true_and, and_true, or_true, true_or, ne_eq, not_false_eq_true, not_true_eq_false, false_imp_iff, true_imp_iff, Int.reduceEq, Int.reduceLT, Int.reduceLE, Int.reduceAdd, Int.reduceSub, Int.reduceMul, Int.reduceNeg]
    refine core _ (by rw [am_up_s]; omega) (fun i c' hi c0 c1 => ?_) ((Fr.rf.cp (Or.inr rfl)).up (Or.inl rfl))
    rw [am_up_a _ _ _ _ (by decide), cz_cp_b _ _ _ _ _ _ (by omega) (by omega)]
    congr 1; omega
theorem s273 {d : Nat} {w : Nat × Nat × Nat × Nat} {I L : Nat → Int → Int} {σ : (Nat → Int → Int)} {a ln : Nat} {b : Int} (mS : MS I L 0 σ) (ha : a ≠ 127 ∧ a ≠ 128) (hk : ∀ J, am_kd (mkH w J L) a = 13) (hl : ∀ J, am_ln (mkH w J L) a = ln) (hb : 0 ≤ b) (hn : b + 14 ≤ ln) (h4 : ln ≤ 4096) {Q : Option am_V → am_H → Prop} (q : ∀ I', (∀ j, 0 ≤ j → j < 12 → I' a (b + j) = σ 1 j) → I' a (b + 12) = σ 2 0 → I' a (b + 13) = σ 2 1 → (∀ j, j < b ∨ b + 14 ≤ j → I' a j = I a j) → Fr (fun x => x = a) I I' → Q none (mkH w I' L)) : am_Sp d 273 [vR (some 99), vR (some a), vI b] (mkH w I L) Q := by
  rw [S273]
  refine am_loop (α := (Nat → Int → Int)) 12 (fun i J => am_WP d 273 2 [some (vR (some 99)), some (vR (some a)), some (vI b), some (vI (i : Int))] [] (mkH w J L) Q) (fun i J => (∀ j, 0 ≤ j → j < (i : Int) → J a (b + j) = σ 1 j) ∧ (∀ j, j < b ∨ b + 14 ≤ j → J a j = I a j) ∧ Fr (fun x => x = a) I J) ?_ ?_ 0 I (Nat.zero_le _) ⟨fun j h1 h2 => by omega, fun _ _ => rfl, Fr.rf⟩
  · intro i J hi ⟨j1, j2, j3⟩ ih
    have e : J 127 i = σ 1 i := by rw [j3 127 (by omega)]; exact mS.a0 (by omega) (by omega)
    rw [B273_2]
    simp (disch := omega) only [Kk, Ks, hk, hl, e, B273_19, GA, GR, GRc, GO, GI, GL, GV, am_w_i, am_ga, am_it, am_if, true_and, and_true, or_true, true_or, ne_eq, not_false_eq_true, not_true_eq_false, false_imp_iff, true_imp_iff, Int.reduceEq, Int.reduceLT, Int.reduceLE, Int.reduceAdd, Int.reduceSub, Int.reduceMul, Int.reduceNeg]
    refine ih _ ⟨fun j h1 h2 => ?_, fun j hj => ?_, j3.up rfl⟩
    · by_cases ej : j = i
      · subst ej; rw [am_up_s]
      · rw [am_up_n _ _ _ _ (by omega)]; exact j1 j h1 (by omega)
    · rw [am_up_n _ _ _ _ (by omega)]; exact j2 j hj
  · intro J ⟨j1, j2, j3⟩
    have e0 : J 128 0 = σ 2 0 := by rw [j3 128 (by omega)]; exact mS.p0 (by omega) (by omega)
    have e1 : J 128 1 = σ 2 1 := by rw [j3 128 (by omega)]; exact mS.p0 (by omega) (by omega)
    rw [B273_2]
    simp (disch := omega) only [Kk, Ks, hk, hl, e0, B273_37, am_up_a, e1, GA, GR, GRc, GO, GI, GL, GV, am_w_i, am_ga, am_it, am_if, true_and, and_true, or_true, true_or, ne_eq, not_false_eq_true, not_true_eq_false, false_imp_iff, true_imp_iff, Int.reduceEq, Int.reduceLT, Int.reduceLE, Int.reduceAdd, Int.reduceSub, Int.reduceMul, Int.reduceNeg]
    refine q _ (fun j h1 h2 => ?_) ?_ ?_ (fun j hj => ?_) ((j3.up rfl).up rfl)
    · simp (disch := omega) only [am_up_n]; exact j1 j h1 (by omega)
    · simp (disch := omega) only [am_up_n, am_up_s]
    · rw [am_up_s]
    · simp (disch := omega) only [am_up_n]; exact j2 j hj
theorem s275 {d : Nat} {w : Nat × Nat × Nat × Nat} {I L : Nat → Int → Int} {σ : (Nat → Int → Int)} {u : Nat} (mS : MS I L 0 σ) (hu : I 99 74 = u) (h20 : u ≤ 20) {Q : Option am_V → am_H → Prop} (q : ∀ I', I' 99 74 = ((u - uSh u + 1 : Nat) : Int) → (∀ (i : Nat) (c : Int), i < u - uSh u → 0 ≤ c → c < 14 → I' 136 (14 * (i : Int) + c) = I 136 (14 * ((i + uSh u : Nat) : Int) + c)) → ((∀ j, 0 ≤ j → j < 12 → I' 136 (14 * ((u - uSh u : Nat) : Int) + j) = σ 1 j) ∧ I' 136 (14 * ((u - uSh u : Nat) : Int) + 12) = σ 2 0 ∧ I' 136 (14 * ((u - uSh u : Nat) : Int) + 13) = σ 2 1) → (∀ a, a ≠ 99 → a ≠ 136 → I' a = I a) → (∀ j, j ≠ 74 → I' 99 j = I 99 j) → Q none (mkH w I' L)) : am_Sp (d + 1) 275 [vR (some 99)] (mkH w I L) Q := by
  have hb := uSh_b h20
  have core : ∀ (l1 : Option am_V) (J : (Nat → Int → Int)), J 99 74 = ((u - uSh u : Nat) : Int) → (∀ (i : Nat) (c : Int), i < u - uSh u → 0 ≤ c → c < 14 → J 136 (14 * (i : Int) + c) = I 136 (14 * ((i + uSh u : Nat) : Int) + c)) → (∀ a, a ≠ 99 → a ≠ 136 → J a = I a) → (∀ j, j ≠ 74 → J 99 j = I 99 j) → am_WP (d + 1) 275 49 [some (vR (some 99)), l1] [] (mkH w J L) Q := by
    intro l1 J j1 j2 j3 j4
    generalize hv : u - uSh u = v at *
    have mJ : MS J L 0 σ := mS.fb ⟨fun j _ _ => by rw [j3 127 (by decide) (by decide)], fun j _ _ => by rw [j3 128 (by decide) (by decide)], fun j _ _ => by rw [j3 129 (by decide) (by decide)], by rw [j3 130 (by decide) (by decide)], by rw [j3 131 (by decide) (by decide)]⟩ rfl
    rw [B275_49]
    simp (disch := omega) only [Kk, Ku, j1, GA, GR, GRc, GO, GI, GL, GV, am_w_i, am_ga, am_it, am_if, true_and, and_true, or_true, true_or, ne_eq, not_false_eq_true, not_true_eq_false, false_imp_iff, true_imp_iff, Int.reduceEq, Int.reduceLT, Int.reduceLE, Int.reduceAdd, Int.reduceSub, Int.reduceMul, Int.reduceNeg]
    refine s273 (a := 136) (ln := 280) mJ ⟨by decide, by decide⟩ (fun J => by simp only [Ku]) (fun J => by simp only [Ku]; rfl) (by omega) (by omega) (by omega) (fun I2 k1 k2 k3 k4 k5 => ?_)
    have e74 : I2 99 74 = v := by rw [k5 99 (by decide)]; exact j1
    simp (disch := omega) only [Kk, e74, GA, GR, GRc, GO, GI, GL, GV, am_w_i, am_ga, am_it, am_if, true_and, and_true, or_true, true_or, ne_eq, not_false_eq_true, not_true_eq_false, false_imp_iff, true_imp_iff, Int.reduceEq, Int.reduceLT, Int.reduceLE, Int.reduceAdd, Int.reduceSub, Int.reduceMul, Int.reduceNeg]
    refine q _ ?_ (fun i c hi c0 c1 => ?_) ⟨fun j h1 h2 => ?_, ?_, ?_⟩ (fun x x1 x2 => ?_) (fun j hj => ?_)
    · rw [am_up_s]; omega
    · rw [am_up_a _ _ _ _ (by decide), k4 _ (by omega), j2 i c hi c0 c1]
    · rw [am_up_a _ _ _ _ (by decide)]; exact k1 j h1 h2
    · rw [am_up_a _ _ _ _ (by decide)]; exact k2
    · rw [am_up_a _ _ _ _ (by decide)]; exact k3
    · rw [am_up_a _ _ _ _ x1, k5 x x2, j3 x x1 x2]
    · rw [am_up_n _ _ _ _ hj, k5 99 (by decide), j4 j hj]
  rw [S275]
  by_cases c : u = 20
  · have e := hb.2.2 c
    have hu2 : I 99 74 = 20 := by rw [hu, c]; rfl
    simp (disch := omega) only [Kk, hu2, GA, GR, GRc, GO, GI, GL, GV, am_w_i, am_ga, am_it, am_if, true_and, and_true, or_true, true_or, ne_eq, not_false_eq_true, not_true_eq_false, false_imp_iff, true_imp_iff, Int.reduceEq, Int.reduceLT, Int.reduceLE, Int.reduceAdd, Int.reduceSub, Int.reduceMul, Int.reduceNeg]
    refine am_loop (α := (Nat → Int → Int)) 266 (fun i J => am_WP (d + 1) 275 11 [some (vR (some 99)), some (vI (i : Int))] [] (mkH w J L) Q) (fun i J => (∀ j, 0 ≤ j → j < (i : Int) → J 136 j = I 136 (j + 14)) ∧ (∀ j, (i : Int) ≤ j → J 136 j = I 136 j) ∧ Fr (fun x => x = 136) I J) ?_ ?_ 0 I (Nat.zero_le _) ⟨fun j h1 h2 => by omega, fun _ _ => rfl, Fr.rf⟩
    · intro i J hi ⟨j1, j2, j3⟩ ih
      have e1 : J 136 ((i : Int) + 14) = I 136 ((i : Int) + 14) := j2 _ (by omega)
      rw [B275_11]
      simp (disch := omega) only [Kk, Ku, e1, B275_33, GA, GR, GRc, GO, GI, GL, GV, am_w_i, am_ga, am_it, am_if, true_and, and_true, or_true, true_or, ne_eq, not_false_eq_true, not_true_eq_false, false_imp_iff, true_imp_iff, Int.reduceEq, Int.reduceLT, Int.reduceLE, Int.reduceAdd, Int.reduceSub, Int.reduceMul, Int.reduceNeg]
      refine ih _ ⟨fun j h1 h2 => ?_, fun j hj => ?_, j3.up rfl⟩
      · by_cases ej : j = i
        · subst ej; rw [am_up_s]
        · rw [am_up_n _ _ _ _ ej]; exact j1 j h1 (by omega)
      · rw [am_up_n _ _ _ _ (by omega)]; exact j2 j (by omega)
    · intro J ⟨j1, j2, j3⟩
      have e74 : J 99 74 = 20 := by rw [j3 99 (by decide)]; exact hu2
      rw [B275_11]
      simp (disch := omega) only [Kk, e74, GA, GR, GRc, GO, GI, GL, GV, am_w_i, am_ga, am_it, am_if, true_and, and_true, or_true, true_or, ne_eq, not_false_eq_true, not_true_eq_false, false_imp_iff, true_imp_iff, Int.reduceEq, Int.reduceLT, Int.reduceLE, Int.reduceAdd, Int.reduceSub, Int.reduceMul, Int.reduceNeg]
      refine core _ _ (by rw [am_up_s]; omega) (fun i c' hi c0 c1 => ?_) (fun x x1 x2 => ?_) (fun j hj => ?_)
      · rw [am_up_a _ _ _ _ (by decide), j1 _ (by omega) (by omega)]; congr 1; omega
      · rw [am_up_a _ _ _ _ x1, j3 x x2]
      · rw [am_up_n _ _ _ _ hj, j3 99 (by decide)]
  · have e := hb.2.1 (by omega)
    simp (disch := omega) only [Kk, hu, GA, GR, GRc, GO, GI, GL, GV, am_w_i, am_ga, am_it, am_if, true_and, and_true, or_true, true_or, ne_eq, not_false_eq_true, not_true_eq_false, false_imp_iff, true_imp_iff, Int.reduceEq, Int.reduceLT, Int.reduceLE, Int.reduceAdd, Int.reduceSub, Int.reduceMul, Int.reduceNeg]
    have cc : ¬ ((u : Int) = 20) := by omega
    have z := core none I (by rw [e]; exact hu) (fun i c' _ _ _ => by rw [e]; rfl) (fun _ _ _ => rfl) (fun _ _ => rfl)
    first | (simp (disch := omega) only [cc, GA, GR, GRc, GO, GI, GL, GV, am_w_i, am_ga, am_it, am_if, true_and, and_true, or_true, true_or, ne_eq, not_false_eq_true, not_true_eq_false, false_imp_iff, true_imp_iff, Int.reduceEq, Int.reduceLT, Int.reduceLE, Int.reduceAdd, Int.reduceSub, Int.reduceMul, Int.reduceNeg]; exact z) | simp (disch := omega) only [cc, z, GA, GR, GRc, GO, GI, GL, GV, am_w_i, am_ga, am_it, am_if, true_and, and_true, or_true, true_or, ne_eq, not_false_eq_true, not_true_eq_false, false_imp_iff, true_imp_iff, Int.reduceEq, Int.reduceLT, Int.reduceLE, Int.reduceAdd, Int.reduceSub, Int.reduceMul, Int.reduceNeg]
