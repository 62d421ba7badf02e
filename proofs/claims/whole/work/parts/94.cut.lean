/-! 94: tokens, pure; the class cuts -/
theorem px_run (P : Int → Prop) (n : Int) : ∀ (r : Nat) (p : Int), p + r = n → ∃ m : Nat, p + m ≤ n ∧ (∀ i : Nat, i < m → P (p + i)) ∧ (p + m < n → ¬ P (p + m))
  | 0, p, h => ⟨0, by omega, fun i hi => by omega, fun y => by omega⟩
  | r + 1, p, h => by
    by_cases c : P p
    · obtain ⟨m, a, b, e⟩ := px_run P n r (p + 1) (by omega)
      refine ⟨m + 1, by omega, fun i hi => ?_, fun y => ?_⟩
      · cases i with
        | zero => simpa using c
        | succ i => have := b i (by omega); rwa [show p + 1 + (i : Int) = p + ((i + 1 : Nat) : Int) by omega] at this
      · have := e (by omega); rwa [show p + 1 + (m : Int) = p + ((m + 1 : Nat) : Int) by omega] at this
    · exact ⟨0, by omega, fun i hi => by omega, fun _ => by simpa using c⟩
def nvC (T : Int → Int) (p : Int) : Nat → Int
  | 0 => 0
  | m + 1 => am_min 1000000 (nvC T p m * 10 + (T (p + m) - 48))
def nvR (T : Int → Int) (p : Int) : Nat → Int
  | 0 => 0
  | m + 1 => if nvR T p m ≤ 99999 then 10 * nvR T p m + T (p + m) - 48 else nvR T p m
def NR (a b : Int) : Prop := (a = b ∧ 0 ≤ a ∧ a ≤ 1000000) ∨ (99999 < a ∧ a ≤ 1000000 ∧ 99999 < b ∧ b ≤ 1000000)
theorem nv_r {T : Int → Int} {p : Int} : ∀ {m : Nat}, (∀ i : Nat, i < m → isD (T (p + i))) → NR (nvC T p m) (nvR T p m)
  | 0, _ => by unfold NR; simp [nvC, nvR]
  | m + 1, h => by
    have ih := nv_r (T := T) (p := p) (m := m) (fun i hi => h i (by omega))
    have hd := h m (by omega)
    unfold isD at hd
    unfold NR at ih ⊢
    rw [nvC, nvR]
    unfold am_min
    split <;> split <;> omega
/-- a sign at p -/
def Sg (T : Int → Int) (n p j s kd wh : Int) : Prop := ((p + 1 < n ∧ T p = 60 ∧ T (p + 1) = 61) ∧ j = p + 2 ∧ s = 4 ∧ kd = 5 ∧ wh = 1) ∨ ((p + 1 < n ∧ T p = 62 ∧ T (p + 1) = 61) ∧ j = p + 2 ∧ s = 6 ∧ kd = 5 ∧ wh = 4) ∨ ((p + 1 < n ∧ T p = 60 ∧ T (p + 1) = 62) ∧ j = p + 2 ∧ s = 5 ∧ kd = 5 ∧ wh = 3) ∨ ((p + 1 < n → ¬ (T p = 60 ∧ T (p + 1) = 61) ∧ ¬ (T p = 62 ∧ T (p + 1) = 61) ∧ ¬ (T p = 60 ∧ T (p + 1) = 62)) ∧ j = p + 1 ∧ ((T p = 60 ∧ s = 60 ∧ kd = 5 ∧ wh = 0) ∨ (T p = 61 ∧ s = 61 ∧ kd = 5 ∧ wh = 2) ∨ (T p = 62 ∧ s = 62 ∧ kd = 5 ∧ wh = 5) ∨ ((T p = 59 ∨ T p = 40 ∨ T p = 41 ∨ T p = 43 ∨ T p = 45 ∨ T p = 42 ∨ T p = 47) ∧ s = T p ∧ kd = 4 ∧ wh = T p) ∨ (T p = 37 ∧ s = 1 ∧ kd = 4 ∧ wh = 37) ∨ ((T p < 40 ∨ T p = 44 ∨ T p = 46 ∨ 48 ≤ T p) ∧ T p ≠ 37 ∧ T p ≠ 59 ∧ T p ≠ 60 ∧ T p ≠ 61 ∧ T p ≠ 62 ∧ s = 1 ∧ kd = 6 ∧ wh = T p)))
/-- a word at p -/
def Wd (T : Int → Int) (n p j s v kd wh : Int) : Prop := ∃ m : Nat, 1 ≤ m ∧ j = p + m ∧ j ≤ n ∧ (∀ i : Nat, i < m → isL (T (p + i))) ∧ (j < n → ¬ isL (T j)) ∧ ((6 < m ∧ s = 1 ∧ kd = 6 ∧ wh = -1) ∨ (m ≤ 6 ∧ v = P6 T p m ∧ ((∃ k : Nat, k < 21 ∧ WK T p m k ∧ s = 100 + wpI k ∧ kd = 1 ∧ wh = k) ∨ ((∀ k : Nat, k < 21 → ¬ WK T p m k) ∧ s = 2 ∧ kd = 2 ∧ wh = P6 T p m))))
def Nm (T : Int → Int) (n p j s v kd wh : Int) : Prop := ∃ m : Nat, 1 ≤ m ∧ j = p + m ∧ j ≤ n ∧ (∀ i : Nat, i < m → isD (T (p + i))) ∧ (j < n → ¬ isD (T j)) ∧ s = 3 ∧ v = nvC T p m ∧ kd = 3 ∧ wh = nvR T p m
def Tk (T : Int → Int) (n p j s v kd wh : Int) : Prop := Wd T n p j s v kd wh ∨ Nm T n p j s v kd wh ∨ (¬ isL (T p) ∧ ¬ isD (T p) ∧ Sg T n p j s kd wh)
def Tok (T : Int → Int) (n i p j s v kd wh : Int) : Prop := (i ≤ p ∧ p ≤ n ∧ ∀ x, i ≤ x → x < p → T x = 10 ∨ T x = 32) ∧ ((p = n ∧ j = n ∧ s = 0 ∧ kd = 0) ∨ (p < n ∧ T p ≠ 10 ∧ T p ≠ 32 ∧ Tk T n p j s v kd wh))
theorem Tk.j {T : Int → Int} {n p j s v kd wh : Int} (h : Tk T n p j s v kd wh) (hp : p < n) : p < j ∧ j ≤ n ∧ s ≠ 0 ∧ kd ≠ 0 := by
  rcases h with ⟨m, a, b, c, -, -, h⟩ | ⟨m, a, b, c, -, -, h⟩ | ⟨-, -, h⟩
  · rcases h with ⟨-, h1, h2, -⟩ | ⟨-, -, ⟨k, -, -, h1, h2, -⟩ | ⟨-, h1, h2, -⟩⟩ <;> omega
  · omega
  · unfold Sg at h; omega
/-- the class's tape against the reference's -/
def TB (n : Int) (T : Int → Int) (I : (Nat → Int → Int)) : Prop := n ≤ 700 ∧ ∀ j, 0 ≤ j → j < n → (0 ≤ T j ∧ T j ≤ 255) ∧ (I 1 j = T j ∧ T j ≤ 127 ∨ I 1 j < 0 ∧ 128 ≤ T j)
theorem TB.fr {n : Int} {T : Int → Int} {I I' : (Nat → Int → Int)} (h : TB n T I) (h1 : I' 1 = I 1) : TB n T I' := by unfold TB at h ⊢; rw [h1]; exact h
theorem s77 {d : Nat} {h : am_H} {c : Int} (Q : Option am_V → am_H → Prop) : am_Sp d 77 [vI c] h Q ↔ Q (some (vI (if 97 ≤ c ∧ c ≤ 122 then 1 else 0))) h := by
  rw [S77]
  by_cases c1 : 97 ≤ c
  · by_cases c2 : c ≤ 122
    · simp (disch := omega) only [B77_16, B77_17, c1, c2, if_true, GA, GR, GRc, GO, GI, GL, GV, am_w_i, am_ga, am_it, am_if, true_and, and_true, or_true, true_or, ne_eq, not_false_eq_true, not_true_eq_false, false_imp_iff, true_imp_iff, Int.reduceEq, Int.reduceLT, Int.reduceLE, Int.reduceAdd, Int.reduceSub, Int.reduceMul, Int.reduceNeg]
    · simp (disch := omega) only [B77_16, B77_17, c1, c2, if_false, GA, GR, GRc, GO, GI, GL, GV, am_w_i, am_ga, am_it, am_if, true_and, and_true, or_true, true_or, ne_eq, not_false_eq_true, not_true_eq_false, false_imp_iff, true_imp_iff, Int.reduceEq, Int.reduceLT, Int.reduceLE, Int.reduceAdd, Int.reduceSub, Int.reduceMul, Int.reduceNeg]
  · simp (disch := omega) only [B77_16, B77_17, c1, false_and, if_false, GA, GR, GRc, GO, GI, GL, GV, am_w_i, am_ga, am_it, am_if, true_and, and_true, or_true, true_or, ne_eq, not_false_eq_true, not_true_eq_false, false_imp_iff, true_imp_iff, Int.reduceEq, Int.reduceLT, Int.reduceLE, Int.reduceAdd, Int.reduceSub, Int.reduceMul, Int.reduceNeg]
theorem s78 {d : Nat} {h : am_H} {c : Int} (Q : Option am_V → am_H → Prop) : am_Sp d 78 [vI c] h Q ↔ Q (some (vI (if 48 ≤ c ∧ c ≤ 57 then 1 else 0))) h := by
  rw [S78]
  by_cases c1 : 48 ≤ c
  · by_cases c2 : c ≤ 57
    · simp (disch := omega) only [B78_16, B78_17, c1, c2, if_true, GA, GR, GRc, GO, GI, GL, GV, am_w_i, am_ga, am_it, am_if, true_and, and_true, or_true, true_or, ne_eq, not_false_eq_true, not_true_eq_false, false_imp_iff, true_imp_iff, Int.reduceEq, Int.reduceLT, Int.reduceLE, Int.reduceAdd, Int.reduceSub, Int.reduceMul, Int.reduceNeg]
    · simp (disch := omega) only [B78_16, B78_17, c1, c2, if_false, GA, GR, GRc, GO, GI, GL, GV, am_w_i, am_ga, am_it, am_if, true_and, and_true, or_true, true_or, ne_eq, not_false_eq_true, not_true_eq_false, false_imp_iff, true_imp_iff, Int.reduceEq, Int.reduceLT, Int.reduceLE, Int.reduceAdd, Int.reduceSub, Int.reduceMul, Int.reduceNeg]
  · simp (disch := omega) only [B78_16, B78_17, c1, false_and, if_false, GA, GR, GRc, GO, GI, GL, GV, am_w_i, am_ga, am_it, am_if, true_and, and_true, or_true, true_or, ne_eq, not_false_eq_true, not_true_eq_false, false_imp_iff, true_imp_iff, Int.reduceEq, Int.reduceLT, Int.reduceLE, Int.reduceAdd, Int.reduceSub, Int.reduceMul, Int.reduceNeg]
def apd (I : (Nat → Int → Int)) (k s v p : Int) : (Nat → Int → Int) := am_up (am_up (am_up (am_up I 46 k s) 47 k v) 48 k p) 45 3 (k + 1)
theorem s79 {d : Nat} {w : Nat × Nat × Nat × Nat} {I L : Nat → Int → Int} {k s v p : Int} (hk : I 45 3 = k) (h0 : 0 ≤ k ∧ k ≤ 700) (Q : Option am_V → am_H → Prop) : am_Sp d 79 [vR (some 45), vI s, vI v, vI p] (mkH w I L) Q ↔ Q none (mkH w (apd I k s v p) L) := by
  rw [S79]
  unfold apd
  simp (disch := omega) only [KP, hk, B79_20, B79_30, B79_40, am_up_a, GA, GR, GRc, GO, GI, GL, GV, am_w_i, am_ga, am_it, am_if, true_and, and_true, or_true, true_or, ne_eq, not_false_eq_true, not_true_eq_false, false_imp_iff, true_imp_iff, Int.reduceEq, Int.reduceLT, Int.reduceLE, Int.reduceAdd, Int.reduceSub, Int.reduceMul, Int.reduceNeg]
theorem apd_a {I : (Nat → Int → Int)} {k s v p : Int} {a : Nat} (h1 : a ≠ 45) (h2 : a ≠ 46) (h3 : a ≠ 47) (h4 : a ≠ 48) : apd I k s v p a = I a := by
  unfold apd; rw [am_up_a _ _ _ _ h1, am_up_a _ _ _ _ h4, am_up_a _ _ _ _ h3, am_up_a _ _ _ _ h2]
theorem apd_s {I : (Nat → Int → Int)} {k s v p : Int} : apd I k s v p 46 k = s ∧ apd I k s v p 47 k = v ∧ apd I k s v p 48 k = p ∧ apd I k s v p 45 3 = k + 1 := by
  unfold apd am_up; simp
theorem apd_n {I : (Nat → Int → Int)} {k s v p i : Int} (h : i ≠ k) : apd I k s v p 46 i = I 46 i ∧ apd I k s v p 47 i = I 47 i ∧ apd I k s v p 48 i = I 48 i := by
  unfold apd am_up; simp [h]
theorem px_find_u {f : Int → Int} {x : Int} {j : Nat} : ∀ {m i : Nat}, i ≤ j → j < i + m → f j = x → (∀ a : Nat, i ≤ a → a < i + m → f a = x → a = j) → px_find f x m i = j
  | 0, i, h1, h2, _, _ => by omega
  | m + 1, i, h1, h2, h3, h4 => by
    rw [px_find]
    split
    · rename_i e; have := h4 i (by omega) (by omega) e; omega
    · rename_i e
      have : i ≠ j := fun y => e (by rw [y]; exact h3)
      exact px_find_u (by omega) (by omega) h3 (fun a a1 a2 => h4 a (by omega) (by omega))
theorem px_find_0 {f : Int → Int} {x : Int} : ∀ {m i : Nat}, (∀ a : Nat, i ≤ a → a < i + m → f a ≠ x) → px_find f x m i = -1
  | 0, i, _ => rfl
  | m + 1, i, h => by
    rw [px_find, if_neg (h i (by omega) (by omega))]
    exact px_find_0 (fun a a1 a2 => h a (by omega) (by omega))
set_option maxHeartbeats 1000000 in
theorem s80 {d : Nat} {w : Nat × Nat × Nat × Nat} {I L : Nat → Int → Int} {T : Int → Int} {n p k : Int} (hT : TB n T I) (hX : GX I) (hp : 0 ≤ p ∧ p < n) (hl : isL (T p)) (hk : I 45 3 = k) (h0 : 0 ≤ k ∧ k ≤ 700) {Q : Option am_V → am_H → Prop} (q : ∀ j s v kd wh, Wd T n p j s v kd wh → Q (some (vI (j - p))) (mkH w (apd I k s v p) L)) : am_Sp (d + 1) 80 [vR (some 45), vR (some 1), vI p, vI n] (mkH w I L) Q := by
  obtain ⟨m, m1, m2, m3⟩ := px_run (fun x => isL (T x)) n (n - p).toNat p (by omega)
  have n7 := hT.1
  have mp : 1 ≤ m := by
    rcases Nat.eq_zero_or_pos m with e | e
    · subst e; exact absurd (by simpa using hl) (m3 (by simp; omega))
    · exact e
  have lt : ∀ i : Nat, i < m → I 1 (p + i) = T (p + i) := fun i hi => by
    have := (hT.2 (p + i) (by omega) (by omega)).2
    have := m2 i hi
    unfold isL at this
    omega
  rw [S80]
  have pb := fun (i : Nat) (hi : i ≤ 6) (him : i ≤ m) => pkN_b (T := T) (p := p) (m := i) (fun x hx => m2 x (by omega))
  have e6 : ∀ i : Nat, i < 6 → min i 6 = i := fun i hi => by omega
  have key := am_loop (α := Unit) m (fun i _ => am_WP (d + 1) 80 9 [some (vR (some 45)), some (vR (some 1)), some (vI p), some (vI n), some (vI (pkN T p (min i 6))), some (vI (i : Int)), some (vI (p + i))] [] (mkH w I L) Q) (fun _ _ => True) (by
    intro i _ hi _ ih
    have z := ih () trivial
    have ti := m2 i hi
    unfold isL at ti
    have li := lt i hi
    rw [show ((i + 1 : Nat) : Int) = (i : Int) + 1 by omega, show p + ((i : Int) + 1) = p + i + 1 by omega] at z
    rw [B80_9]
    by_cases c : i < 6
    · have b1 := pb i (by omega) (by omega)
      have hx : pkN T p i < 33554432 := by
        rcases (show i = 0 ∨ i = 1 ∨ i = 2 ∨ i = 3 ∨ i = 4 ∨ i = 5 by omega) with rfl | rfl | rfl | rfl | rfl | rfl <;> omega
      rw [show min (i + 1) 6 = i + 1 by omega, pkN] at z
      rw [e6 i c]
      have e1 : T (p + i) - 97 + 1 = T (p + i) - 96 := by omega
      first | (simp (disch := omega) only [KX, s77, li, if_true, e1, am_so b1.1 hx, B80_51, GA, GR, GRc, GO, GI, GL, GV, am_w_i, am_ga, am_it, am_if, true_and, and_true, or_true, true_or, ne_eq, not_false_eq_true, not_true_eq_false, false_imp_iff, true_imp_iff, Int.reduceEq, Int.reduceLT, Int.reduceLE, Int.reduceAdd, Int.reduceSub, Int.reduceMul, Int.reduceNeg]; exact z) | simp (disch := omega) only [KX, s77, li, if_true, e1, am_so b1.1 hx, B80_51, z, GA, GR, GRc, GO, GI, GL, GV, am_w_i, am_ga, am_it, am_if, true_and, and_true, or_true, true_or, ne_eq, not_false_eq_true, not_true_eq_false, false_imp_iff, true_imp_iff, Int.reduceEq, Int.reduceLT, Int.reduceLE, Int.reduceAdd, Int.reduceSub, Int.reduceMul, Int.reduceNeg]
    · rw [show min (i + 1) 6 = 6 by omega] at z
      rw [show min i 6 = 6 by omega]
      first | (simp (disch := omega) only [KX, s77, li, if_true, B80_51, GA, GR, GRc, GO, GI, GL, GV, am_w_i, am_ga, am_it, am_if, true_and, and_true, or_true, true_or, ne_eq, not_false_eq_true, not_true_eq_false, false_imp_iff, true_imp_iff, Int.reduceEq, Int.reduceLT, Int.reduceLE, Int.reduceAdd, Int.reduceSub, Int.reduceMul, Int.reduceNeg]; exact z) | simp (disch := omega) only [KX, s77, li, if_true, B80_51, z, GA, GR, GRc, GO, GI, GL, GV, am_w_i, am_ga, am_it, am_if, true_and, and_true, or_true, true_or, ne_eq, not_false_eq_true, not_true_eq_false, false_imp_iff, true_imp_iff, Int.reduceEq, Int.reduceLT, Int.reduceLE, Int.reduceAdd, Int.reduceSub, Int.reduceMul, Int.reduceNeg]) (by
    intro _ _
    have k62 : am_WP (d + 1) 80 62 [some (vR (some 45)), some (vR (some 1)), some (vI p), some (vI n), some (vI (pkN T p (min m 6))), some (vI (m : Int)), some (vI (p + m))] [] (mkH w I L) Q := by
      rw [B80_62]
      by_cases c : m ≤ 6
      · have b1 := pb m c (Nat.le_refl _)
        rw [show min m 6 = m by omega]
        have sk := am_sk ⟨mp, c⟩ b1.1 b1.2
        have fw : ∀ j : Nat, j < 21 → I 49 j = cz_wd.getD j 0 := hX.1
        have z := fun s kd wh h => q (p + m) s (P6 T p m) kd wh ⟨m, mp, rfl, m1, m2, m3, Or.inr ⟨c, rfl, h⟩⟩
        rw [show p + (m : Int) - p = m by omega] at z
        have u92 : ∀ (d : Nat) (Q : Option am_V → am_H → Prop), am_Sp d 92 [vI (P6 T p m), vR (some 49), vI 21] (mkH w I L) Q ↔ Q (some (vI (px_find (I 49) (P6 T p m) 21 0))) (mkH w I L) := fun d Q => s92 (a := 49) (n := 21) (ln := 21) rfl rfl (by omega) (by omega) Q
        have sP : pkN T p m * 32 ^ (6 - m) = P6 T p m := rfl
        by_cases cw : ∃ k : Nat, k < 21 ∧ WK T p m k
        · obtain ⟨x, x1, x2⟩ := cw
          have z := z (100 + wpI x) 1 x (Or.inl ⟨x, x1, x2, rfl, rfl, rfl⟩)
          have wb := wpI_b x1
          have pw := (WK_iff x1 ⟨mp, c⟩ m2).1 x2
          have fd : px_find (I 49) (P6 T p m) 21 0 = (wpI x : Nat) := px_find_u (by omega) (by omega) (by rw [fw _ wb.1, pw]) (fun a a1 a2 a3 => by
            rw [fw a (by omega), pw] at a3
            exact cz_k4 a (by omega) _ wb.1 a3)
          first | (simp (disch := omega) only [KP, sk, sP, u92, fd, B80_119, s79 hk h0, GA, GR, GRc, GO, GI, GL, GV, am_w_i, am_ga, am_it, am_if, true_and, and_true, or_true, true_or, ne_eq, not_false_eq_true, not_true_eq_false, false_imp_iff, true_imp_iff, Int.reduceEq, Int.reduceLT, Int.reduceLE, Int.reduceAdd, Int.reduceSub, Int.reduceMul, Int.reduceNeg]; exact z) | simp (disch := omega) only [KP, sk, sP, u92, fd, B80_119, s79 hk h0, z, GA, GR, GRc, GO, GI, GL, GV, am_w_i, am_ga, am_it, am_if, true_and, and_true, or_true, true_or, ne_eq, not_false_eq_true, not_true_eq_false, false_imp_iff, true_imp_iff, Int.reduceEq, Int.reduceLT, Int.reduceLE, Int.reduceAdd, Int.reduceSub, Int.reduceMul, Int.reduceNeg]
        · have nw : ∀ x : Nat, x < 21 → ¬ WK T p m x := fun x hx y => cw ⟨x, hx, y⟩
          have z := z 2 2 _ (Or.inr ⟨nw, rfl, rfl, rfl⟩)
          have fd : px_find (I 49) (P6 T p m) 21 0 = -1 := px_find_0 (fun a a1 a2 e => by
            rw [fw a (by omega)] at e
            have wb := wpI_b (k := a) (by omega)
            refine nw (wpI a) wb.1 ((WK_iff wb.1 ⟨mp, c⟩ m2).2 ?_)
            rw [wb.2]; exact e.symm)
          first | (simp (disch := omega) only [KP, sk, sP, u92, fd, B80_119, s79 hk h0, GA, GR, GRc, GO, GI, GL, GV, am_w_i, am_ga, am_it, am_if, true_and, and_true, or_true, true_or, ne_eq, not_false_eq_true, not_true_eq_false, false_imp_iff, true_imp_iff, Int.reduceEq, Int.reduceLT, Int.reduceLE, Int.reduceAdd, Int.reduceSub, Int.reduceMul, Int.reduceNeg]; exact z) | simp (disch := omega) only [KP, sk, sP, u92, fd, B80_119, s79 hk h0, z, GA, GR, GRc, GO, GI, GL, GV, am_w_i, am_ga, am_it, am_if, true_and, and_true, or_true, true_or, ne_eq, not_false_eq_true, not_true_eq_false, false_imp_iff, true_imp_iff, Int.reduceEq, Int.reduceLT, Int.reduceLE, Int.reduceAdd, Int.reduceSub, Int.reduceMul, Int.reduceNeg]
      · have z := q (p + m) 1 0 6 (-1) ⟨m, mp, rfl, m1, m2, m3, Or.inl ⟨by omega, rfl, rfl, rfl⟩⟩
        rw [show p + (m : Int) - p = m by omega] at z
        first | (simp (disch := omega) only [KP, s79 hk h0, GA, GR, GRc, GO, GI, GL, GV, am_w_i, am_ga, am_it, am_if, true_and, and_true, or_true, true_or, ne_eq, not_false_eq_true, not_true_eq_false, false_imp_iff, true_imp_iff, Int.reduceEq, Int.reduceLT, Int.reduceLE, Int.reduceAdd, Int.reduceSub, Int.reduceMul, Int.reduceNeg]; exact z) | simp (disch := omega) only [KP, s79 hk h0, z, GA, GR, GRc, GO, GI, GL, GV, am_w_i, am_ga, am_it, am_if, true_and, and_true, or_true, true_or, ne_eq, not_false_eq_true, not_true_eq_false, false_imp_iff, true_imp_iff, Int.reduceEq, Int.reduceLT, Int.reduceLE, Int.reduceAdd, Int.reduceSub, Int.reduceMul, Int.reduceNeg]
    have z := k62
    rw [B80_9]
    by_cases c : n ≤ p + m
    · first | (simp (disch := omega) only [c, GA, GR, GRc, GO, GI, GL, GV, am_w_i, am_ga, am_it, am_if, true_and, and_true, or_true, true_or, ne_eq, not_false_eq_true, not_true_eq_false, false_imp_iff, true_imp_iff, Int.reduceEq, Int.reduceLT, Int.reduceLE, Int.reduceAdd, Int.reduceSub, Int.reduceMul, Int.reduceNeg]; exact z) | simp (disch := omega) only [c, z, GA, GR, GRc, GO, GI, GL, GV, am_w_i, am_ga, am_it, am_if, true_and, and_true, or_true, true_or, ne_eq, not_false_eq_true, not_true_eq_false, false_imp_iff, true_imp_iff, Int.reduceEq, Int.reduceLT, Int.reduceLE, Int.reduceAdd, Int.reduceSub, Int.reduceMul, Int.reduceNeg]
    · have ne := m3 (by omega)
      have hb := (hT.2 (p + m) (by omega) (by omega)).2
      have nl : ¬ (97 ≤ I 1 (p + m) ∧ I 1 (p + m) ≤ 122) := fun y => ne (by unfold isL; omega)
      first | (simp (disch := omega) only [c, KX, s77, nl, if_false, GA, GR, GRc, GO, GI, GL, GV, am_w_i, am_ga, am_it, am_if, true_and, and_true, or_true, true_or, ne_eq, not_false_eq_true, not_true_eq_false, false_imp_iff, true_imp_iff, Int.reduceEq, Int.reduceLT, Int.reduceLE, Int.reduceAdd, Int.reduceSub, Int.reduceMul, Int.reduceNeg]; exact z) | simp (disch := omega) only [c, KX, s77, nl, if_false, z, GA, GR, GRc, GO, GI, GL, GV, am_w_i, am_ga, am_it, am_if, true_and, and_true, or_true, true_or, ne_eq, not_false_eq_true, not_true_eq_false, false_imp_iff, true_imp_iff, Int.reduceEq, Int.reduceLT, Int.reduceLE, Int.reduceAdd, Int.reduceSub, Int.reduceMul, Int.reduceNeg])
  have k0 := key 0 () (Nat.zero_le _) trivial
  rw [show p + ((0 : Nat) : Int) = p by omega] at k0
  exact k0
set_option maxHeartbeats 1000000 in
theorem s81 {d : Nat} {w : Nat × Nat × Nat × Nat} {I L : Nat → Int → Int} {T : Int → Int} {n p k : Int} (hT : TB n T I) (hp : 0 ≤ p ∧ p < n) (hl : isD (T p)) (hk : I 45 3 = k) (h0 : 0 ≤ k ∧ k ≤ 700) {Q : Option am_V → am_H → Prop} (q : ∀ j s v kd wh, Nm T n p j s v kd wh → Q (some (vI (j - p))) (mkH w (apd I k s v p) L)) : am_Sp (d + 1) 81 [vR (some 45), vR (some 1), vI p, vI n] (mkH w I L) Q := by
  obtain ⟨m, m1, m2, m3⟩ := px_run (fun x => isD (T x)) n (n - p).toNat p (by omega)
  have n7 := hT.1
  have mp : 1 ≤ m := by
    rcases Nat.eq_zero_or_pos m with e | e
    · subst e; exact absurd (by simpa using hl) (m3 (by simp; omega))
    · exact e
  have lt : ∀ i : Nat, i < m → I 1 (p + i) = T (p + i) := fun i hi => by
    have := (hT.2 (p + i) (by omega) (by omega)).2
    have := m2 i hi
    unfold isD at this
    omega
  rw [S81]
  have key := am_loop (α := Unit) m (fun i _ => am_WP (d + 1) 81 9 [some (vR (some 45)), some (vR (some 1)), some (vI p), some (vI n), some (vI (nvC T p i)), some (vI (i : Int)), some (vI (p + i))] [] (mkH w I L) Q) (fun _ _ => True) (by
    intro i _ hi _ ih
    have z := ih () trivial
    have ti := m2 i hi
    unfold isD at ti
    have li := lt i hi
    have nb := nv_r (T := T) (p := p) (m := i) (fun x hx => m2 x (by omega))
    unfold NR at nb
    rw [show ((i + 1 : Nat) : Int) = (i : Int) + 1 by omega, show p + ((i : Int) + 1) = p + i + 1 by omega, nvC] at z
    rw [B81_9]
    first | (simp (disch := omega) only [KX, s78, li, if_true, GA, GR, GRc, GO, GI, GL, GV, am_w_i, am_ga, am_it, am_if, true_and, and_true, or_true, true_or, ne_eq, not_false_eq_true, not_true_eq_false, false_imp_iff, true_imp_iff, Int.reduceEq, Int.reduceLT, Int.reduceLE, Int.reduceAdd, Int.reduceSub, Int.reduceMul, Int.reduceNeg]; exact z) | simp (disch := omega) only [KX, s78, li, if_true, z, GA, GR, GRc, GO, GI, GL, GV, am_w_i, am_ga, am_it, am_if, true_and, and_true, or_true, true_or, ne_eq, not_false_eq_true, not_true_eq_false, false_imp_iff, true_imp_iff, Int.reduceEq, Int.reduceLT, Int.reduceLE, Int.reduceAdd, Int.reduceSub, Int.reduceMul, Int.reduceNeg]) (by
    intro _ _
    have z := q (p + m) 3 _ 3 _ ⟨m, mp, rfl, m1, m2, m3, rfl, rfl, rfl, rfl⟩
    rw [show p + (m : Int) - p = m by omega] at z
    rw [B81_9]
    by_cases c : n ≤ p + m
    · first | (simp (disch := omega) only [c, B81_54, KP, s79 hk h0, GA, GR, GRc, GO, GI, GL, GV, am_w_i, am_ga, am_it, am_if, true_and, and_true, or_true, true_or, ne_eq, not_false_eq_true, not_true_eq_false, false_imp_iff, true_imp_iff, Int.reduceEq, Int.reduceLT, Int.reduceLE, Int.reduceAdd, Int.reduceSub, Int.reduceMul, Int.reduceNeg]; exact z) | simp (disch := omega) only [c, B81_54, KP, s79 hk h0, z, GA, GR, GRc, GO, GI, GL, GV, am_w_i, am_ga, am_it, am_if, true_and, and_true, or_true, true_or, ne_eq, not_false_eq_true, not_true_eq_false, false_imp_iff, true_imp_iff, Int.reduceEq, Int.reduceLT, Int.reduceLE, Int.reduceAdd, Int.reduceSub, Int.reduceMul, Int.reduceNeg]
    · have ne := m3 (by omega)
      have hb := (hT.2 (p + m) (by omega) (by omega)).2
      have nl : ¬ (48 ≤ I 1 (p + m) ∧ I 1 (p + m) ≤ 57) := fun y => ne (by unfold isD; omega)
      first | (simp (disch := omega) only [c, KX, s78, nl, if_false, B81_54, KP, s79 hk h0, GA, GR, GRc, GO, GI, GL, GV, am_w_i, am_ga, am_it, am_if, true_and, and_true, or_true, true_or, ne_eq, not_false_eq_true, not_true_eq_false, false_imp_iff, true_imp_iff, Int.reduceEq, Int.reduceLT, Int.reduceLE, Int.reduceAdd, Int.reduceSub, Int.reduceMul, Int.reduceNeg]; exact z) | simp (disch := omega) only [c, KX, s78, nl, if_false, B81_54, KP, s79 hk h0, z, GA, GR, GRc, GO, GI, GL, GV, am_w_i, am_ga, am_it, am_if, true_and, and_true, or_true, true_or, ne_eq, not_false_eq_true, not_true_eq_false, false_imp_iff, true_imp_iff, Int.reduceEq, Int.reduceLT, Int.reduceLE, Int.reduceAdd, Int.reduceSub, Int.reduceMul, Int.reduceNeg])
  have k0 := key 0 () (Nat.zero_le _) trivial
  rw [show p + ((0 : Nat) : Int) = p by omega] at k0
  exact k0
