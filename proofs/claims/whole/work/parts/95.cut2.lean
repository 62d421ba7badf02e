/-! 95: the class cuts signs -/
theorem am_same (a X : Prop) : ((a → X) ∧ (¬ a → X)) ↔ X := ⟨fun h => by by_cases c : a; exact h.1 c; exact h.2 c, fun h => ⟨fun _ => h, fun _ => h⟩⟩
def sgS (c : Int) : Prop := c = 40 ∨ c = 41 ∨ c = 42 ∨ c = 43 ∨ c = 45 ∨ c = 47 ∨ c = 59 ∨ c = 60 ∨ c = 61 ∨ c = 62
theorem s83 {d : Nat} {h : am_H} {c : Int} {Q : Option am_V → am_H → Prop} (q1 : sgS c → Q (some (vI 1)) h) (q2 : ¬ sgS c → Q (some (vI 0)) h) : am_Sp d 83 [vI c] h Q := by
  rw [S83]
  by_cases k : sgS c
  · have z := q1 k
    clear q1 q2
    rcases k with rfl | rfl | rfl | rfl | rfl | rfl | rfl | rfl | rfl | rfl <;> simp [z]
  · have z := q2 k
    clear q1 q2
    unfold sgS at k
    have h1 : ¬ c = 40 := fun e => k (by omega)
    have h2 : ¬ c = 41 := fun e => k (by omega)
    have h3 : ¬ c = 42 := fun e => k (by omega)
    have h4 : ¬ c = 43 := fun e => k (by omega)
    have h5 : ¬ c = 45 := fun e => k (by omega)
    have h6 : ¬ c = 47 := fun e => k (by omega)
    have h7 : ¬ c = 59 := fun e => k (by omega)
    have h8 : ¬ c = 60 := fun e => k (by omega)
    have h9 : ¬ c = 61 := fun e => k (by omega)
    have h0 : ¬ c = 62 := fun e => k (by omega)
    simp only [h1, h2, h3, h4, h5, h6, h7, h8, h9, h0, false_imp_iff, not_false_eq_true, true_imp_iff, true_and, true_or, am_same, z]
theorem c84 {d : Nat} {w : Nat × Nat × Nat × Nat} {I L : Nat → Int → Int} {p n k b nx : Int} (hk : I 45 3 = k) (h0 : 0 ≤ k ∧ k ≤ 700) {Q : Option am_V → am_H → Prop} (y1 : sgS b → Q (some (vI 1)) (mkH w (apd I k b 0 p) L)) (y2 : ¬ sgS b → Q (some (vI 1)) (mkH w (apd I k 1 0 p) L)) : am_WP (d + 1) 82 84 [some (vR (some 45)), some (vR (some 1)), some (vI p), some (vI n), some (vI b), some (vI nx), some (vI 1)] [] (mkH w I L) Q := by
  rw [B82_84]
  simp (disch := omega) only [GA, GR, GRc, GO, GI, GL, GV, am_w_i, am_ga, am_it, am_if, true_and, and_true, or_true, true_or, ne_eq, not_false_eq_true, not_true_eq_false, false_imp_iff, true_imp_iff, Int.reduceEq, Int.reduceLT, Int.reduceLE, Int.reduceAdd, Int.reduceSub, Int.reduceMul, Int.reduceNeg]
  refine s83 (fun c => ?_) (fun c => ?_)
  · have z := y1 c
    first | (simp (disch := omega) only [B82_115, KP, s79 hk h0, GA, GR, GRc, GO, GI, GL, GV, am_w_i, am_ga, am_it, am_if, true_and, and_true, or_true, true_or, ne_eq, not_false_eq_true, not_true_eq_false, false_imp_iff, true_imp_iff, Int.reduceEq, Int.reduceLT, Int.reduceLE, Int.reduceAdd, Int.reduceSub, Int.reduceMul, Int.reduceNeg]; exact z) | simp (disch := omega) only [B82_115, KP, s79 hk h0, z, GA, GR, GRc, GO, GI, GL, GV, am_w_i, am_ga, am_it, am_if, true_and, and_true, or_true, true_or, ne_eq, not_false_eq_true, not_true_eq_false, false_imp_iff, true_imp_iff, Int.reduceEq, Int.reduceLT, Int.reduceLE, Int.reduceAdd, Int.reduceSub, Int.reduceMul, Int.reduceNeg]
  · have z := y2 c
    first | (simp (disch := omega) only [B82_115, KP, s79 hk h0, GA, GR, GRc, GO, GI, GL, GV, am_w_i, am_ga, am_it, am_if, true_and, and_true, or_true, true_or, ne_eq, not_false_eq_true, not_true_eq_false, false_imp_iff, true_imp_iff, Int.reduceEq, Int.reduceLT, Int.reduceLE, Int.reduceAdd, Int.reduceSub, Int.reduceMul, Int.reduceNeg]; exact z) | simp (disch := omega) only [B82_115, KP, s79 hk h0, z, GA, GR, GRc, GO, GI, GL, GV, am_w_i, am_ga, am_it, am_if, true_and, and_true, or_true, true_or, ne_eq, not_false_eq_true, not_true_eq_false, false_imp_iff, true_imp_iff, Int.reduceEq, Int.reduceLT, Int.reduceLE, Int.reduceAdd, Int.reduceSub, Int.reduceMul, Int.reduceNeg]
theorem c21 {d : Nat} {w : Nat × Nat × Nat × Nat} {I L : Nat → Int → Int} {p n k b nx : Int} (hk : I 45 3 = k) (h0 : 0 ≤ k ∧ k ≤ 700) {Q : Option am_V → am_H → Prop} (qA : b = 60 → nx = 61 → Q (some (vI 2)) (mkH w (apd I k 4 0 p) L)) (qB : b = 62 → nx = 61 → Q (some (vI 2)) (mkH w (apd I k 6 0 p) L)) (qC : b = 60 → nx = 62 → Q (some (vI 2)) (mkH w (apd I k 5 0 p) L)) (y : ¬ (b = 60 ∧ nx = 61) → ¬ (b = 62 ∧ nx = 61) → ¬ (b = 60 ∧ nx = 62) → am_WP (d + 1) 82 84 [some (vR (some 45)), some (vR (some 1)), some (vI p), some (vI n), some (vI b), some (vI nx), some (vI 1)] [] (mkH w I L) Q) : am_WP (d + 1) 82 21 [some (vR (some 45)), some (vR (some 1)), some (vI p), some (vI n), some (vI b), none, none] [vI nx] (mkH w I L) Q := by
  rw [B82_21]
  by_cases b6 : b = 60
  · subst b6
    by_cases n1 : nx = 61
    · subst n1
      have z := qA rfl rfl
      clear qA qB qC y
      first | (simp (disch := omega) only [B82_84, KP, s79 hk h0, GA, GR, GRc, GO, GI, GL, GV, am_w_i, am_ga, am_it, am_if, true_and, and_true, or_true, true_or, ne_eq, not_false_eq_true, not_true_eq_false, false_imp_iff, true_imp_iff, Int.reduceEq, Int.reduceLT, Int.reduceLE, Int.reduceAdd, Int.reduceSub, Int.reduceMul, Int.reduceNeg]; exact z) | simp (disch := omega) only [B82_84, KP, s79 hk h0, z, GA, GR, GRc, GO, GI, GL, GV, am_w_i, am_ga, am_it, am_if, true_and, and_true, or_true, true_or, ne_eq, not_false_eq_true, not_true_eq_false, false_imp_iff, true_imp_iff, Int.reduceEq, Int.reduceLT, Int.reduceLE, Int.reduceAdd, Int.reduceSub, Int.reduceMul, Int.reduceNeg]
    · by_cases n2 : nx = 62
      · subst n2
        have z := qC rfl rfl
        clear qA qB qC y
        first | (simp (disch := omega) only [B82_46, B82_67, B82_84, KP, s79 hk h0, GA, GR, GRc, GO, GI, GL, GV, am_w_i, am_ga, am_it, am_if, true_and, and_true, or_true, true_or, ne_eq, not_false_eq_true, not_true_eq_false, false_imp_iff, true_imp_iff, Int.reduceEq, Int.reduceLT, Int.reduceLE, Int.reduceAdd, Int.reduceSub, Int.reduceMul, Int.reduceNeg]; exact z) | simp (disch := omega) only [B82_46, B82_67, B82_84, KP, s79 hk h0, z, GA, GR, GRc, GO, GI, GL, GV, am_w_i, am_ga, am_it, am_if, true_and, and_true, or_true, true_or, ne_eq, not_false_eq_true, not_true_eq_false, false_imp_iff, true_imp_iff, Int.reduceEq, Int.reduceLT, Int.reduceLE, Int.reduceAdd, Int.reduceSub, Int.reduceMul, Int.reduceNeg]
      · have z := y (fun e => n1 e.2) (by omega) (fun e => n2 e.2)
        clear qA qB qC y
        first | (simp (disch := omega) only [n1, n2, B82_46, B82_67, GA, GR, GRc, GO, GI, GL, GV, am_w_i, am_ga, am_it, am_if, true_and, and_true, or_true, true_or, ne_eq, not_false_eq_true, not_true_eq_false, false_imp_iff, true_imp_iff, Int.reduceEq, Int.reduceLT, Int.reduceLE, Int.reduceAdd, Int.reduceSub, Int.reduceMul, Int.reduceNeg]; exact z) | simp (disch := omega) only [n1, n2, B82_46, B82_67, z, GA, GR, GRc, GO, GI, GL, GV, am_w_i, am_ga, am_it, am_if, true_and, and_true, or_true, true_or, ne_eq, not_false_eq_true, not_true_eq_false, false_imp_iff, true_imp_iff, Int.reduceEq, Int.reduceLT, Int.reduceLE, Int.reduceAdd, Int.reduceSub, Int.reduceMul, Int.reduceNeg]
  · by_cases b2 : b = 62
    · subst b2
      by_cases n1 : nx = 61
      · subst n1
        have z := qB rfl rfl
        clear qA qB qC y
        first | (simp (disch := omega) only [B82_46, B82_84, KP, s79 hk h0, GA, GR, GRc, GO, GI, GL, GV, am_w_i, am_ga, am_it, am_if, true_and, and_true, or_true, true_or, ne_eq, not_false_eq_true, not_true_eq_false, false_imp_iff, true_imp_iff, Int.reduceEq, Int.reduceLT, Int.reduceLE, Int.reduceAdd, Int.reduceSub, Int.reduceMul, Int.reduceNeg]; exact z) | simp (disch := omega) only [B82_46, B82_84, KP, s79 hk h0, z, GA, GR, GRc, GO, GI, GL, GV, am_w_i, am_ga, am_it, am_if, true_and, and_true, or_true, true_or, ne_eq, not_false_eq_true, not_true_eq_false, false_imp_iff, true_imp_iff, Int.reduceEq, Int.reduceLT, Int.reduceLE, Int.reduceAdd, Int.reduceSub, Int.reduceMul, Int.reduceNeg]
      · have z := y (by omega) (fun e => n1 e.2) (by omega)
        clear qA qB qC y
        first | (simp (disch := omega) only [n1, B82_46, B82_67, am_same, GA, GR, GRc, GO, GI, GL, GV, am_w_i, am_ga, am_it, am_if, true_and, and_true, or_true, true_or, ne_eq, not_false_eq_true, not_true_eq_false, false_imp_iff, true_imp_iff, Int.reduceEq, Int.reduceLT, Int.reduceLE, Int.reduceAdd, Int.reduceSub, Int.reduceMul, Int.reduceNeg]; exact z) | simp (disch := omega) only [n1, B82_46, B82_67, am_same, z, GA, GR, GRc, GO, GI, GL, GV, am_w_i, am_ga, am_it, am_if, true_and, and_true, or_true, true_or, ne_eq, not_false_eq_true, not_true_eq_false, false_imp_iff, true_imp_iff, Int.reduceEq, Int.reduceLT, Int.reduceLE, Int.reduceAdd, Int.reduceSub, Int.reduceMul, Int.reduceNeg]
    · have z := y (fun e => b6 e.1) (fun e => b2 e.1) (fun e => b6 e.1)
      clear qA qB qC y
      first | (simp (disch := omega) only [b6, b2, B82_46, B82_67, am_same, GA, GR, GRc, GO, GI, GL, GV, am_w_i, am_ga, am_it, am_if, true_and, and_true, or_true, true_or, ne_eq, not_false_eq_true, not_true_eq_false, false_imp_iff, true_imp_iff, Int.reduceEq, Int.reduceLT, Int.reduceLE, Int.reduceAdd, Int.reduceSub, Int.reduceMul, Int.reduceNeg]; exact z) | simp (disch := omega) only [b6, b2, B82_46, B82_67, am_same, z, GA, GR, GRc, GO, GI, GL, GV, am_w_i, am_ga, am_it, am_if, true_and, and_true, or_true, true_or, ne_eq, not_false_eq_true, not_true_eq_false, false_imp_iff, true_imp_iff, Int.reduceEq, Int.reduceLT, Int.reduceLE, Int.reduceAdd, Int.reduceSub, Int.reduceMul, Int.reduceNeg]
theorem Sg_s {T : Int → Int} {n p : Int} (hs : sgS (T p)) (nop : p + 1 < n → ¬ (T p = 60 ∧ T (p + 1) = 61) ∧ ¬ (T p = 62 ∧ T (p + 1) = 61) ∧ ¬ (T p = 60 ∧ T (p + 1) = 62)) : ∃ kd wh, Sg T n p (p + 1) (T p) kd wh := by
  have e : T p = 60 ∨ T p = 61 ∨ T p = 62 ∨ (T p = 59 ∨ T p = 40 ∨ T p = 41 ∨ T p = 43 ∨ T p = 45 ∨ T p = 42 ∨ T p = 47) := by
    clear nop; unfold sgS at hs
    rcases hs with h | h | h | h | h | h | h | h | h | h <;> simp [h]
  rcases e with e | e | e | e
  · exact ⟨5, 0, Or.inr (Or.inr (Or.inr ⟨nop, rfl, Or.inl ⟨e, e, rfl, rfl⟩⟩))⟩
  · exact ⟨5, 2, Or.inr (Or.inr (Or.inr ⟨nop, rfl, Or.inr (Or.inl ⟨e, e, rfl, rfl⟩)⟩))⟩
  · exact ⟨5, 5, Or.inr (Or.inr (Or.inr ⟨nop, rfl, Or.inr (Or.inr (Or.inl ⟨e, e, rfl, rfl⟩))⟩))⟩
  · exact ⟨4, T p, Or.inr (Or.inr (Or.inr ⟨nop, rfl, Or.inr (Or.inr (Or.inr (Or.inl ⟨e, rfl, rfl, rfl⟩)))⟩))⟩
theorem Sg_b {T : Int → Int} {n p : Int} (hs : ¬ sgS (T p)) (nop : p + 1 < n → ¬ (T p = 60 ∧ T (p + 1) = 61) ∧ ¬ (T p = 62 ∧ T (p + 1) = 61) ∧ ¬ (T p = 60 ∧ T (p + 1) = 62)) : ∃ kd wh, Sg T n p (p + 1) 1 kd wh := by
  unfold sgS at hs
  by_cases e : T p = 37
  · exact ⟨4, 37, Or.inr (Or.inr (Or.inr ⟨nop, rfl, Or.inr (Or.inr (Or.inr (Or.inr (Or.inl ⟨e, rfl, rfl, rfl⟩))))⟩))⟩
  · refine ⟨6, T p, Or.inr (Or.inr (Or.inr ⟨nop, rfl, Or.inr (Or.inr (Or.inr (Or.inr (Or.inr ⟨?_, e, ?_, ?_, ?_, ?_, rfl, rfl, rfl⟩))))⟩))⟩ <;> clear nop <;> omega
theorem s82 {d : Nat} {w : Nat × Nat × Nat × Nat} {I L : Nat → Int → Int} {T : Int → Int} {n p k : Int} (hT : TB n T I) (hp : 0 ≤ p ∧ p < n) (hk : I 45 3 = k) (h0 : 0 ≤ k ∧ k ≤ 700) {Q : Option am_V → am_H → Prop} (q : ∀ j s v kd wh, Sg T n p j s kd wh → Q (some (vI (j - p))) (mkH w (apd I k s v p) L)) : am_Sp (d + 1) 82 [vR (some 45), vR (some 1), vI p, vI n] (mkH w I L) Q := by
  have n7 := hT.1
  have tp := hT.2 p hp.1 hp.2
  have two : ∀ s kd wh, Sg T n p (p + 2) s kd wh → Q (some (vI 2)) (mkH w (apd I k s 0 p) L) := fun s kd wh h => by
    have := q (p + 2) s 0 kd wh h; rwa [show p + 2 - p = 2 by omega] at this
  have one : ∀ s, (∃ kd wh, Sg T n p (p + 1) s kd wh) → Q (some (vI 1)) (mkH w (apd I k s 0 p) L) := fun s h => by
    obtain ⟨kd, wh, h⟩ := h
    have := q (p + 1) s 0 kd wh h; rwa [show p + 1 - p = 1 by omega] at this
  have k84 : ∀ nx, (p + 1 < n → ¬ (T p = 60 ∧ T (p + 1) = 61) ∧ ¬ (T p = 62 ∧ T (p + 1) = 61) ∧ ¬ (T p = 60 ∧ T (p + 1) = 62)) → am_WP (d + 1) 82 84 [some (vR (some 45)), some (vR (some 1)), some (vI p), some (vI n), some (vI (I 1 p)), some (vI nx), some (vI 1)] [] (mkH w I L) Q := by
    intro nx nop
    refine c84 hk h0 (fun c => ?_) (fun c => ?_)
    · have eT : I 1 p = T p := by
        rcases tp.2 with e | e
        · exact e.1
        · unfold sgS at c; omega
      rw [eT] at c ⊢
      exact one _ (Sg_s c nop)
    · refine one _ (Sg_b (fun y => c ?_) nop)
      rcases tp.2 with e | e
      · rw [e.1]; exact y
      · unfold sgS at y; omega
  rw [S82]
  by_cases c : p + 1 < n
  · have tx := (hT.2 (p + 1) (by omega) c).2
    have ex : ∀ x : Int, x ≤ 127 → 0 ≤ x → (I 1 (p + 1) = x ↔ T (p + 1) = x) := fun x _ _ => by omega
    have ep : ∀ x : Int, x ≤ 127 → 0 ≤ x → (I 1 p = x ↔ T p = x) := fun x _ _ => by omega
    have z : am_WP (d + 1) 82 21 [some (vR (some 45)), some (vR (some 1)), some (vI p), some (vI n), some (vI (I 1 p)), none, none] [vI (I 1 (p + 1))] (mkH w I L) Q := by
      refine c21 hk h0 (fun e1 e2 => ?_) (fun e1 e2 => ?_) (fun e1 e2 => ?_) (fun e1 e2 e3 => ?_)
      · exact two 4 5 1 (Or.inl ⟨⟨c, (ep 60 (by decide) (by decide)).1 e1, (ex 61 (by decide) (by decide)).1 e2⟩, rfl, rfl, rfl, rfl⟩)
      · exact two 6 5 4 (Or.inr (Or.inl ⟨⟨c, (ep 62 (by decide) (by decide)).1 e1, (ex 61 (by decide) (by decide)).1 e2⟩, rfl, rfl, rfl, rfl⟩))
      · exact two 5 5 3 (Or.inr (Or.inr (Or.inl ⟨⟨c, (ep 60 (by decide) (by decide)).1 e1, (ex 62 (by decide) (by decide)).1 e2⟩, rfl, rfl, rfl, rfl⟩)))
      · rw [ep 60 (by decide) (by decide), ex 61 (by decide) (by decide)] at e1
        rw [ep 62 (by decide) (by decide), ex 61 (by decide) (by decide)] at e2
        rw [ep 60 (by decide) (by decide), ex 62 (by decide) (by decide)] at e3
        exact k84 _ (fun _ => ⟨e1, e2, e3⟩)
    clear two one k84 ex ep tx tp q
    first | (simp (disch := omega) only [KX, GA, GR, GRc, GO, GI, GL, GV, am_w_i, am_ga, am_it, am_if, true_and, and_true, or_true, true_or, ne_eq, not_false_eq_true, not_true_eq_false, false_imp_iff, true_imp_iff, Int.reduceEq, Int.reduceLT, Int.reduceLE, Int.reduceAdd, Int.reduceSub, Int.reduceMul, Int.reduceNeg]; exact z) | simp (disch := omega) only [KX, z, GA, GR, GRc, GO, GI, GL, GV, am_w_i, am_ga, am_it, am_if, true_and, and_true, or_true, true_or, ne_eq, not_false_eq_true, not_true_eq_false, false_imp_iff, true_imp_iff, Int.reduceEq, Int.reduceLT, Int.reduceLE, Int.reduceAdd, Int.reduceSub, Int.reduceMul, Int.reduceNeg]
  · have z : am_WP (d + 1) 82 21 [some (vR (some 45)), some (vR (some 1)), some (vI p), some (vI n), some (vI (I 1 p)), none, none] [vI 0] (mkH w I L) Q := by
      refine c21 hk h0 (fun e1 e2 => ?_) (fun e1 e2 => ?_) (fun e1 e2 => ?_) (fun e1 e2 e3 => ?_)
      · omega
      · omega
      · omega
      · exact k84 _ (fun y => absurd y c)
    clear two one k84 tp q
    first | (simp (disch := omega) only [KX, GA, GR, GRc, GO, GI, GL, GV, am_w_i, am_ga, am_it, am_if, true_and, and_true, or_true, true_or, ne_eq, not_false_eq_true, not_true_eq_false, false_imp_iff, true_imp_iff, Int.reduceEq, Int.reduceLT, Int.reduceLE, Int.reduceAdd, Int.reduceSub, Int.reduceMul, Int.reduceNeg]; exact z) | simp (disch := omega) only [KX, z, GA, GR, GRc, GO, GI, GL, GV, am_w_i, am_ga, am_it, am_if, true_and, and_true, or_true, true_or, ne_eq, not_false_eq_true, not_true_eq_false, false_imp_iff, true_imp_iff, Int.reduceEq, Int.reduceLT, Int.reduceLE, Int.reduceAdd, Int.reduceSub, Int.reduceMul, Int.reduceNeg]
