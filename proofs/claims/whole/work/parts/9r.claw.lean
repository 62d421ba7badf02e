/-! 9r: the line law, a line: the class -/
def lw0 (X : (Nat → Int → Int)) (l : Int) : (Nat → Int → Int) := am_up (am_up (am_up (am_up X 17 l (X 0 6)) 0 8 0) 0 9 0) 0 10 0
def lwE (s : Nat → Int) (X : (Nat → Int → Int)) (l : Int) (r : Int × Nat × (Nat → Int → Int)) : Int × Nat × (Nat → Int → Int) := if r.1 = 0 then endF s r.2.1 (am_up r.2.2 18 l (r.2.2 0 6)) else (r.1, r.2.1, X)
def lwF (s u : Nat → Int) (K : Nat) (X : (Nat → Int → Int)) (k : Nat) : Int × Nat × (Nat → Int → Int) := if 108 ≤ s (k + 1) ∧ s (k + 1) ≤ 110 then (if X 17 (s (k + 1) - 108) < 0 then lwE s X (s (k + 1) - 108) (vlF s u (K - (k + 1)) (lw0 X (s (k + 1) - 108)) 1 (k + 2)) else (3, k + 1, X)) else (1, k + 1, X)
set_option maxHeartbeats 2000000 in
theorem s42 {d : Nat} {w : Nat × Nat × Nat × Nat} {I L : Nat → Int → Int} {s u pl : Nat → Int} {K k : Nat} {X : (Nat → Int → Int)} (hT : cT s u pl K I) (hu : TU s u K) (hW : isW w.2.2.1) (hX : PX w I X) (h4 : X 0 4 = X 0 6) (h6 : 0 ≤ X 0 6 ∧ X 0 6 ≤ 64) (h3 : I 44 3 = k) (hk : k < K) {Q : Option am_V → am_H → Prop} (q : LCo w I pl L (lwF s u K X k) Q) : am_Sp (d + 4) 42 [vR (some 44)] (mkH w I L) Q := by
  have hl := isW_le hW
  have hK := hu.2.1
  have h0 := hu.1
  obtain ⟨t1, t2, t3⟩ := hT (k + 1) hk
  have ek : ((k + 1 : Nat) : Int) = (k : Int) + 1 := by omega
  rw [ek] at t1
  have e17 : I (w.2.2.1 + 17) = X 17 := hX.2.2.2.2.1
  have e6 : I (w.2.2.1 + 15) 1 = X 0 6 := hX.1.2.2.2.2.2
  have F0 : CS I (am_up I 44 3 ((k : Int) + 1)) := CS.rf.up (by decide)
  have t46 : am_up I 44 3 ((k : Int) + 1) 46 ((k : Int) + 1) = s (k + 1) := by rw [am_up_a _ _ _ _ (by decide)]; exact t1
  have bad : ∀ f : Int, f ≠ 0 → lwF s u K X k = (f, k + 1, X) → Q (some (vI 0)) (mkH w (am_up (am_up (am_up I 44 3 ((k : Int) + 1)) 44 0 f) 44 1 (pl (k + 1))) L) := fun f hf e => by
    rw [e] at q
    exact q.2 _ (((CW.rf.up (Or.inl rfl)).up (Or.inl rfl)).up (Or.inl rfl)) hf (by rw [am_up_n _ _ _ _ (by decide), am_up_s]) (am_up_s _ _ _ _)
  have s27' : ∀ f Q, am_Sp (d + 3) 27 [vR (some 44), vI f, vI ((k : Int) + 1)] (mkH w (am_up I 44 3 ((k : Int) + 1)) L) Q ↔ Q (some (vI 0)) (mkH w (am_up (am_up (am_up I 44 3 ((k : Int) + 1)) 44 0 f) 44 1 (pl (k + 1))) L) := fun f Q => by
    have := s27 (d := d + 3) (w := w) (L := L) (f := f) (hT.cf F0) hk hK Q
    rw [ek] at this; exact this
  rw [S42]
  by_cases c1 : 108 ≤ s (k + 1) ∧ s (k + 1) ≤ 110
  · by_cases c2 : X 17 (s (k + 1) - 108) < 0
    · have e : lwF s u K X k = lwE s X (s (k + 1) - 108) (vlF s u (K - (k + 1)) (lw0 X (s (k + 1) - 108)) 1 (k + 2)) := by unfold lwF; rw [if_pos c1, if_pos c2]
      rw [e] at q
      have kK := rd_k h0 hk (show s (k + 1) ≠ 0 by omega)
      clear bad s27' e
      have e17' : am_up I 44 3 ((k : Int) + 1) (w.2.2.1 + 17) = X 17 := by rw [am_up_a _ _ _ _ (by omega)]; exact e17
      obtain ⟨l, hl2⟩ : ∃ l : Int, s (k + 1) - 108 = l := ⟨_, rfl⟩
      have sl : s (k + 1) = 108 + l := by omega
      rw [hl2] at q c2
      have l0 : 0 ≤ l ∧ l < 3 := by omega
      have told : ∀ Q, am_Sp (d + 3) 14 [vR (some (w.2.2.1 + 15)), vI l] (mkH w (am_up I 44 3 ((k : Int) + 1)) L) Q ↔ Q (some (vI 0)) (mkH w (am_up I 44 3 ((k : Int) + 1)) L) := fun Q => by rw [s14 hW l0, e17', if_pos c2]
      have lm : 108 + l - 108 = l := by omega
      have kk : (k : Int) + 1 + 1 = ((k + 2 : Nat) : Int) := by omega
      have F5 : CW w I (am_up (am_up (am_up (am_up (am_up I 44 3 ((k : Int) + 1)) 44 3 ((k : Int) + 1 + 1)) (w.2.2.1 + 17) l (X 0 6)) 44 8 0) 44 9 0) := ((((CW.rf.up (Or.inl rfl)).up (Or.inl rfl)).up (by omega)).up (Or.inl rfl)).up (Or.inl rfl)
      have X5 : EC w (am_up (am_up (am_up (am_up (am_up I 44 3 ((k : Int) + 1)) 44 3 ((k : Int) + 1 + 1)) (w.2.2.1 + 17) l (X 0 6)) 44 8 0) 44 9 0) (lw0 X l) := by
        have p1 : PX w (am_up (am_up I 44 3 ((k : Int) + 1)) 44 3 ((k : Int) + 1 + 1)) X := hX.cf hW (F0.up (by decide))
        have p2 := (p1.l (a := 17) (j := l) (v := X 0 6) hW (by decide) (by decide))
        unfold lw0
        refine ⟨PX.z (PX.z (PX.z (p2.f2 hW (fun a ha => by rw [am_up_a _ _ _ _ (by omega), am_up_a _ _ _ _ (by omega)]) (fun j hj => by rw [am_up_n _ _ _ _ (by omega), am_up_n _ _ _ _ (by omega)])) (by decide)) (by decide)) (by decide), ⟨?_, ?_⟩, fun j j0 j1 => ?_⟩
        · rw [am_up_n _ 44 _ _ (by decide), am_up_s, am_up_n _ _ _ _ (by decide), am_up_n _ _ _ _ (by decide), am_up_s]
        · rw [am_up_s, am_up_s]
        · rw [am_up_n _ _ _ _ (by decide), am_up_n _ _ _ _ (by decide), am_up_s] at j1; omega
      have I5 : EI (X 0 6) 1 (lw0 X l) := by
        have z6 : lw0 X l 0 6 = X 0 6 := by unfold lw0; simp (disch := decide) only [am_up_a, am_up_n]
        have z4 : lw0 X l 0 4 = X 0 4 := by unfold lw0; simp (disch := decide) only [am_up_a, am_up_n]
        exact EI.st h6.1 z6 (by unfold lw0; simp (disch := decide) only [am_up_a, am_up_n, am_up_s]) (by unfold lw0; simp (disch := decide) only [am_up_a, am_up_n, am_up_s]) (by unfold lw0; simp (disch := decide) only [am_up_a, am_up_n, am_up_s]) (by omega) (by omega)
      have a5 : (am_up (am_up (am_up (am_up (am_up I 44 3 ((k : Int) + 1)) 44 3 ((k : Int) + 1 + 1)) (w.2.2.1 + 17) l (X 0 6)) 44 8 0) 44 9 0) 44 3 = ((k + 2 : Nat) : Int) := by
        rw [am_up_n _ _ _ _ (by decide), am_up_n _ _ _ _ (by decide), am_up_a _ _ _ _ (by omega), am_up_s]; omega
      have T5 := hT.cw hW F5
      have g6 : am_up (am_up I 44 3 ((k : Int) + 1)) 44 3 ((k : Int) + 1 + 1) (w.2.2.1 + 15) 1 = X 0 6 := by rw [am_up_a _ _ _ _ (by omega), am_up_a _ _ _ _ (by omega)]; exact e6
      simp (disch := omega) only [KP, h3, B42_10, am_up_s, t46, sl, HW hW, lm, told, B42_84, g6, B42_106, S43, B43_5, B43_10, GA, GR, GRc, GO, GI, GL, GV, am_w_i, am_ga, am_it, am_if, true_and, and_true, or_true, true_or, ne_eq, not_false_eq_true, not_true_eq_false, false_imp_iff, true_imp_iff, Int.reduceEq, Int.reduceLT, Int.reduceLE, Int.reduceAdd, Int.reduceSub, Int.reduceMul, Int.reduceNeg]
      generalize am_up (am_up (am_up (am_up (am_up I 44 3 ((k : Int) + 1)) 44 3 ((k : Int) + 1 + 1)) (w.2.2.1 + 17) l (X 0 6)) 44 8 0) 44 9 0 = J at F5 X5 a5 T5 ⊢
      refine c_val (d := d) (L := L) (pl := pl) (a0 := X 0 6) hu hW (K - (k + 1)) J (lw0 X l) 1 (k + 2) 0 none (by omega) (by omega) kK T5 X5 I5 (Or.inr rfl) a5 ⟨fun I1 f1 x1 p1 y1 => ?_, fun I1 f1 x1 y1 z1 => ?_⟩
      · have rk := vlF_k h0 kK x1
        generalize vlF s u (K - (k + 1)) (lw0 X l) 1 (k + 2) = r at q x1 p1 y1 rk
        unfold lwE at q
        rw [if_pos x1] at q
        have i6 : I1 (w.2.2.1 + 15) 1 = r.2.2 0 6 := p1.1.2.2.2.2.2
        have F6 : CW w I (am_up I1 (w.2.2.1 + 18) l (r.2.2 0 6)) := (F5.tr f1).up (by omega)
        have P6 := p1.l (a := 18) (j := l) (v := r.2.2 0 6) hW (by decide) (by decide)
        have a6 : am_up I1 (w.2.2.1 + 18) l (r.2.2 0 6) 44 3 = (r.2.1 : Int) := by rw [am_up_a _ _ _ _ (by omega)]; exact y1
        have T6 := hT.cw hW F6
        simp (disch := omega) only [KP, HW hW, i6, GA, GR, GRc, GO, GI, GL, GV, am_w_i, am_ga, am_it, am_if, true_and, and_true, or_true, true_or, ne_eq, not_false_eq_true, not_true_eq_false, false_imp_iff, true_imp_iff, Int.reduceEq, Int.reduceLT, Int.reduceLE, Int.reduceAdd, Int.reduceSub, Int.reduceMul, Int.reduceNeg]
        rw [B42_137]
        refine ⟨rfl, c_end T6 hW P6 a6 rk hK ((q.tr F6).gi)⟩
      · have z := q
        unfold lwE at z
        rw [if_neg x1] at z
        have z := z.2 I1 (F5.tr f1) x1 y1 z1
        clear q
        first | (simp (disch := omega) only [GA, GR, GRc, GO, GI, GL, GV, am_w_i, am_ga, am_it, am_if, true_and, and_true, or_true, true_or, ne_eq, not_false_eq_true, not_true_eq_false, false_imp_iff, true_imp_iff, Int.reduceEq, Int.reduceLT, Int.reduceLE, Int.reduceAdd, Int.reduceSub, Int.reduceMul, Int.reduceNeg]; exact z) | simp (disch := omega) only [z, GA, GR, GRc, GO, GI, GL, GV, am_w_i, am_ga, am_it, am_if, true_and, and_true, or_true, true_or, ne_eq, not_false_eq_true, not_true_eq_false, false_imp_iff, true_imp_iff, Int.reduceEq, Int.reduceLT, Int.reduceLE, Int.reduceAdd, Int.reduceSub, Int.reduceMul, Int.reduceNeg]
    · have e : lwF s u K X k = (3, k + 1, X) := by unfold lwF; rw [if_pos c1, if_neg c2]
      have z := bad 3 (by decide) e
      clear bad q e
      obtain ⟨l, hl2⟩ : ∃ l : Int, s (k + 1) - 108 = l := ⟨_, rfl⟩
      have sl : s (k + 1) = 108 + l := by omega
      rw [hl2] at c2
      have l0 : 0 ≤ l ∧ l < 3 := by omega
      have lm : 108 + l - 108 = l := by omega
      have e17' : am_up I 44 3 ((k : Int) + 1) (w.2.2.1 + 17) = X 17 := by rw [am_up_a _ _ _ _ (by omega)]; exact e17
      have told : ∀ Q, am_Sp (d + 3) 14 [vR (some (w.2.2.1 + 15)), vI l] (mkH w (am_up I 44 3 ((k : Int) + 1)) L) Q ↔ Q (some (vI 1)) (mkH w (am_up I 44 3 ((k : Int) + 1)) L) := fun Q => by rw [s14 hW l0, e17', if_neg c2]
      first | (simp (disch := omega) only [KP, h3, B42_10, am_up_s, t46, sl, HW hW, lm, told, s27', GA, GR, GRc, GO, GI, GL, GV, am_w_i, am_ga, am_it, am_if, true_and, and_true, or_true, true_or, ne_eq, not_false_eq_true, not_true_eq_false, false_imp_iff, true_imp_iff, Int.reduceEq, Int.reduceLT, Int.reduceLE, Int.reduceAdd, Int.reduceSub, Int.reduceMul, Int.reduceNeg]; exact z) | simp (disch := omega) only [KP, h3, B42_10, am_up_s, t46, sl, HW hW, lm, told, s27', z, GA, GR, GRc, GO, GI, GL, GV, am_w_i, am_ga, am_it, am_if, true_and, and_true, or_true, true_or, ne_eq, not_false_eq_true, not_true_eq_false, false_imp_iff, true_imp_iff, Int.reduceEq, Int.reduceLT, Int.reduceLE, Int.reduceAdd, Int.reduceSub, Int.reduceMul, Int.reduceNeg]
  · have e : lwF s u K X k = (1, k + 1, X) := by unfold lwF; rw [if_neg c1]
    have z := bad 1 (by decide) e
    clear bad q e
    by_cases c3 : s (k + 1) < 108
    · first | (simp (disch := omega) only [KP, h3, B42_10, am_up_s, t46, c3, B42_35, s27', GA, GR, GRc, GO, GI, GL, GV, am_w_i, am_ga, am_it, am_if, true_and, and_true, or_true, true_or, ne_eq, not_false_eq_true, not_true_eq_false, false_imp_iff, true_imp_iff, Int.reduceEq, Int.reduceLT, Int.reduceLE, Int.reduceAdd, Int.reduceSub, Int.reduceMul, Int.reduceNeg]; exact z) | simp (disch := omega) only [KP, h3, B42_10, am_up_s, t46, c3, B42_35, s27', z, GA, GR, GRc, GO, GI, GL, GV, am_w_i, am_ga, am_it, am_if, true_and, and_true, or_true, true_or, ne_eq, not_false_eq_true, not_true_eq_false, false_imp_iff, true_imp_iff, Int.reduceEq, Int.reduceLT, Int.reduceLE, Int.reduceAdd, Int.reduceSub, Int.reduceMul, Int.reduceNeg]
    · have c4 : ¬ s (k + 1) ≤ 110 := by omega
      first | (simp (disch := omega) only [KP, h3, B42_10, am_up_s, t46, c3, c4, B42_35, s27', GA, GR, GRc, GO, GI, GL, GV, am_w_i, am_ga, am_it, am_if, true_and, and_true, or_true, true_or, ne_eq, not_false_eq_true, not_true_eq_false, false_imp_iff, true_imp_iff, Int.reduceEq, Int.reduceLT, Int.reduceLE, Int.reduceAdd, Int.reduceSub, Int.reduceMul, Int.reduceNeg]; exact z) | simp (disch := omega) only [KP, h3, B42_10, am_up_s, t46, c3, c4, B42_35, s27', z, GA, GR, GRc, GO, GI, GL, GV, am_w_i, am_ga, am_it, am_if, true_and, and_true, or_true, true_or, ne_eq, not_false_eq_true, not_true_eq_false, false_imp_iff, true_imp_iff, Int.reduceEq, Int.reduceLT, Int.reduceLE, Int.reduceAdd, Int.reduceSub, Int.reduceMul, Int.reduceNeg]
/-! a line -/
def lnF (s u : Nat → Int) (K : Nat) (X : (Nat → Int → Int)) (k : Nat) : Int × Nat × (Nat → Int → Int) := if s k = 100 then kdF s u X k else if s k = 101 then hsF s u X k else if s k = 102 then ddF s u X k else if s k = 103 then doF s u X k else if s k = 104 then prF s u 13 0 999 X k else if s k = 105 then prF s u 14 2 9 X k else if s k = 106 then sdF s u X k else if s k = 107 then lwF s u K X k else (1, k, X)
/-- bounds of a text in the making -/
def BX (X : (Nat → Int → Int)) : Prop := ((0 ≤ X 0 0 ∧ X 0 0 ≤ 6) ∧ (0 ≤ X 0 1 ∧ X 0 1 ≤ 8) ∧ (0 ≤ X 0 2 ∧ X 0 2 ≤ 12) ∧ (0 ≤ X 0 5 ∧ X 0 5 ≤ 12)) ∧ (X 0 4 = X 0 6 ∧ 0 ≤ X 0 6 ∧ X 0 6 ≤ 64) ∧ 0 ≤ X 0 7 ∧ X 0 7 < 32
set_option maxHeartbeats 2000000 in
theorem s28 {d : Nat} {w : Nat × Nat × Nat × Nat} {I L : Nat → Int → Int} {s u pl : Nat → Int} {K k : Nat} {X : (Nat → Int → Int)} (hT : cT s u pl K I) (hu : TU s u K) (hW : isW w.2.2.1) (hX : PX w I X) (hb : BX X) (h3 : I 44 3 = k) (hk : k < K) {Q : Option am_V → am_H → Prop} (q : LCo w I pl L (lnF s u K X k) Q) : am_Sp (d + 5) 28 [vR (some 44)] (mkH w I L) Q := by
  have hK := hu.2.1
  have t1 := (hT k (by omega)).1
  obtain ⟨b1, ⟨b4, b6⟩, b7⟩ := hb
  rw [S28]
  have q := q.gi
  unfold lnF at q
  by_cases c0 : s k = 100
  · rw [if_pos c0] at q
    simp (disch := omega) only [KP, h3, t1, c0, GA, GR, GRc, GO, GI, GL, GV, am_w_i, am_ga, am_it, am_if, true_and, and_true, or_true, true_or, ne_eq, not_false_eq_true, not_true_eq_false, false_imp_iff, true_imp_iff, Int.reduceEq, Int.reduceLT, Int.reduceLE, Int.reduceAdd, Int.reduceSub, Int.reduceMul, Int.reduceNeg]
    exact s35 (d := d + 1) hT hu hW hX b1.1 h3 hk q
  · rw [if_neg c0] at q
    by_cases c1 : s k = 101
    · rw [if_pos c1] at q
      simp (disch := omega) only [KP, h3, t1, c1, GA, GR, GRc, GO, GI, GL, GV, am_w_i, am_ga, am_it, am_if, true_and, and_true, or_true, true_or, ne_eq, not_false_eq_true, not_true_eq_false, false_imp_iff, true_imp_iff, Int.reduceEq, Int.reduceLT, Int.reduceLE, Int.reduceAdd, Int.reduceSub, Int.reduceMul, Int.reduceNeg]
      exact s36 hT hu hW hX b1 h3 hk q
    · rw [if_neg c1] at q
      by_cases c2 : s k = 102
      · rw [if_pos c2] at q
        simp (disch := omega) only [KP, h3, t1, c2, GA, GR, GRc, GO, GI, GL, GV, am_w_i, am_ga, am_it, am_if, true_and, and_true, or_true, true_or, ne_eq, not_false_eq_true, not_true_eq_false, false_imp_iff, true_imp_iff, Int.reduceEq, Int.reduceLT, Int.reduceLE, Int.reduceAdd, Int.reduceSub, Int.reduceMul, Int.reduceNeg]
        exact s37 hT hu hW hX b1 h3 hk q
      · rw [if_neg c2] at q
        by_cases c3 : s k = 103
        · rw [if_pos c3] at q
          simp (disch := omega) only [KP, h3, t1, c3, GA, GR, GRc, GO, GI, GL, GV, am_w_i, am_ga, am_it, am_if, true_and, and_true, or_true, true_or, ne_eq, not_false_eq_true, not_true_eq_false, false_imp_iff, true_imp_iff, Int.reduceEq, Int.reduceLT, Int.reduceLE, Int.reduceAdd, Int.reduceSub, Int.reduceMul, Int.reduceNeg]
          exact s38 hT hu hW hX b1 h3 hk q
        · rw [if_neg c3] at q
          by_cases c4 : s k = 104
          · rw [if_pos c4] at q
            simp (disch := omega) only [KP, h3, t1, c4, HW hW, GA, GR, GRc, GO, GI, GL, GV, am_w_i, am_ga, am_it, am_if, true_and, and_true, or_true, true_or, ne_eq, not_false_eq_true, not_true_eq_false, false_imp_iff, true_imp_iff, Int.reduceEq, Int.reduceLT, Int.reduceLE, Int.reduceAdd, Int.reduceSub, Int.reduceMul, Int.reduceNeg]
            exact s39 hT hu hW hX (Or.inl rfl) (by decide) h3 hk q
          · rw [if_neg c4] at q
            by_cases c5 : s k = 105
            · rw [if_pos c5] at q
              simp (disch := omega) only [KP, h3, t1, c5, HW hW, GA, GR, GRc, GO, GI, GL, GV, am_w_i, am_ga, am_it, am_if, true_and, and_true, or_true, true_or, ne_eq, not_false_eq_true, not_true_eq_false, false_imp_iff, true_imp_iff, Int.reduceEq, Int.reduceLT, Int.reduceLE, Int.reduceAdd, Int.reduceSub, Int.reduceMul, Int.reduceNeg]
              exact s39 hT hu hW hX (Or.inr rfl) (by decide) h3 hk q
            · rw [if_neg c5] at q
              by_cases c6 : s k = 106
              · rw [if_pos c6] at q
                simp (disch := omega) only [KP, h3, t1, c6, GA, GR, GRc, GO, GI, GL, GV, am_w_i, am_ga, am_it, am_if, true_and, and_true, or_true, true_or, ne_eq, not_false_eq_true, not_true_eq_false, false_imp_iff, true_imp_iff, Int.reduceEq, Int.reduceLT, Int.reduceLE, Int.reduceAdd, Int.reduceSub, Int.reduceMul, Int.reduceNeg]
                exact s41 hT hu hW hX h3 hk q
              · rw [if_neg c6] at q
                by_cases c7 : s k = 107
                · rw [if_pos c7] at q
                  simp (disch := omega) only [KP, h3, t1, c7, GA, GR, GRc, GO, GI, GL, GV, am_w_i, am_ga, am_it, am_if, true_and, and_true, or_true, true_or, ne_eq, not_false_eq_true, not_true_eq_false, false_imp_iff, true_imp_iff, Int.reduceEq, Int.reduceLT, Int.reduceLE, Int.reduceAdd, Int.reduceSub, Int.reduceMul, Int.reduceNeg]
                  exact s42 hT hu hW hX b4 b6 h3 hk q
                · rw [if_neg c7] at q
                  have z := q.2 (am_up (am_up I 44 0 1) 44 1 (pl k)) ((CW.rf.up (Or.inl rfl)).up (Or.inl rfl)) (by simp) (by rw [am_up_n _ _ _ _ (by decide), am_up_s]) (am_up_s _ _ _ _)
                  clear q
                  simp (disch := omega) only [GI, true_or, GA, GR, GRc, GO, GI, GL, GV, am_w_i, am_ga, am_it, am_if, true_and, and_true, or_true, true_or, ne_eq, not_false_eq_true, not_true_eq_false, false_imp_iff, true_imp_iff, Int.reduceEq, Int.reduceLT, Int.reduceLE, Int.reduceAdd, Int.reduceSub, Int.reduceMul, Int.reduceNeg] at z
                  first | (simp (disch := omega) only [KP, h3, t1, c0, c1, c2, c3, c4, c5, c6, c7, s27 hT (show k ≤ K by omega) hK, GA, GR, GRc, GO, GI, GL, GV, am_w_i, am_ga, am_it, am_if, true_and, and_true, or_true, true_or, ne_eq, not_false_eq_true, not_true_eq_false, false_imp_iff, true_imp_iff, Int.reduceEq, Int.reduceLT, Int.reduceLE, Int.reduceAdd, Int.reduceSub, Int.reduceMul, Int.reduceNeg]; exact z) | simp (disch := omega) only [KP, h3, t1, c0, c1, c2, c3, c4, c5, c6, c7, s27 hT (show k ≤ K by omega) hK, z, GA, GR, GRc, GO, GI, GL, GV, am_w_i, am_ga, am_it, am_if, true_and, and_true, or_true, true_or, ne_eq, not_false_eq_true, not_true_eq_false, false_imp_iff, true_imp_iff, Int.reduceEq, Int.reduceLT, Int.reduceLE, Int.reduceAdd, Int.reduceSub, Int.reduceMul, Int.reduceNeg]
