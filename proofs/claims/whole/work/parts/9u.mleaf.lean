/-! 9u: an E, the reference: what stands where a value begins -/
def FL (b : Int) (I X : (Nat → Int → Int)) : Prop := I 99 49 = b ∧ (b = 1 → (I 99 50 = 0 ↔ ¬ bdC (eLs X) ≤ 3))
theorem FL.rf {b : Int} {I I' X : (Nat → Int → Int)} (h : FL b I X) (f : RF I I') : FL b I' X := by
  unfold FL at h ⊢
  rw [f.2 49 (by decide) (by decide) (by decide) (by decide) (by decide) (by decide) (by decide), f.2 50 (by decide) (by decide) (by decide) (by decide) (by decide) (by decide) (by decide)]; exact h
theorem eLs_ps {X : (Nat → Int → Int)} {v : Int} (h : 0 ≤ X 0 8) : eLs (ePs X v) = v := by
  unfold eLs ePs
  simp (disch := decide) only [am_up_a, am_up_s]
  rw [if_pos (by omega), show X 0 8 + 1 - 1 = X 0 8 by omega, am_up_s]
def MPo (w : (Nat × Nat × Nat × Nat)) (I : (Nat → Int → Int)) (s u pl P : Nat → Int) (T : Int → Int) (n : Int) (L : (Nat → Int → Int)) (k : Nat) (r : Int × (Nat → Int → Int)) (b : Int) (Q : Option am_V → am_H → Prop) : Prop := (∀ I', EG I I' → r.1 = 0 → NE I' r.2 → mT s u pl P T n (k + 1) I' → FL b I' r.2 → Q (some (vI 1)) (mkH w I' L)) ∧ (∀ I', EF I I' → r.1 ≠ 0 → I' 99 4 = r.1 → I' 99 5 = pl k → Q (some (vI 0)) (mkH w I' L))
theorem MPo.bad {w : (Nat × Nat × Nat × Nat)} {I J : (Nat → Int → Int)} {s u pl P : Nat → Int} {T : Int → Int} {n b : Int} {L : (Nat → Int → Int)} {k : Nat} {r : Int × (Nat → Int → Int)} {Q : Option am_V → am_H → Prop} (q : MPo w I s u pl P T n L k r b Q) (f : EF I J) (h : r.1 ≠ 0) : Q (some (vI 0)) (mkH w (am_up (am_up J 99 4 r.1) 99 5 (pl k)) L) := q.2 _ (f.tr (EF.rd ((RF.rf.up (by decide)).up (by decide)))) h (by rw [am_up_n _ _ _ _ (by decide), am_up_s]) (am_up_s _ _ _ _)
theorem MPo.ok {w : (Nat × Nat × Nat × Nat)} {I J : (Nat → Int → Int)} {s u pl P : Nat → Int} {T : Int → Int} {n b : Int} {L : (Nat → Int → Int)} {k : Nat} {r : Int × (Nat → Int → Int)} {Q : Option am_V → am_H → Prop} (q : MPo w I s u pl P T n L k r b Q) (bf : BF I J) (r0 : r.1 = 0) (ne : NE J r.2) (fl : FL b J r.2) : ∀ I1, TF J I1 → mT s u pl P T n (k + 1) I1 → Q (some (vI 1)) (mkH w I1 L) := fun I1 t m => q.1 I1 (bf.eg.tr (EG.rd (RG.tf t))) r0 (ne.rf (RF.tf t)) m (fl.rf (RF.tf t))
theorem s187 {d : Nat} {w : Nat × Nat × Nat × Nat} {I L : Nat → Int → Int} (Q : Option am_V → am_H → Prop) : am_Sp d 187 [vR (some 99)] (mkH w I L) Q ↔ Q (some (vI (if I 99 8 = 1 ∧ 14 ≤ I 99 9 then am_w (I 99 9 - 14) else -1))) (mkH w I L) := by
  rw [S187]
  by_cases c1 : I 99 8 = 1
  · by_cases c2 : 14 ≤ I 99 9
    · rw [if_pos ⟨c1, c2⟩]
      have c3 : ¬ I 99 9 < 14 := by omega
      simp only [Kk, GA, GI, c1, c3, B187_27, B187_28, true_and, ne_eq, not_true_eq_false, false_imp_iff, true_imp_iff, not_false_eq_true]
    · rw [if_neg (fun z => c2 z.2)]
      simp (disch := omega) only [Kk, c1, B187_27, B187_28, GA, GR, GRc, GO, GI, GL, GV, am_w_i, am_ga, am_it, am_if, true_and, and_true, or_true, true_or, ne_eq, not_false_eq_true, not_true_eq_false, false_imp_iff, true_imp_iff, Int.reduceEq, Int.reduceLT, Int.reduceLE, Int.reduceAdd, Int.reduceSub, Int.reduceMul, Int.reduceNeg]
  · rw [if_neg (fun z => c1 z.1)]
    simp (disch := omega) only [Kk, c1, B187_27, B187_28, GA, GR, GRc, GO, GI, GL, GV, am_w_i, am_ga, am_it, am_if, true_and, and_true, or_true, true_or, ne_eq, not_false_eq_true, not_true_eq_false, false_imp_iff, true_imp_iff, Int.reduceEq, Int.reduceLT, Int.reduceLE, Int.reduceAdd, Int.reduceSub, Int.reduceMul, Int.reduceNeg]
set_option maxHeartbeats 6000000 in
theorem s188 {d : Nat} {w : Nat × Nat × Nat × Nat} {I L : Nat → Int → Int} {s u pl P : Nat → Int} {K k : Nat} {T : Int → Int} {n a0 : Int} {X : (Nat → Int → Int)} (hC : TC s u pl P K T n) (hu : TU s u K) (hm : mT s u pl P T n k I) (h : NE I X) (he : EI a0 1 X) (hf : FL 1 I X) (hk : k ≤ K) {Q : Option am_V → am_H → Prop} (q : MPo w I s u pl P T n L k (ptF s u X k) (wnF s k) Q) : am_Sp (d + 3) 188 [vR (some 99)] (mkH w I L) Q := by
  have tr := hm.2.2.2.2.2
  have at10 := hm.2.2.2.2.1
  have h0 := hu.1
  have bd := he.bd (by decide)
  have bx := he.2.2.2.2.1.1
  have e45 : I 99 45 = X 0 8 := h.2.1.1
  have e46 : I 99 46 = X 0 9 := h.2.1.2.1
  have e47 : I 99 47 = X 0 10 := h.2.1.2.2
  have e48 : I 99 48 = X 0 4 := h.1.2
  have e20 : I 99 20 = X 0 6 := h.1.1
  have f49 : I 99 49 = 1 := hf.1
  have f50 := hf.2 rfl
  have sg40 := tr.sg (c := 40) (by omega)
  have ky := tr.ky.1
  have tn := tr.nm
  have nr : s k = 3 → NR (u k) (I 99 9) := by
    intro y
    unfold TR at tr
    rcases tr with t | t | t | t | t | t | t
    · omega
    · omega
    · omega
    · exact t.2.2
    · omega
    · omega
    · omega
  have ct := h.ct
  have cb : BF I (am_up I 99 48 (X 0 4 + 1)) := BF.rf.f (by decide)
  have g20 : am_up I 99 48 (X 0 4 + 1) 99 20 = X 0 6 := by rw [am_up_n _ _ _ _ (by decide)]; exact e20
  have g46 : am_up I 99 48 (X 0 4 + 1) 99 46 = X 0 9 := by rw [am_up_n _ _ _ _ (by decide)]; exact e46
  have g45 : am_up I 99 48 (X 0 4 + 1) 99 45 = X 0 8 := by rw [am_up_n _ _ _ _ (by decide)]; exact e45
  have g9 : am_up I 99 48 (X 0 4 + 1) 99 9 = I 99 9 := am_up_n _ _ _ _ (by decide)
  have c6 : eCt X 0 6 = X 0 6 := by unfold eCt; rw [am_up_n _ _ _ _ (by decide)]
  have c8 : eCt X 0 8 = X 0 8 := by unfold eCt; rw [am_up_n _ _ _ _ (by decide)]
  have c9 : eCt X 0 9 = X 0 9 := by unfold eCt; rw [am_up_n _ _ _ _ (by decide)]
  have s185' : X 0 4 < 64 → ∀ Q, am_Sp (d + 2) 185 [vR (some 99)] (mkH w I L) Q ↔ Q (some (vI 1)) (mkH w (am_up I 99 48 (X 0 4 + 1)) L) := fun hx Q => by rw [s185a (by omega), e48]
  have s185n : ¬ X 0 4 < 64 → ∀ Q, am_Sp (d + 2) 185 [vR (some 99)] (mkH w I L) Q ↔ Q (some (vI 0)) (mkH w (am_up (am_up I 99 4 2) 99 5 (pl k)) L) := fun hx Q => by rw [s185b (by omega) at10]
  have s186' : X 0 4 < 64 → ∀ v Q, am_Sp (d + 2) 186 [vR (some 99), vI v] (mkH w (am_up I 99 48 (X 0 4 + 1)) L) Q ↔ Q none (mkH w (am_up (am_up (am_up I 99 48 (X 0 4 + 1)) 123 (X 0 8) v) 99 45 (X 0 8 + 1)) L) := fun hx v Q => by rw [s186 (by rw [g45]; omega), g45]
  have s182' : X 0 4 < 64 → ∀ k a b Q, am_Sp (d + 2) 182 [vR (some 99), vI k, vI a, vI b] (mkH w (am_up I 99 48 (X 0 4 + 1)) L) Q ↔ Q none (mkH w (am_up (am_up (am_up (am_up (am_up (am_up (am_up I 99 48 (X 0 4 + 1)) 120 (64 + X 0 6) k) 121 (64 + X 0 6) a) 122 (64 + X 0 6) b) 124 (X 0 9) (X 0 6)) 99 46 (X 0 9 + 1)) 99 20 (X 0 6 + 1)) L) := fun hx k a b Q => by rw [s182 (by rw [g20]; omega) (by rw [g46]; omega), g20, g46]
  have leaf : ∀ r0 k0 p0, ptF s u X k = (0, eGr (eCt X) r0 k0 p0 0) → wnF s k = 0 → s k ≠ 0 → am_WP (d + 3) 188 169 [some (vR (some 99)), some (vI (if k0 = 0 then -1 else p0))] [] (mkH w (am_up (am_up (am_up (am_up (am_up (am_up (am_up (am_up I 99 48 (X 0 4 + 1)) 120 (64 + X 0 6) k0) 121 (64 + X 0 6) p0) 122 (64 + X 0 6) 0) 124 (X 0 9) (X 0 6)) 99 46 (X 0 9 + 1)) 99 20 (X 0 6 + 1)) 99 49 0) L) Q := by
    intro r0 k0 p0 e ew sk
    have kK := rd_k h0 hk sk
    rw [e, ew] at q
    have ne := ct.gr (r := r0) (k := k0) (p := p0) (o := 0)
    rw [c6, c9] at ne
    have bf := (cb.gr (x := X 0 6) (h := X 0 9) (k := k0) (p := p0) (o := 0) (by omega)).f (i := 49) (v := 0) (by decide)
    have ok := q.ok bf rfl (ne.fl (i := 49) (v := 0) (by decide)) ⟨am_up_s _ _ _ _, fun z => absurd z (by decide)⟩
    have mb := hm.bf bf
    generalize am_up (am_up (am_up (am_up (am_up (am_up (am_up (am_up I 99 48 (X 0 4 + 1)) 120 (64 + X 0 6) k0) 121 (64 + X 0 6) p0) 122 (64 + X 0 6) 0) 124 (X 0 9) (X 0 6)) 99 46 (X 0 9 + 1)) 99 20 (X 0 6 + 1)) 99 49 0 = J at ok mb ⊢
    clear q ne bf he h hf
    rw [B188_169]
    refine ⟨rfl, t158 hC mb kK (fun I1 t1 m1 => ?_)⟩
    have z := ok I1 t1 m1
    clear ok
    first | (simp (disch := omega) only [GA, GR, GRc, GO, GI, GL, GV, am_w_i, am_ga, am_it, am_if, true_and, and_true, or_true, true_or, ne_eq, not_false_eq_true, not_true_eq_false, false_imp_iff, true_imp_iff, Int.reduceEq, Int.reduceLT, Int.reduceLE, Int.reduceAdd, Int.reduceSub, Int.reduceMul, Int.reduceNeg]; exact z) | simp (disch := omega) only [z, GA, GR, GRc, GO, GI, GL, GV, am_w_i, am_ga, am_it, am_if, true_and, and_true, or_true, true_or, ne_eq, not_false_eq_true, not_true_eq_false, false_imp_iff, true_imp_iff, Int.reduceEq, Int.reduceLT, Int.reduceLE, Int.reduceAdd, Int.reduceSub, Int.reduceMul, Int.reduceNeg]
  clear tr
  rw [S188]
  by_cases c1 : s k = 40
  · have i40 : (if I 99 8 = 4 ∧ I 99 9 = 40 then (1 : Int) else 0) = 1 := if_pos (sg40.2 c1)
    have ew : wnF s k = 1 := by unfold wnF; rw [if_pos (Or.inr c1)]
    by_cases c : X 0 10 < 8
    · have e : ptF s u X k = (0, ePs (am_up X 0 10 (X 0 10 + 1)) 40) := by unfold ptF; rw [if_pos c1, if_pos c]
      rw [e, ew] at q
      have kK := rd_k h0 hk (show s k ≠ 0 by omega)
      have o8 : am_up X 0 10 (X 0 10 + 1) 0 8 = X 0 8 := am_up_n _ _ _ _ (by decide)
      have i45 : am_up I 99 47 (X 0 10 + 1) 99 45 = X 0 8 := by rw [am_up_n _ _ _ _ (by decide)]; exact e45
      have ne := (h.o (v := X 0 10 + 1)).ps (v := 40)
      rw [o8, show mpC 40 = 0 by decide] at ne
      have bf := ((((BF.rf (I := I)).f (i := 47) (v := X 0 10 + 1) (by decide)).w (b := 123) (i := X 0 8) (v := 0) (by decide)).f (i := 45) (v := X 0 8 + 1) (by decide)).f (i := 50) (v := 1) (by decide)
      have ok := q.ok bf rfl (ne.fl (i := 50) (v := 1) (by decide)) ⟨by rw [am_up_n _ _ _ _ (by decide), am_up_n _ _ _ _ (by decide), am_up_a _ _ _ _ (by decide), am_up_n _ _ _ _ (by decide)]; exact f49, fun _ => by
        rw [am_up_s, eLs_ps (by omega), show bdC 40 = 0 by decide]; decide⟩
      have mb := hm.bf bf
      have s186o : ∀ v Q, am_Sp (d + 2) 186 [vR (some 99), vI v] (mkH w (am_up I 99 47 (X 0 10 + 1)) L) Q ↔ Q none (mkH w (am_up (am_up (am_up I 99 47 (X 0 10 + 1)) 123 (X 0 8) v) 99 45 (X 0 8 + 1)) L) := fun v Q => by rw [s186 (by rw [i45]; omega), i45]
      have c8n : ¬ X 0 10 = 8 := by omega
      clear q ne bf he h hf leaf s185' s185n s186' s182' nr tn ky f50 sg40
      simp (disch := omega) only [Kk, s162, i40, e47, c8n, B188_34, s186o, B188_44, GA, GR, GRc, GO, GI, GL, GV, am_w_i, am_ga, am_it, am_if, true_and, and_true, or_true, true_or, ne_eq, not_false_eq_true, not_true_eq_false, false_imp_iff, true_imp_iff, Int.reduceEq, Int.reduceLT, Int.reduceLE, Int.reduceAdd, Int.reduceSub, Int.reduceMul, Int.reduceNeg]
      generalize am_up (am_up (am_up (am_up I 99 47 (X 0 10 + 1)) 123 (X 0 8) 0) 99 45 (X 0 8 + 1)) 99 50 1 = J at ok mb ⊢
      refine t158 hC mb kK (fun I1 t1 m1 => ?_)
      have z := ok I1 t1 m1
      clear ok
      first | (simp (disch := omega) only [GA, GR, GRc, GO, GI, GL, GV, am_w_i, am_ga, am_it, am_if, true_and, and_true, or_true, true_or, ne_eq, not_false_eq_true, not_true_eq_false, false_imp_iff, true_imp_iff, Int.reduceEq, Int.reduceLT, Int.reduceLE, Int.reduceAdd, Int.reduceSub, Int.reduceMul, Int.reduceNeg]; exact z) | simp (disch := omega) only [z, GA, GR, GRc, GO, GI, GL, GV, am_w_i, am_ga, am_it, am_if, true_and, and_true, or_true, true_or, ne_eq, not_false_eq_true, not_true_eq_false, false_imp_iff, true_imp_iff, Int.reduceEq, Int.reduceLT, Int.reduceLE, Int.reduceAdd, Int.reduceSub, Int.reduceMul, Int.reduceNeg]
    · have e : ptF s u X k = (2, X) := by unfold ptF; rw [if_pos c1, if_neg c]
      rw [e] at q
      have z := q.bad BF.rf.e (by simp)
      have c8n : X 0 10 = 8 := by omega
      clear q he h hf leaf s185' s185n s186' s182' nr tn ky f50 sg40
      first | (simp (disch := omega) only [Kk, s162, i40, e47, c8n, s154 at10, GA, GR, GRc, GO, GI, GL, GV, am_w_i, am_ga, am_it, am_if, true_and, and_true, or_true, true_or, ne_eq, not_false_eq_true, not_true_eq_false, false_imp_iff, true_imp_iff, Int.reduceEq, Int.reduceLT, Int.reduceLE, Int.reduceAdd, Int.reduceSub, Int.reduceMul, Int.reduceNeg]; exact z) | simp (disch := omega) only [Kk, s162, i40, e47, c8n, s154 at10, z, GA, GR, GRc, GO, GI, GL, GV, am_w_i, am_ga, am_it, am_if, true_and, and_true, or_true, true_or, ne_eq, not_false_eq_true, not_true_eq_false, false_imp_iff, true_imp_iff, Int.reduceEq, Int.reduceLT, Int.reduceLE, Int.reduceAdd, Int.reduceSub, Int.reduceMul, Int.reduceNeg]
  · have i40 : (if I 99 8 = 4 ∧ I 99 9 = 40 then (1 : Int) else 0) = 0 := if_neg (fun z => c1 (sg40.1 z))
    have g86 : ¬ (s k = 113 ∧ bdC (eLs X) ≤ 3) → am_WP (d + 3) 188 86 [some (vR (some 99)), none] [] (mkH w I L) Q := by
      intro c4
      rw [B188_86]
      by_cases c2 : s k = 3
      · have kd := tn.2.2.2 c2
        have nr := nr c2
        unfold NR at nr
        have u0 := (hu.2.2.1 k hk c2).1
        have nm1 : (if I 99 8 = 1 ∧ 14 ≤ I 99 9 then am_w (I 99 9 - 14) else -1) = -1 := if_neg (by omega)
        have s187' : ∀ Q, am_Sp (d + 2) 187 [vR (some 99)] (mkH w I L) Q ↔ Q (some (vI (-1))) (mkH w I L) := fun Q => by rw [s187, nm1]
        have ew : wnF s k = 0 := by unfold wnF; rw [if_neg (by omega)]
        by_cases ca : u k ≤ 9999
        · have wu : I 99 9 = u k := by omega
          by_cases cc : X 0 4 < 64
          · have e : ptF s u X k = (0, eGr (eCt X) (u k) 0 (u k) 0) := by unfold ptF; rw [if_neg c1, if_pos c2, if_pos ⟨ca, cc⟩]
            have z := leaf (u k) 0 (u k) e ew (by omega)
            rw [if_pos rfl] at z
            have s185' := s185' cc
            have s182' := s182' cc
            rw [wu] at g9
            clear q he h hf leaf s185n s186' nr tn ky f50 sg40
            first | (simp (disch := omega) only [Kk, s187', kd, wu, B188_109, B188_129, s185', B188_148, g9, B188_160, s182', GA, GR, GRc, GO, GI, GL, GV, am_w_i, am_ga, am_it, am_if, true_and, and_true, or_true, true_or, ne_eq, not_false_eq_true, not_true_eq_false, false_imp_iff, true_imp_iff, Int.reduceEq, Int.reduceLT, Int.reduceLE, Int.reduceAdd, Int.reduceSub, Int.reduceMul, Int.reduceNeg]; exact z) | simp (disch := omega) only [Kk, s187', kd, wu, B188_109, B188_129, s185', B188_148, g9, B188_160, s182', z, GA, GR, GRc, GO, GI, GL, GV, am_w_i, am_ga, am_it, am_if, true_and, and_true, or_true, true_or, ne_eq, not_false_eq_true, not_true_eq_false, false_imp_iff, true_imp_iff, Int.reduceEq, Int.reduceLT, Int.reduceLE, Int.reduceAdd, Int.reduceSub, Int.reduceMul, Int.reduceNeg]
          · have e : ptF s u X k = (2, X) := by unfold ptF; rw [if_neg c1, if_pos c2, if_neg (fun z => cc z.2)]
            rw [e] at q
            have z := q.bad BF.rf.e (by simp)
            have s185n := s185n cc
            clear q he h hf leaf s185' s186' s182' nr tn ky f50 sg40
            first | (simp (disch := omega) only [Kk, s187', kd, wu, B188_109, B188_129, s185n, GA, GR, GRc, GO, GI, GL, GV, am_w_i, am_ga, am_it, am_if, true_and, and_true, or_true, true_or, ne_eq, not_false_eq_true, not_true_eq_false, false_imp_iff, true_imp_iff, Int.reduceEq, Int.reduceLT, Int.reduceLE, Int.reduceAdd, Int.reduceSub, Int.reduceMul, Int.reduceNeg]; exact z) | simp (disch := omega) only [Kk, s187', kd, wu, B188_109, B188_129, s185n, z, GA, GR, GRc, GO, GI, GL, GV, am_w_i, am_ga, am_it, am_if, true_and, and_true, or_true, true_or, ne_eq, not_false_eq_true, not_true_eq_false, false_imp_iff, true_imp_iff, Int.reduceEq, Int.reduceLT, Int.reduceLE, Int.reduceAdd, Int.reduceSub, Int.reduceMul, Int.reduceNeg]
        · have e : ptF s u X k = (2, X) := by unfold ptF; rw [if_neg c1, if_pos c2, if_neg (fun z => ca z.1)]
          rw [e] at q
          have z := q.bad BF.rf.e (by simp)
          have w9 : ¬ I 99 9 ≤ 9999 := by omega
          clear q he h hf leaf s185' s185n s186' s182' nr tn ky f50 sg40
          first | (simp (disch := omega) only [Kk, s187', kd, w9, B188_109, s154 at10, GA, GR, GRc, GO, GI, GL, GV, am_w_i, am_ga, am_it, am_if, true_and, and_true, or_true, true_or, ne_eq, not_false_eq_true, not_true_eq_false, false_imp_iff, true_imp_iff, Int.reduceEq, Int.reduceLT, Int.reduceLE, Int.reduceAdd, Int.reduceSub, Int.reduceMul, Int.reduceNeg]; exact z) | simp (disch := omega) only [Kk, s187', kd, w9, B188_109, s154 at10, z, GA, GR, GRc, GO, GI, GL, GV, am_w_i, am_ga, am_it, am_if, true_and, and_true, or_true, true_or, ne_eq, not_false_eq_true, not_true_eq_false, false_imp_iff, true_imp_iff, Int.reduceEq, Int.reduceLT, Int.reduceLE, Int.reduceAdd, Int.reduceSub, Int.reduceMul, Int.reduceNeg]
      · by_cases c3 : 114 ≤ s k ∧ s k ≤ 120
        · have t1 := tn.1.2 c3
          have t2 := tn.2.1 t1.1 t1.2
          have w9 : I 99 9 = s k - 100 := by omega
          have nm1 : (if I 99 8 = 1 ∧ 14 ≤ I 99 9 then am_w (I 99 9 - 14) else -1) = s k - 114 := by rw [if_pos t1, am_w_i (by omega) (by omega)]; omega
          have s187' : ∀ Q, am_Sp (d + 2) 187 [vR (some 99)] (mkH w I L) Q ↔ Q (some (vI (s k - 114))) (mkH w I L) := fun Q => by rw [s187, nm1]
          have ew : wnF s k = 0 := by unfold wnF; rw [if_neg (by omega)]
          by_cases cc : X 0 4 < 64
          · have e : ptF s u X k = (0, eGr (eCt X) (-(s k)) 1 (s k - 114) 0) := by unfold ptF; rw [if_neg c1, if_neg c2, if_pos c3, if_pos cc]
            have z := leaf (-(s k)) 1 (s k - 114) e ew (by omega)
            rw [if_neg (by decide)] at z
            have s185' := s185' cc
            have s182' := s182' cc
            clear q he h hf leaf s185n s186' nr tn ky f50 sg40 t1 t2
            first | (simp (disch := omega) only [Kk, s187', B188_109, B188_129, s185', B188_148, B188_160, s182', GA, GR, GRc, GO, GI, GL, GV, am_w_i, am_ga, am_it, am_if, true_and, and_true, or_true, true_or, ne_eq, not_false_eq_true, not_true_eq_false, false_imp_iff, true_imp_iff, Int.reduceEq, Int.reduceLT, Int.reduceLE, Int.reduceAdd, Int.reduceSub, Int.reduceMul, Int.reduceNeg]; exact z) | simp (disch := omega) only [Kk, s187', B188_109, B188_129, s185', B188_148, B188_160, s182', z, GA, GR, GRc, GO, GI, GL, GV, am_w_i, am_ga, am_it, am_if, true_and, and_true, or_true, true_or, ne_eq, not_false_eq_true, not_true_eq_false, false_imp_iff, true_imp_iff, Int.reduceEq, Int.reduceLT, Int.reduceLE, Int.reduceAdd, Int.reduceSub, Int.reduceMul, Int.reduceNeg]
          · have e : ptF s u X k = (2, X) := by unfold ptF; rw [if_neg c1, if_neg c2, if_pos c3, if_neg cc]
            rw [e] at q
            have z := q.bad BF.rf.e (by simp)
            have s185n := s185n cc
            clear q he h hf leaf s185' s186' s182' nr tn ky f50 sg40 t1 t2
            first | (simp (disch := omega) only [Kk, s187', B188_109, B188_129, s185n, GA, GR, GRc, GO, GI, GL, GV, am_w_i, am_ga, am_it, am_if, true_and, and_true, or_true, true_or, ne_eq, not_false_eq_true, not_true_eq_false, false_imp_iff, true_imp_iff, Int.reduceEq, Int.reduceLT, Int.reduceLE, Int.reduceAdd, Int.reduceSub, Int.reduceMul, Int.reduceNeg]; exact z) | simp (disch := omega) only [Kk, s187', B188_109, B188_129, s185n, z, GA, GR, GRc, GO, GI, GL, GV, am_w_i, am_ga, am_it, am_if, true_and, and_true, or_true, true_or, ne_eq, not_false_eq_true, not_true_eq_false, false_imp_iff, true_imp_iff, Int.reduceEq, Int.reduceLT, Int.reduceLE, Int.reduceAdd, Int.reduceSub, Int.reduceMul, Int.reduceNeg]
        · have e : ptF s u X k = (1, X) := by unfold ptF; rw [if_neg c1, if_neg c2, if_neg c3, if_neg c4]
          rw [e] at q
          have z := q.bad BF.rf.e (by simp)
          have nm1 : (if I 99 8 = 1 ∧ 14 ≤ I 99 9 then am_w (I 99 9 - 14) else -1) = -1 := if_neg (fun z => c3 (tn.1.1 z))
          have s187' : ∀ Q, am_Sp (d + 2) 187 [vR (some 99)] (mkH w I L) Q ↔ Q (some (vI (-1))) (mkH w I L) := fun Q => by rw [s187, nm1]
          have k3 : ¬ I 99 8 = 3 := fun z => c2 (tn.2.2.1 z)
          clear q he h hf leaf s185' s185n s186' s182' nr tn ky f50 sg40
          first | (simp (disch := omega) only [Kk, s187', k3, s154 at10, GA, GR, GRc, GO, GI, GL, GV, am_w_i, am_ga, am_it, am_if, true_and, and_true, or_true, true_or, ne_eq, not_false_eq_true, not_true_eq_false, false_imp_iff, true_imp_iff, Int.reduceEq, Int.reduceLT, Int.reduceLE, Int.reduceAdd, Int.reduceSub, Int.reduceMul, Int.reduceNeg]; exact z) | simp (disch := omega) only [Kk, s187', k3, s154 at10, z, GA, GR, GRc, GO, GI, GL, GV, am_w_i, am_ga, am_it, am_if, true_and, and_true, or_true, true_or, ne_eq, not_false_eq_true, not_true_eq_false, false_imp_iff, true_imp_iff, Int.reduceEq, Int.reduceLT, Int.reduceLE, Int.reduceAdd, Int.reduceSub, Int.reduceMul, Int.reduceNeg]
    by_cases c5 : s k = 113
    · have i13 : (if I 99 8 = 1 ∧ I 99 9 = 13 then (1 : Int) else 0) = 1 := if_pos (ky.2 c5)
      by_cases c6 : bdC (eLs X) ≤ 3
      · have n50 : ¬ I 99 50 = 0 := fun z => f50.1 z c6
        have ew : wnF s k = 1 := by unfold wnF; rw [if_pos (Or.inl c5)]
        by_cases cc : X 0 4 < 64
        · have e : ptF s u X k = (0, ePs (eCt X) 113) := by unfold ptF; rw [if_neg c1, if_neg (by omega), if_neg (by omega), if_pos ⟨c5, c6⟩, if_pos cc]
          rw [e, ew] at q
          have kK := rd_k h0 hk (show s k ≠ 0 by omega)
          have ne := ct.ps (v := 113)
          rw [c8, show mpC 113 = 2 by decide] at ne
          have bf := (cb.w (b := 123) (i := X 0 8) (v := 2) (by decide)).f (i := 45) (v := X 0 8 + 1) (by decide)
          have ok := q.ok bf rfl ne ⟨by rw [am_up_n _ _ _ _ (by decide), am_up_a _ _ _ _ (by decide), am_up_n _ _ _ _ (by decide)]; exact f49, fun _ => by
            rw [am_up_n _ _ _ _ (by decide), am_up_a _ _ _ _ (by decide), am_up_n _ _ _ _ (by decide), eLs_ps (by omega), show bdC 113 = 3 by decide]
            exact ⟨fun z => absurd z n50, fun z => absurd (by decide) z⟩⟩
          have mb := hm.bf bf
          have s185' := s185' cc
          have s186' := s186' cc
          clear q ne bf he h hf leaf s185n s182' nr tn ky f50 sg40 g86
          simp (disch := omega) only [Kk, s162, i40, s161, i13, n50, s185', s186', GA, GR, GRc, GO, GI, GL, GV, am_w_i, am_ga, am_it, am_if, true_and, and_true, or_true, true_or, ne_eq, not_false_eq_true, not_true_eq_false, false_imp_iff, true_imp_iff, Int.reduceEq, Int.reduceLT, Int.reduceLE, Int.reduceAdd, Int.reduceSub, Int.reduceMul, Int.reduceNeg]
          generalize am_up (am_up (am_up I 99 48 (X 0 4 + 1)) 123 (X 0 8) 2) 99 45 (X 0 8 + 1) = J at ok mb ⊢
          refine t158 hC mb kK (fun I1 t1 m1 => ?_)
          have z := ok I1 t1 m1
          clear ok
          first | (simp (disch := omega) only [GA, GR, GRc, GO, GI, GL, GV, am_w_i, am_ga, am_it, am_if, true_and, and_true, or_true, true_or, ne_eq, not_false_eq_true, not_true_eq_false, false_imp_iff, true_imp_iff, Int.reduceEq, Int.reduceLT, Int.reduceLE, Int.reduceAdd, Int.reduceSub, Int.reduceMul, Int.reduceNeg]; exact z) | simp (disch := omega) only [z, GA, GR, GRc, GO, GI, GL, GV, am_w_i, am_ga, am_it, am_if, true_and, and_true, or_true, true_or, ne_eq, not_false_eq_true, not_true_eq_false, false_imp_iff, true_imp_iff, Int.reduceEq, Int.reduceLT, Int.reduceLE, Int.reduceAdd, Int.reduceSub, Int.reduceMul, Int.reduceNeg]
        · have e : ptF s u X k = (2, X) := by unfold ptF; rw [if_neg c1, if_neg (by omega), if_neg (by omega), if_pos ⟨c5, c6⟩, if_neg cc]
          rw [e] at q
          have z := q.bad BF.rf.e (by simp)
          have s185n := s185n cc
          clear q he h hf leaf s185' s186' s182' nr tn ky f50 sg40 g86
          first | (simp (disch := omega) only [Kk, s162, i40, s161, i13, n50, s185n, GA, GR, GRc, GO, GI, GL, GV, am_w_i, am_ga, am_it, am_if, true_and, and_true, or_true, true_or, ne_eq, not_false_eq_true, not_true_eq_false, false_imp_iff, true_imp_iff, Int.reduceEq, Int.reduceLT, Int.reduceLE, Int.reduceAdd, Int.reduceSub, Int.reduceMul, Int.reduceNeg]; exact z) | simp (disch := omega) only [Kk, s162, i40, s161, i13, n50, s185n, z, GA, GR, GRc, GO, GI, GL, GV, am_w_i, am_ga, am_it, am_if, true_and, and_true, or_true, true_or, ne_eq, not_false_eq_true, not_true_eq_false, false_imp_iff, true_imp_iff, Int.reduceEq, Int.reduceLT, Int.reduceLE, Int.reduceAdd, Int.reduceSub, Int.reduceMul, Int.reduceNeg]
      · have n50 : I 99 50 = 0 := f50.2 c6
        have z := g86 (fun t => c6 t.2)
        clear q he h hf leaf s185' s185n s186' s182' nr tn ky f50 sg40 g86
        first | (simp (disch := omega) only [Kk, s162, i40, s161, i13, n50, GA, GR, GRc, GO, GI, GL, GV, am_w_i, am_ga, am_it, am_if, true_and, and_true, or_true, true_or, ne_eq, not_false_eq_true, not_true_eq_false, false_imp_iff, true_imp_iff, Int.reduceEq, Int.reduceLT, Int.reduceLE, Int.reduceAdd, Int.reduceSub, Int.reduceMul, Int.reduceNeg]; exact z) | simp (disch := omega) only [Kk, s162, i40, s161, i13, n50, z, GA, GR, GRc, GO, GI, GL, GV, am_w_i, am_ga, am_it, am_if, true_and, and_true, or_true, true_or, ne_eq, not_false_eq_true, not_true_eq_false, false_imp_iff, true_imp_iff, Int.reduceEq, Int.reduceLT, Int.reduceLE, Int.reduceAdd, Int.reduceSub, Int.reduceMul, Int.reduceNeg]
    · have i13 : (if I 99 8 = 1 ∧ I 99 9 = 13 then (1 : Int) else 0) = 0 := if_neg (fun z => c5 (ky.1 z))
      have z := g86 (fun t => c5 t.1)
      clear q he h hf leaf s185' s185n s186' s182' nr tn ky f50 sg40 g86
      first | (simp (disch := omega) only [Kk, s162, i40, s161, i13, GA, GR, GRc, GO, GI, GL, GV, am_w_i, am_ga, am_it, am_if, true_and, and_true, or_true, true_or, ne_eq, not_false_eq_true, not_true_eq_false, false_imp_iff, true_imp_iff, Int.reduceEq, Int.reduceLT, Int.reduceLE, Int.reduceAdd, Int.reduceSub, Int.reduceMul, Int.reduceNeg]; exact z) | simp (disch := omega) only [Kk, s162, i40, s161, i13, z, GA, GR, GRc, GO, GI, GL, GV, am_w_i, am_ga, am_it, am_if, true_and, and_true, or_true, true_or, ne_eq, not_false_eq_true, not_true_eq_false, false_imp_iff, true_imp_iff, Int.reduceEq, Int.reduceLT, Int.reduceLE, Int.reduceAdd, Int.reduceSub, Int.reduceMul, Int.reduceNeg]
