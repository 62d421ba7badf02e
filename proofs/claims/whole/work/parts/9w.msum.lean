/-! 9w: an E, the reference: the loop -/
def vlG (s : Nat → Int) (r : Int × Nat × (Nat → Int → Int)) : Int × Nat × (Nat → Int → Int) := if r.1 = 0 then (if s r.2.1 = 59 then r else (1, r.2.1, r.2.2)) else r
def MEo (w : (Nat × Nat × Nat × Nat)) (I : (Nat → Int → Int)) (s u pl P : Nat → Int) (T : Int → Int) (n : Int) (L : (Nat → Int → Int)) (r : Int × Nat × (Nat → Int → Int)) (Q : Option am_V → am_H → Prop) : Prop := (∀ I', EG I I' → r.1 = 0 → NE I' r.2.2 → mT s u pl P T n r.2.1 I' → Q (some (vI 1)) (mkH w I' L)) ∧ (∀ I', EF I I' → r.1 ≠ 0 → I' 99 4 = r.1 → I' 99 5 = pl r.2.1 → Q (some (vI 0)) (mkH w I' L))
theorem MEo.tr {w : (Nat × Nat × Nat × Nat)} {I J : (Nat → Int → Int)} {s u pl P : Nat → Int} {T : Int → Int} {n : Int} {L : (Nat → Int → Int)} {r : Int × Nat × (Nat → Int → Int)} {Q : Option am_V → am_H → Prop} (h : MEo w I s u pl P T n L r Q) (f : EG I J) : MEo w J s u pl P T n L r Q := ⟨fun I' c => h.1 I' (f.tr c), fun I' c => h.2 I' (f.w.tr c)⟩
set_option maxHeartbeats 2000000 in
theorem c_sum {d : Nat} {w : (Nat × Nat × Nat × Nat)} {L : (Nat → Int → Int)} {s u pl P : Nat → Int} {K : Nat} {T : Int → Int} {n a0 : Int} {Q : Option am_V → am_H → Prop} (hC : TC s u pl P K T n) (hu : TU s u K) : ∀ (f : Nat) (I X : (Nat → Int → Int)) (b : Int) (k : Nat), k + f = K + 1 → k ≤ K → mT s u pl P T n k I → NE I X → EI a0 b X → FL b I X → (b = 0 ∨ b = 1) → MEo w I s u pl P T n L (vlG s (vlF s u f X b k)) Q → am_WP (d + 4) 190 25 [some (vR (some 99))] [] (mkH w I L) Q
  | 0, I, X, b, k, hf, hk, hm, h, he, fl, hb, q => absurd hf (by omega)
  | f + 1, I, X, b, k, hf, hk, hm, h, he, fl, hb, q => by
    have h0 := hu.1
    have sg := hm.2.2.2.2.2.sg (c := 59) (by omega)
    have e47 : I 99 47 = X 0 10 := h.2.1.2.2
    have e49 : I 99 49 = b := fl.1
    rw [vlF] at q
    rcases hb with rfl | rfl
    · have bd := he.bd (by decide)
      rw [if_neg (by decide)] at q
      have g48 : ¬ (s k = 59 ∧ ¬ 0 < X 0 10) → am_WP (d + 4) 190 48 [some (vR (some 99))] [] (mkH w I L) Q := by
        intro cE
        rw [B190_48]
        clear sg
        simp (disch := omega) only [Kk, e49, GA, GR, GRc, GO, GI, GL, GV, am_w_i, am_ga, am_it, am_if, true_and, and_true, or_true, true_or, ne_eq, not_false_eq_true, not_true_eq_false, false_imp_iff, true_imp_iff, Int.reduceEq, Int.reduceLT, Int.reduceLE, Int.reduceAdd, Int.reduceSub, Int.reduceMul, Int.reduceNeg]
        refine s189 (d := d) (a0 := a0) hC hu hm h he e49 hk (fun c => ?_) (fun c cs => ?_) (fun c cs => ?_)
        · rw [if_pos c] at q
          have kK := rd_k h0 hk (show s k ≠ 0 by omega)
          refine ⟨fun I1 f1 _ n1 m1 l1 => ?_, fun I1 f1 r1 => absurd rfl r1⟩
          have z := c_sum (d := d) (w := w) (L := L) (Q := Q) hC hu f I1 (eCl X) 0 (k + 1) (by omega) kK m1 n1 (he.cl c.2).1 l1 (Or.inl rfl) (q.tr f1)
          clear q he h hm fl cE
          first | (simp (disch := omega) only [GA, GR, GRc, GO, GI, GL, GV, am_w_i, am_ga, am_it, am_if, true_and, and_true, or_true, true_or, ne_eq, not_false_eq_true, not_true_eq_false, false_imp_iff, true_imp_iff, Int.reduceEq, Int.reduceLT, Int.reduceLE, Int.reduceAdd, Int.reduceSub, Int.reduceMul, Int.reduceNeg]; exact z) | simp (disch := omega) only [z, GA, GR, GRc, GO, GI, GL, GV, am_w_i, am_ga, am_it, am_if, true_and, and_true, or_true, true_or, ne_eq, not_false_eq_true, not_true_eq_false, false_imp_iff, true_imp_iff, Int.reduceEq, Int.reduceLT, Int.reduceLE, Int.reduceAdd, Int.reduceSub, Int.reduceMul, Int.reduceNeg]
        · rw [if_neg c, if_pos cs] at q
          have hw := wbn_of cs.2 cs.1
          have s0 : s k ≠ 0 := fun z => by have := cs.2; rw [z] at this; exact absurd this (by decide)
          have kK := rd_k h0 hk s0
          refine ⟨fun I1 f1 r0 n1 m1 l1 => ?_, fun I1 f1 r1 e4 e5 => ?_⟩
          · rw [if_pos r0] at q
            have z := c_sum (d := d) (w := w) (L := L) (Q := Q) hC hu f I1 (siF s X k).2 1 (k + 1) (by omega) kK m1 n1 (he.sg hw r0).1 l1 (Or.inr rfl) (q.tr f1)
            clear q he h hm fl cE
            first | (simp (disch := omega) only [GA, GR, GRc, GO, GI, GL, GV, am_w_i, am_ga, am_it, am_if, true_and, and_true, or_true, true_or, ne_eq, not_false_eq_true, not_true_eq_false, false_imp_iff, true_imp_iff, Int.reduceEq, Int.reduceLT, Int.reduceLE, Int.reduceAdd, Int.reduceSub, Int.reduceMul, Int.reduceNeg]; exact z) | simp (disch := omega) only [z, GA, GR, GRc, GO, GI, GL, GV, am_w_i, am_ga, am_it, am_if, true_and, and_true, or_true, true_or, ne_eq, not_false_eq_true, not_true_eq_false, false_imp_iff, true_imp_iff, Int.reduceEq, Int.reduceLT, Int.reduceLE, Int.reduceAdd, Int.reduceSub, Int.reduceMul, Int.reduceNeg]
          · rw [if_neg r1] at q
            unfold vlG at q
            rw [if_neg r1] at q
            have z := q.2 I1 f1 r1 e4 e5
            clear q he h hm fl cE
            first | (simp (disch := omega) only [B190_72, GA, GR, GRc, GO, GI, GL, GV, am_w_i, am_ga, am_it, am_if, true_and, and_true, or_true, true_or, ne_eq, not_false_eq_true, not_true_eq_false, false_imp_iff, true_imp_iff, Int.reduceEq, Int.reduceLT, Int.reduceLE, Int.reduceAdd, Int.reduceSub, Int.reduceMul, Int.reduceNeg]; exact z) | simp (disch := omega) only [B190_72, z, GA, GR, GRc, GO, GI, GL, GV, am_w_i, am_ga, am_it, am_if, true_and, and_true, or_true, true_or, ne_eq, not_false_eq_true, not_true_eq_false, false_imp_iff, true_imp_iff, Int.reduceEq, Int.reduceLT, Int.reduceLE, Int.reduceAdd, Int.reduceSub, Int.reduceMul, Int.reduceNeg]
        · rw [if_neg c, if_neg cs] at q
          refine ⟨fun I1 f1 r0 => absurd r0 (by simp), fun I1 f1 _ e4 e5 => ?_⟩
          have z : Q (some (vI 0)) (mkH w I1 L) := by
            by_cases co : 0 < X 0 10
            · rw [if_pos co] at q
              exact q.2 I1 f1 (by unfold vlG; simp) (by rw [e4]; unfold vlG; simp) (by rw [e5]; unfold vlG; simp)
            · rw [if_neg co] at q
              have n59 : ¬ s k = 59 := fun z => cE ⟨z, co⟩
              have ev : vlG s (0, k, eRl 0 (X 0 8).toNat X) = (1, k, eRl 0 (X 0 8).toNat X) := by unfold vlG; rw [if_pos rfl, if_neg n59]
              rw [ev] at q
              exact q.2 I1 f1 (by simp) e4 e5
          clear q he h hm fl cE
          first | (simp (disch := omega) only [B190_72, GA, GR, GRc, GO, GI, GL, GV, am_w_i, am_ga, am_it, am_if, true_and, and_true, or_true, true_or, ne_eq, not_false_eq_true, not_true_eq_false, false_imp_iff, true_imp_iff, Int.reduceEq, Int.reduceLT, Int.reduceLE, Int.reduceAdd, Int.reduceSub, Int.reduceMul, Int.reduceNeg]; exact z) | simp (disch := omega) only [B190_72, z, GA, GR, GRc, GO, GI, GL, GV, am_w_i, am_ga, am_it, am_if, true_and, and_true, or_true, true_or, ne_eq, not_false_eq_true, not_true_eq_false, false_imp_iff, true_imp_iff, Int.reduceEq, Int.reduceLT, Int.reduceLE, Int.reduceAdd, Int.reduceSub, Int.reduceMul, Int.reduceNeg]
      by_cases cE : s k = 59 ∧ ¬ 0 < X 0 10
      · have i59 : (if I 99 8 = 4 ∧ I 99 9 = 59 then (1 : Int) else 0) = 1 := if_pos (sg.2 cE.1)
        have n41 : ¬ (s k = 41 ∧ 0 < X 0 10) := fun z => cE.2 z.2
        have nsg : ¬ (s k ≠ 113 ∧ 0 < bdC (s k)) := fun z => by have := z.2; rw [cE.1] at this; exact absurd this (by decide)
        rw [if_neg n41, if_neg nsg, if_neg cE.2] at q
        have ev : vlG s (0, k, eRl 0 (X 0 8).toNat X) = (0, k, eRl 0 (X 0 8).toNat X) := by unfold vlG; rw [if_pos rfl, if_pos cE.1]
        rw [ev] at q
        have co : X 0 10 ≤ 0 := by have := cE.2; omega
        clear sg g48 n41 nsg cE
        rw [B190_25]
        simp (disch := omega) only [Kk, s162, i59, e49, e47, GA, GR, GRc, GO, GI, GL, GV, am_w_i, am_ga, am_it, am_if, true_and, and_true, or_true, true_or, ne_eq, not_false_eq_true, not_true_eq_false, false_imp_iff, true_imp_iff, Int.reduceEq, Int.reduceLT, Int.reduceLE, Int.reduceAdd, Int.reduceSub, Int.reduceMul, Int.reduceNeg]
        refine s184 (d := d + 2) (X := X) (a0 := a0) (least := 1) h he (by decide) (fun I1 f1 n1 => ?_)
        rw [← eRl_01 he (show X 0 8 = ((X 0 8).toNat : Int) by omega)] at n1
        have z := q.1 I1 f1.b.eg rfl n1 (hm.bf f1.b)
        clear q he h hm fl n1
        first | (simp (disch := omega) only [GA, GR, GRc, GO, GI, GL, GV, am_w_i, am_ga, am_it, am_if, true_and, and_true, or_true, true_or, ne_eq, not_false_eq_true, not_true_eq_false, false_imp_iff, true_imp_iff, Int.reduceEq, Int.reduceLT, Int.reduceLE, Int.reduceAdd, Int.reduceSub, Int.reduceMul, Int.reduceNeg]; exact z) | simp (disch := omega) only [z, GA, GR, GRc, GO, GI, GL, GV, am_w_i, am_ga, am_it, am_if, true_and, and_true, or_true, true_or, ne_eq, not_false_eq_true, not_true_eq_false, false_imp_iff, true_imp_iff, Int.reduceEq, Int.reduceLT, Int.reduceLE, Int.reduceAdd, Int.reduceSub, Int.reduceMul, Int.reduceNeg]
      · have z := g48 cE
        clear q he h hm fl g48
        rw [B190_25]
        by_cases c59 : s k = 59
        · have i59 : (if I 99 8 = 4 ∧ I 99 9 = 59 then (1 : Int) else 0) = 1 := if_pos (sg.2 c59)
          have co : ¬ X 0 10 ≤ 0 := by
            have : ¬ ¬ 0 < X 0 10 := fun t => cE ⟨c59, t⟩
            omega
          clear sg cE
          first | (simp (disch := omega) only [Kk, s162, i59, e49, e47, co, GA, GR, GRc, GO, GI, GL, GV, am_w_i, am_ga, am_it, am_if, true_and, and_true, or_true, true_or, ne_eq, not_false_eq_true, not_true_eq_false, false_imp_iff, true_imp_iff, Int.reduceEq, Int.reduceLT, Int.reduceLE, Int.reduceAdd, Int.reduceSub, Int.reduceMul, Int.reduceNeg]; exact z) | simp (disch := omega) only [Kk, s162, i59, e49, e47, co, z, GA, GR, GRc, GO, GI, GL, GV, am_w_i, am_ga, am_it, am_if, true_and, and_true, or_true, true_or, ne_eq, not_false_eq_true, not_true_eq_false, false_imp_iff, true_imp_iff, Int.reduceEq, Int.reduceLT, Int.reduceLE, Int.reduceAdd, Int.reduceSub, Int.reduceMul, Int.reduceNeg]
        · have i59 : (if I 99 8 = 4 ∧ I 99 9 = 59 then (1 : Int) else 0) = 0 := if_neg (fun t => c59 (sg.1 t))
          clear sg cE
          first | (simp (disch := omega) only [Kk, s162, i59, GA, GR, GRc, GO, GI, GL, GV, am_w_i, am_ga, am_it, am_if, true_and, and_true, or_true, true_or, ne_eq, not_false_eq_true, not_true_eq_false, false_imp_iff, true_imp_iff, Int.reduceEq, Int.reduceLT, Int.reduceLE, Int.reduceAdd, Int.reduceSub, Int.reduceMul, Int.reduceNeg]; exact z) | simp (disch := omega) only [Kk, s162, i59, z, GA, GR, GRc, GO, GI, GL, GV, am_w_i, am_ga, am_it, am_if, true_and, and_true, or_true, true_or, ne_eq, not_false_eq_true, not_true_eq_false, false_imp_iff, true_imp_iff, Int.reduceEq, Int.reduceLT, Int.reduceLE, Int.reduceAdd, Int.reduceSub, Int.reduceMul, Int.reduceNeg]
    · rw [if_pos rfl] at q
      have g48 : am_WP (d + 4) 190 48 [some (vR (some 99))] [] (mkH w I L) Q := by
        rw [B190_48]
        clear sg
        simp (disch := omega) only [Kk, e49, GA, GR, GRc, GO, GI, GL, GV, am_w_i, am_ga, am_it, am_if, true_and, and_true, or_true, true_or, ne_eq, not_false_eq_true, not_true_eq_false, false_imp_iff, true_imp_iff, Int.reduceEq, Int.reduceLT, Int.reduceLE, Int.reduceAdd, Int.reduceSub, Int.reduceMul, Int.reduceNeg]
        refine s188 (d := d) (a0 := a0) hC hu hm h he fl hk ⟨fun I1 f1 r0 n1 m1 l1 => ?_, fun I1 f1 r1 e4 e5 => ?_⟩
        · rw [if_pos r0] at q
          have kK := rd_k h0 hk (ptF_0 r0)
          have z := c_sum (d := d) (w := w) (L := L) (Q := Q) hC hu f I1 (ptF s u X k).2 (wnF s k) (k + 1) (by omega) kK m1 n1 (he.pt (fun z => (hu.2.2.1 k hk z).1) r0).1 l1 (by unfold wnF; split <;> simp) (q.tr f1)
          clear q he h hm fl
          first | (simp (disch := omega) only [GA, GR, GRc, GO, GI, GL, GV, am_w_i, am_ga, am_it, am_if, true_and, and_true, or_true, true_or, ne_eq, not_false_eq_true, not_true_eq_false, false_imp_iff, true_imp_iff, Int.reduceEq, Int.reduceLT, Int.reduceLE, Int.reduceAdd, Int.reduceSub, Int.reduceMul, Int.reduceNeg]; exact z) | simp (disch := omega) only [z, GA, GR, GRc, GO, GI, GL, GV, am_w_i, am_ga, am_it, am_if, true_and, and_true, or_true, true_or, ne_eq, not_false_eq_true, not_true_eq_false, false_imp_iff, true_imp_iff, Int.reduceEq, Int.reduceLT, Int.reduceLE, Int.reduceAdd, Int.reduceSub, Int.reduceMul, Int.reduceNeg]
        · rw [if_neg r1] at q
          unfold vlG at q
          rw [if_neg r1] at q
          have z := q.2 I1 f1 r1 e4 e5
          clear q he h hm fl
          first | (simp (disch := omega) only [B190_72, GA, GR, GRc, GO, GI, GL, GV, am_w_i, am_ga, am_it, am_if, true_and, and_true, or_true, true_or, ne_eq, not_false_eq_true, not_true_eq_false, false_imp_iff, true_imp_iff, Int.reduceEq, Int.reduceLT, Int.reduceLE, Int.reduceAdd, Int.reduceSub, Int.reduceMul, Int.reduceNeg]; exact z) | simp (disch := omega) only [B190_72, z, GA, GR, GRc, GO, GI, GL, GV, am_w_i, am_ga, am_it, am_if, true_and, and_true, or_true, true_or, ne_eq, not_false_eq_true, not_true_eq_false, false_imp_iff, true_imp_iff, Int.reduceEq, Int.reduceLT, Int.reduceLE, Int.reduceAdd, Int.reduceSub, Int.reduceMul, Int.reduceNeg]
      have z := g48
      clear q he h hm fl g48
      rw [B190_25]
      by_cases c59 : s k = 59
      · have i59 : (if I 99 8 = 4 ∧ I 99 9 = 59 then (1 : Int) else 0) = 1 := if_pos (sg.2 c59)
        clear sg
        first | (simp (disch := omega) only [Kk, s162, i59, e49, GA, GR, GRc, GO, GI, GL, GV, am_w_i, am_ga, am_it, am_if, true_and, and_true, or_true, true_or, ne_eq, not_false_eq_true, not_true_eq_false, false_imp_iff, true_imp_iff, Int.reduceEq, Int.reduceLT, Int.reduceLE, Int.reduceAdd, Int.reduceSub, Int.reduceMul, Int.reduceNeg]; exact z) | simp (disch := omega) only [Kk, s162, i59, e49, z, GA, GR, GRc, GO, GI, GL, GV, am_w_i, am_ga, am_it, am_if, true_and, and_true, or_true, true_or, ne_eq, not_false_eq_true, not_true_eq_false, false_imp_iff, true_imp_iff, Int.reduceEq, Int.reduceLT, Int.reduceLE, Int.reduceAdd, Int.reduceSub, Int.reduceMul, Int.reduceNeg]
      · have i59 : (if I 99 8 = 4 ∧ I 99 9 = 59 then (1 : Int) else 0) = 0 := if_neg (fun t => c59 (sg.1 t))
        clear sg
        first | (simp (disch := omega) only [Kk, s162, i59, GA, GR, GRc, GO, GI, GL, GV, am_w_i, am_ga, am_it, am_if, true_and, and_true, or_true, true_or, ne_eq, not_false_eq_true, not_true_eq_false, false_imp_iff, true_imp_iff, Int.reduceEq, Int.reduceLT, Int.reduceLE, Int.reduceAdd, Int.reduceSub, Int.reduceMul, Int.reduceNeg]; exact z) | simp (disch := omega) only [Kk, s162, i59, z, GA, GR, GRc, GO, GI, GL, GV, am_w_i, am_ga, am_it, am_if, true_and, and_true, or_true, true_or, ne_eq, not_false_eq_true, not_true_eq_false, false_imp_iff, true_imp_iff, Int.reduceEq, Int.reduceLT, Int.reduceLE, Int.reduceAdd, Int.reduceSub, Int.reduceMul, Int.reduceNeg]
theorem s190 {d : Nat} {w : Nat × Nat × Nat × Nat} {I L : Nat → Int → Int} {s u pl P : Nat → Int} {K k : Nat} {T : Int → Int} {n : Int} {X : (Nat → Int → Int)} (hC : TC s u pl P K T n) (hu : TU s u K) (hm : mT s u pl P T n k I) (e20 : I 99 20 = X 0 6) (e48 : I 99 48 = X 0 4) (hr : ∀ j, 0 ≤ j → j < X 0 6 → I 120 (64 + j) = X 19 j ∧ I 121 (64 + j) = X 20 j ∧ I 122 (64 + j) = X 21 j) (e8 : X 0 8 = 0) (e9 : X 0 9 = 0) (e10 : X 0 10 = 0) (h6 : 0 ≤ X 0 6) (h4 : X 0 4 = X 0 6) (h64 : X 0 4 ≤ 64) (hk : k ≤ K) {Q : Option am_V → am_H → Prop} (q : MEo w I s u pl P T n L (vlG s (vlF s u (K + 1 - k) X 1 k)) Q) : am_Sp (d + 4) 190 [vR (some 99)] (mkH w I L) Q := by
  have bf : BF I (am_up (am_up (am_up (am_up (am_up I 99 45 0) 99 46 0) 99 47 0) 99 49 1) 99 50 1) := ((((BF.rf.f (by decide)).f (by decide)).f (by decide)).f (by decide)).f (by decide)
  have ne : NE (am_up (am_up (am_up (am_up (am_up I 99 45 0) 99 46 0) 99 47 0) 99 49 1) 99 50 1) X := by
    unfold NE
    simp (disch := decide) only [am_up_a, am_up_n, am_up_s]
    rw [e8, e9, e10]
    exact ⟨⟨e20, e48⟩, ⟨rfl, rfl, rfl⟩, hr, fun j a b => by omega, fun j a b => by omega⟩
  have fl : FL 1 (am_up (am_up (am_up (am_up (am_up I 99 45 0) 99 46 0) 99 47 0) 99 49 1) 99 50 1) X := by
    refine ⟨by rw [am_up_n _ _ _ _ (by decide), am_up_s], fun _ => ?_⟩
    rw [am_up_s]
    unfold eLs
    rw [e8, if_neg (by decide), show bdC 0 = 0 by decide]
    decide
  have z := c_sum (d := d) (w := w) (L := L) (a0 := X 0 6) (Q := Q) hC hu (K + 1 - k) _ X 1 k (by omega) hk (hm.bf bf) ne (EI.st h6 rfl e8 e9 e10 h4 h64) fl (Or.inr rfl) (q.tr bf.eg)
  clear q hm ne fl bf hr
  rw [S190]
  first | (simp (disch := omega) only [Kk, B190_5, B190_10, B190_15, B190_20, GA, GR, GRc, GO, GI, GL, GV, am_w_i, am_ga, am_it, am_if, true_and, and_true, or_true, true_or, ne_eq, not_false_eq_true, not_true_eq_false, false_imp_iff, true_imp_iff, Int.reduceEq, Int.reduceLT, Int.reduceLE, Int.reduceAdd, Int.reduceSub, Int.reduceMul, Int.reduceNeg]; exact z) | simp (disch := omega) only [Kk, B190_5, B190_10, B190_15, B190_20, z, GA, GR, GRc, GO, GI, GL, GV, am_w_i, am_ga, am_it, am_if, true_and, and_true, or_true, true_or, ne_eq, not_false_eq_true, not_true_eq_false, false_imp_iff, true_imp_iff, Int.reduceEq, Int.reduceLT, Int.reduceLE, Int.reduceAdd, Int.reduceSub, Int.reduceMul, Int.reduceNeg]
/-- what an E keeps, whole -/
theorem vlF_e {s u : Nat → Int} {K : Nat} {a0 : Int} (hu : TU s u K) : ∀ {f : Nat} {X : (Nat → Int → Int)} {b : Int} {k : Nat}, k ≤ K → EI a0 b X → (b = 0 ∨ b = 1) → (vlF s u f X b k).1 = 0 → EI a0 0 (vlF s u f X b k).2.2 ∧ (vlF s u f X b k).2.2 0 10 = 0 ∧ (vlF s u f X b k).2.2 0 8 = 0 ∧ XF X (vlF s u f X b k).2.2
  | 0, X, b, k, hk, he, hb, h => by rw [vlF] at h; simp at h
  | f + 1, X, b, k, hk, he, hb, h => by
    have h0 := hu.1
    rw [vlF] at h ⊢
    rcases hb with rfl | rfl
    · rw [if_neg (by decide)] at h ⊢
      have bd := he.bd (by decide)
      by_cases c1 : s k = 41 ∧ 0 < X 0 10
      · rw [if_pos c1] at h ⊢
        have r := vlF_e hu (rd_k h0 hk (show s k ≠ 0 by omega)) (he.cl c1.2).1 (Or.inl rfl) h
        exact ⟨r.1, r.2.1, r.2.2.1, (((XF.rf.rl).z (by decide)).z (by decide)).tr r.2.2.2⟩
      · rw [if_neg c1] at h ⊢
        by_cases c2 : s k ≠ 113 ∧ 0 < bdC (s k)
        · rw [if_pos c2] at h ⊢
          have s0 : s k ≠ 0 := fun z => by have := c2.2; rw [z] at this; exact absurd this (by decide)
          by_cases c3 : (siF s X k).1 = 0
          · rw [if_pos c3] at h ⊢
            have sg := he.sg (wbn_of c2.2 c2.1) c3
            have r := vlF_e hu (rd_k h0 hk s0) sg.1 (Or.inr rfl) h
            exact ⟨r.1, r.2.1, r.2.2.1, sg.2.tr r.2.2.2⟩
          · rw [if_neg c3] at h; exact absurd h c3
        · rw [if_neg c2] at h ⊢
          by_cases c3 : 0 < X 0 10
          · rw [if_pos c3] at h; simp at h
          · rw [if_neg c3] at h ⊢
            have r := EI.rl (least := 0) (m := (X 0 8).toNat) he (by omega)
            have xf := XF.rl (least := 0) (m := (X 0 8).toNat) (XF.rf (X := X))
            dsimp only
            generalize eRl 0 (X 0 8).toNat X = Y at r xf ⊢
            obtain ⟨y, ⟨y10, y22, y4⟩, yS⟩ := r
            refine ⟨y, by omega, ?_, xf⟩
            rcases yS with z | ⟨z0, z⟩
            · exact z
            · exfalso
              obtain ⟨m, hm⟩ : ∃ m : Nat, Y 0 8 = (m : Int) + 1 := ⟨(Y 0 8 - 1).toNat, by omega⟩
              have co := y.2.2.1.1
              rw [show (Y 0 8).toNat = m + 1 by omega, coF] at co
              have cb := cbF_b (f := Y 22) m
              have wp := y.2.1 m (by omega) (by omega)
              rw [← y22, show Y 0 8 - 1 = (m : Int) by omega] at z
              by_cases c4 : Y 22 m = 40
              · rw [if_pos c4] at co; omega
              · have := wcd_p wp c4
                rcases z with z | z
                · exact c4 z
                · omega
    · rw [if_pos rfl] at h ⊢
      by_cases c1 : (ptF s u X k).1 = 0
      · rw [if_pos c1] at h ⊢
        have pt := he.pt (fun z => (hu.2.2.1 k hk z).1) c1
        have r := vlF_e hu (rd_k h0 hk (ptF_0 c1)) pt.1 (by unfold wnF; split <;> simp) h
        exact ⟨r.1, r.2.1, r.2.2.1, pt.2.tr r.2.2.2⟩
      · rw [if_neg c1] at h; exact absurd h c1
