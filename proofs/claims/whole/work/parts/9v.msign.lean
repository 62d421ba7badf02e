/-! 9v: an E, the reference: signs -/
theorem mpC_0 {x : Int} (h : ¬ (x ≠ 113 ∧ 0 < bdC x)) : (if x = 113 then 0 else mpC x) = 0 := by
  by_cases c : x = 113
  · rw [if_pos c]
  · rw [if_neg c]
    have hb : ¬ 0 < bdC x := fun z => h ⟨c, z⟩
    unfold mpC
    unfold bdC at hb
    repeat' split
    all_goals first
      | rfl
      | (exfalso; apply hb; simp_all)
theorem eRs_1 {x : Int} (h : 0 < bdC x) : 1 ≤ eRs x := by unfold eRs; split <;> omega
set_option maxHeartbeats 6000000 in
theorem c_sg {d : Nat} {w : Nat × Nat × Nat × Nat} {I L : Nat → Int → Int} {s u pl P : Nat → Int} {K k : Nat} {T : Int → Int} {n a0 : Int} {X : (Nat → Int → Int)} (hC : TC s u pl P K T n) (hu : TU s u K) (hm : mT s u pl P T n k I) (h : NE I X) (he : EI a0 0 X) (hw : wbn (s k)) (hk : k ≤ K) {Q : Option am_V → am_H → Prop} (q : MPo w I s u pl P T n L k (siF s X k) 1 Q) : am_WP (d + 3) 189 147 [some (vR (some 99)), none] [vI (mpC (s k))] (mkH w I L) Q := by
  have h0 := hu.1
  have at10 := hm.2.2.2.2.1
  have b0 := he.bd (by decide)
  have wv := wbn_b hw
  have s0 : s k ≠ 0 := fun z => by have := wv.1; rw [z] at this; exact absurd this (by decide)
  have kK := rd_k h0 hk s0
  have r := EI.rl (least := eRs (s k)) (m := (X 0 8).toNat) he (by omega)
  have mn : ¬ mpC (s k) = 0 := by omega
  have rk := wv.2.2.2.2.2.2.2.1
  have rest : am_WP (d + 3) 189 175 [some (vR (some 99)), some (vI (mpC (s k)))] [vI (eRs (s k)), vR (some 99)] (mkH w I L) Q := by
    rw [B189_175]
    refine ⟨rfl, s184 (d := d + 1) (X := X) (a0 := a0) (least := eRs (s k)) h he (eRs_1 wv.1) (fun I1 f1 n1 => ?_)⟩
    unfold siF at q
    generalize eRl (eRs (s k)) (X 0 8).toNat X = Y at r n1 q
    obtain ⟨y, ⟨y10, y22, y4⟩, yS⟩ := r
    have bY := y.bd (by decide)
    have bx := y.2.2.2.2.1.1
    have m1 := hm.bf f1.b
    have e10 : I1 99 10 = pl k := m1.2.2.2.2.1
    have e45 : I1 99 45 = Y 0 8 := n1.2.1.1
    have e48 : I1 99 48 = Y 0 4 := n1.1.2
    have g45 : am_up I1 99 48 (Y 0 4 + 1) 99 45 = Y 0 8 := by rw [am_up_n _ _ _ _ (by decide)]; exact e45
    have s185' : Y 0 4 < 64 → ∀ Q, am_Sp (d + 2) 185 [vR (some 99)] (mkH w I1 L) Q ↔ Q (some (vI 1)) (mkH w (am_up I1 99 48 (Y 0 4 + 1)) L) := fun hx Q => by rw [s185a (by omega), e48]
    have s185n : ¬ Y 0 4 < 64 → ∀ Q, am_Sp (d + 2) 185 [vR (some 99)] (mkH w I1 L) Q ↔ Q (some (vI 0)) (mkH w (am_up (am_up I1 99 4 2) 99 5 (pl k)) L) := fun hx Q => by rw [s185b (by omega) e10]
    have s186' : Y 0 4 < 64 → ∀ v Q, am_Sp (d + 2) 186 [vR (some 99), vI v] (mkH w (am_up I1 99 48 (Y 0 4 + 1)) L) Q ↔ Q none (mkH w (am_up (am_up (am_up I1 99 48 (Y 0 4 + 1)) 123 (Y 0 8) v) 99 45 (Y 0 8 + 1)) L) := fun hx v Q => by rw [s186 (by rw [g45]; omega), g45]
    have wtop : 0 < Y 0 8 → I1 123 (Y 0 8 - 1) = mpC (Y 22 (Y 0 8 - 1)) ∧ rkC (mpC (Y 22 (Y 0 8 - 1))) = bdC (eLs Y) := fun z => by
      refine ⟨n1.2.2.2.1 _ (by omega) (by omega), ?_⟩
      have := (wcd_r (y.2.1 (Y 0 8 - 1) (by omega) (by omega))).1
      unfold eLs; rw [if_pos z]; exact this
    have ct := n1.ct
    have c8 : eCt Y 0 8 = Y 0 8 := by unfold eCt; rw [am_up_n _ _ _ _ (by decide)]
    by_cases cf : bdC (s k) = 4 ∧ bdC (eLs Y) = 4
    · rw [if_pos cf] at q
      have z := q.bad f1.b.e (by simp)
      have p8 : 0 < Y 0 8 := by
        by_cases c : 0 < Y 0 8
        · exact c
        · have := cf.2
          unfold eLs at this
          rw [if_neg c] at this
          exact absurd this (by decide)
      have wt := wtop p8
      rw [cf.2] at wt
      have wt1 := wt.1
      have wt2 := wt.2
      have cf1 := cf.1
      clear q s185' s185n s186' ct n1 y he h wtop hm
      first | (simp (disch := omega) only [Kk, Kp, s181, rk, cf1, e45, wt1, wt2, s154 e10, GA, GR, GRc, GO, GI, GL, GV, am_w_i, am_ga, am_it, am_if, true_and, and_true, or_true, true_or, ne_eq, not_false_eq_true, not_true_eq_false, false_imp_iff, true_imp_iff, Int.reduceEq, Int.reduceLT, Int.reduceLE, Int.reduceAdd, Int.reduceSub, Int.reduceMul, Int.reduceNeg]; exact z) | simp (disch := omega) only [Kk, Kp, s181, rk, cf1, e45, wt1, wt2, s154 e10, z, GA, GR, GRc, GO, GI, GL, GV, am_w_i, am_ga, am_it, am_if, true_and, and_true, or_true, true_or, ne_eq, not_false_eq_true, not_true_eq_false, false_imp_iff, true_imp_iff, Int.reduceEq, Int.reduceLT, Int.reduceLE, Int.reduceAdd, Int.reduceSub, Int.reduceMul, Int.reduceNeg]
    · rw [if_neg cf] at q
      have g : am_WP (d + 3) 189 217 [some (vR (some 99)), some (vI (mpC (s k)))] [] (mkH w I1 L) Q := by
        rw [B189_217]
        by_cases cb : X 0 4 < 64
        · rw [if_pos cb] at q
          have ne := ct.ps (v := s k)
          rw [c8] at ne
          have b3 : BF I (am_up (am_up (am_up (am_up I1 99 48 (Y 0 4 + 1)) 123 (Y 0 8) (mpC (s k))) 99 45 (Y 0 8 + 1)) 99 49 1)   := (((f1.b.f (by decide)).w (by decide)).f (by decide)).f (by decide)
          have s185' := s185' (by omega)
          have s186' := s186' (by omega)
          by_cases c3 : 3 ≤ bdC (s k)
          · have bf := b3.f (i := 50) (v := 0) (by decide)
            have ok := q.ok bf rfl ((ne.fl (i := 49) (v := 1) (by decide)).fl (i := 50) (v := 0) (by decide)) ⟨by rw [am_up_n _ _ _ _ (by decide), am_up_s], fun _ => by
              rw [am_up_s, eLs_ps (by omega)]; exact ⟨fun _ => by omega, fun _ => rfl⟩⟩
            have mb := hm.bf bf
            clear q ne b3 bf he h hm ct n1 y wtop s185n
            simp (disch := omega) only [Kk, s185', s186', B189_236, s181, rk, c3, B189_250, B189_253, GA, GR, GRc, GO, GI, GL, GV, am_w_i, am_ga, am_it, am_if, true_and, and_true, or_true, true_or, ne_eq, not_false_eq_true, not_true_eq_false, false_imp_iff, true_imp_iff, Int.reduceEq, Int.reduceLT, Int.reduceLE, Int.reduceAdd, Int.reduceSub, Int.reduceMul, Int.reduceNeg]
            generalize am_up (am_up (am_up (am_up (am_up I1 99 48 (Y 0 4 + 1)) 123 (Y 0 8) (mpC (s k))) 99 45 (Y 0 8 + 1)) 99 49 1) 99 50 0 = J at ok mb ⊢
            refine t158 hC mb kK (fun I2 t2 m2 => ?_)
            have z := ok I2 t2 m2
            clear ok
            first | (simp (disch := omega) only [GA, GR, GRc, GO, GI, GL, GV, am_w_i, am_ga, am_it, am_if, true_and, and_true, or_true, true_or, ne_eq, not_false_eq_true, not_true_eq_false, false_imp_iff, true_imp_iff, Int.reduceEq, Int.reduceLT, Int.reduceLE, Int.reduceAdd, Int.reduceSub, Int.reduceMul, Int.reduceNeg]; exact z) | simp (disch := omega) only [z, GA, GR, GRc, GO, GI, GL, GV, am_w_i, am_ga, am_it, am_if, true_and, and_true, or_true, true_or, ne_eq, not_false_eq_true, not_true_eq_false, false_imp_iff, true_imp_iff, Int.reduceEq, Int.reduceLT, Int.reduceLE, Int.reduceAdd, Int.reduceSub, Int.reduceMul, Int.reduceNeg]
          · have bf := b3.f (i := 50) (v := 1) (by decide)
            have ok := q.ok bf rfl ((ne.fl (i := 49) (v := 1) (by decide)).fl (i := 50) (v := 1) (by decide)) ⟨by rw [am_up_n _ _ _ _ (by decide), am_up_s], fun _ => by
              rw [am_up_s, eLs_ps (by omega)]; exact ⟨fun z => by omega, fun z => by omega⟩⟩
            have mb := hm.bf bf
            clear q ne b3 bf he h hm ct n1 y wtop s185n
            simp (disch := omega) only [Kk, s185', s186', B189_236, s181, rk, c3, B189_250, B189_253, GA, GR, GRc, GO, GI, GL, GV, am_w_i, am_ga, am_it, am_if, true_and, and_true, or_true, true_or, ne_eq, not_false_eq_true, not_true_eq_false, false_imp_iff, true_imp_iff, Int.reduceEq, Int.reduceLT, Int.reduceLE, Int.reduceAdd, Int.reduceSub, Int.reduceMul, Int.reduceNeg]
            generalize am_up (am_up (am_up (am_up (am_up I1 99 48 (Y 0 4 + 1)) 123 (Y 0 8) (mpC (s k))) 99 45 (Y 0 8 + 1)) 99 49 1) 99 50 1 = J at ok mb ⊢
            refine t158 hC mb kK (fun I2 t2 m2 => ?_)
            have z := ok I2 t2 m2
            clear ok
            first | (simp (disch := omega) only [GA, GR, GRc, GO, GI, GL, GV, am_w_i, am_ga, am_it, am_if, true_and, and_true, or_true, true_or, ne_eq, not_false_eq_true, not_true_eq_false, false_imp_iff, true_imp_iff, Int.reduceEq, Int.reduceLT, Int.reduceLE, Int.reduceAdd, Int.reduceSub, Int.reduceMul, Int.reduceNeg]; exact z) | simp (disch := omega) only [z, GA, GR, GRc, GO, GI, GL, GV, am_w_i, am_ga, am_it, am_if, true_and, and_true, or_true, true_or, ne_eq, not_false_eq_true, not_true_eq_false, false_imp_iff, true_imp_iff, Int.reduceEq, Int.reduceLT, Int.reduceLE, Int.reduceAdd, Int.reduceSub, Int.reduceMul, Int.reduceNeg]
        · rw [if_neg cb] at q
          have z := q.bad f1.b.e (by simp)
          have s185n := s185n (by omega)
          clear q s185' s186' ct n1 y he h hm wtop
          first | (simp (disch := omega) only [Kk, s185n, GA, GR, GRc, GO, GI, GL, GV, am_w_i, am_ga, am_it, am_if, true_and, and_true, or_true, true_or, ne_eq, not_false_eq_true, not_true_eq_false, false_imp_iff, true_imp_iff, Int.reduceEq, Int.reduceLT, Int.reduceLE, Int.reduceAdd, Int.reduceSub, Int.reduceMul, Int.reduceNeg]; exact z) | simp (disch := omega) only [Kk, s185n, z, GA, GR, GRc, GO, GI, GL, GV, am_w_i, am_ga, am_it, am_if, true_and, and_true, or_true, true_or, ne_eq, not_false_eq_true, not_true_eq_false, false_imp_iff, true_imp_iff, Int.reduceEq, Int.reduceLT, Int.reduceLE, Int.reduceAdd, Int.reduceSub, Int.reduceMul, Int.reduceNeg]
      clear q s185' s185n s186' ct n1 he h hm
      by_cases c4 : bdC (s k) = 4
      · have c5 : ¬ bdC (eLs Y) = 4 := fun z => cf ⟨c4, z⟩
        by_cases p8 : 0 < Y 0 8
        · have wt := wtop p8
          have wt1 := wt.1
          have wt2 := wt.2
          clear wtop y
          have z := g
          first | (simp (disch := omega) only [Kk, Kp, s181, rk, c4, e45, wt1, wt2, c5, GA, GR, GRc, GO, GI, GL, GV, am_w_i, am_ga, am_it, am_if, true_and, and_true, or_true, true_or, ne_eq, not_false_eq_true, not_true_eq_false, false_imp_iff, true_imp_iff, Int.reduceEq, Int.reduceLT, Int.reduceLE, Int.reduceAdd, Int.reduceSub, Int.reduceMul, Int.reduceNeg]; exact z) | simp (disch := omega) only [Kk, Kp, s181, rk, c4, e45, wt1, wt2, c5, z, GA, GR, GRc, GO, GI, GL, GV, am_w_i, am_ga, am_it, am_if, true_and, and_true, or_true, true_or, ne_eq, not_false_eq_true, not_true_eq_false, false_imp_iff, true_imp_iff, Int.reduceEq, Int.reduceLT, Int.reduceLE, Int.reduceAdd, Int.reduceSub, Int.reduceMul, Int.reduceNeg]
        · clear wtop y
          have z := g
          first | (simp (disch := omega) only [Kk, Kp, s181, rk, c4, e45, GA, GR, GRc, GO, GI, GL, GV, am_w_i, am_ga, am_it, am_if, true_and, and_true, or_true, true_or, ne_eq, not_false_eq_true, not_true_eq_false, false_imp_iff, true_imp_iff, Int.reduceEq, Int.reduceLT, Int.reduceLE, Int.reduceAdd, Int.reduceSub, Int.reduceMul, Int.reduceNeg]; exact z) | simp (disch := omega) only [Kk, Kp, s181, rk, c4, e45, z, GA, GR, GRc, GO, GI, GL, GV, am_w_i, am_ga, am_it, am_if, true_and, and_true, or_true, true_or, ne_eq, not_false_eq_true, not_true_eq_false, false_imp_iff, true_imp_iff, Int.reduceEq, Int.reduceLT, Int.reduceLE, Int.reduceAdd, Int.reduceSub, Int.reduceMul, Int.reduceNeg]
      · clear wtop y
        have z := g
        first | (simp (disch := omega) only [Kk, Kp, s181, rk, c4, GA, GR, GRc, GO, GI, GL, GV, am_w_i, am_ga, am_it, am_if, true_and, and_true, or_true, true_or, ne_eq, not_false_eq_true, not_true_eq_false, false_imp_iff, true_imp_iff, Int.reduceEq, Int.reduceLT, Int.reduceLE, Int.reduceAdd, Int.reduceSub, Int.reduceMul, Int.reduceNeg]; exact z) | simp (disch := omega) only [Kk, Kp, s181, rk, c4, z, GA, GR, GRc, GO, GI, GL, GV, am_w_i, am_ga, am_it, am_if, true_and, and_true, or_true, true_or, ne_eq, not_false_eq_true, not_true_eq_false, false_imp_iff, true_imp_iff, Int.reduceEq, Int.reduceLT, Int.reduceLE, Int.reduceAdd, Int.reduceSub, Int.reduceMul, Int.reduceNeg]
  clear q he h hm r
  rw [B189_147]
  by_cases c4 : bdC (s k) = 4
  · have es : eRs (s k) = 5 := by unfold eRs; rw [if_pos c4]
    rw [es] at rest
    have z := rest
    clear rest
    first | (simp (disch := omega) only [mn, s181, rk, c4, GA, GR, GRc, GO, GI, GL, GV, am_w_i, am_ga, am_it, am_if, true_and, and_true, or_true, true_or, ne_eq, not_false_eq_true, not_true_eq_false, false_imp_iff, true_imp_iff, Int.reduceEq, Int.reduceLT, Int.reduceLE, Int.reduceAdd, Int.reduceSub, Int.reduceMul, Int.reduceNeg]; exact z) | simp (disch := omega) only [mn, s181, rk, c4, z, GA, GR, GRc, GO, GI, GL, GV, am_w_i, am_ga, am_it, am_if, true_and, and_true, or_true, true_or, ne_eq, not_false_eq_true, not_true_eq_false, false_imp_iff, true_imp_iff, Int.reduceEq, Int.reduceLT, Int.reduceLE, Int.reduceAdd, Int.reduceSub, Int.reduceMul, Int.reduceNeg]
  · have es : eRs (s k) = bdC (s k) := by unfold eRs; rw [if_neg c4]
    rw [es] at rest
    have z := rest
    clear rest
    first | (simp (disch := omega) only [mn, s181, rk, c4, GA, GR, GRc, GO, GI, GL, GV, am_w_i, am_ga, am_it, am_if, true_and, and_true, or_true, true_or, ne_eq, not_false_eq_true, not_true_eq_false, false_imp_iff, true_imp_iff, Int.reduceEq, Int.reduceLT, Int.reduceLE, Int.reduceAdd, Int.reduceSub, Int.reduceMul, Int.reduceNeg]; exact z) | simp (disch := omega) only [mn, s181, rk, c4, z, GA, GR, GRc, GO, GI, GL, GV, am_w_i, am_ga, am_it, am_if, true_and, and_true, or_true, true_or, ne_eq, not_false_eq_true, not_true_eq_false, false_imp_iff, true_imp_iff, Int.reduceEq, Int.reduceLT, Int.reduceLE, Int.reduceAdd, Int.reduceSub, Int.reduceMul, Int.reduceNeg]
set_option maxHeartbeats 6000000 in
theorem s189 {d : Nat} {w : Nat × Nat × Nat × Nat} {I L : Nat → Int → Int} {s u pl P : Nat → Int} {K k : Nat} {T : Int → Int} {n a0 : Int} {X : (Nat → Int → Int)} (hC : TC s u pl P K T n) (hu : TU s u K) (hm : mT s u pl P T n k I) (h : NE I X) (he : EI a0 0 X) (f49 : I 99 49 = 0) (hk : k ≤ K) {Q : Option am_V → am_H → Prop} (q1 : s k = 41 ∧ 0 < X 0 10 → MPo w I s u pl P T n L k (0, eCl X) 0 Q) (q2 : ¬ (s k = 41 ∧ 0 < X 0 10) → (s k ≠ 113 ∧ 0 < bdC (s k)) → MPo w I s u pl P T n L k (siF s X k) 1 Q) (q3 : ¬ (s k = 41 ∧ 0 < X 0 10) → ¬ (s k ≠ 113 ∧ 0 < bdC (s k)) → MPo w I s u pl P T n L k (1, X) 0 Q) : am_Sp (d + 3) 189 [vR (some 99)] (mkH w I L) Q := by
  have tr := hm.2.2.2.2.2
  have at10 := hm.2.2.2.2.1
  have h0 := hu.1
  have bd := he.bd (by decide)
  have e47 : I 99 47 = X 0 10 := h.2.1.2.2
  have sg41 := tr.sg (c := 41) (by omega)
  rw [S189]
  by_cases c41 : s k = 41 ∧ 0 < X 0 10
  · have q := q1 c41
    clear q1 q2 q3
    have i41 : (if I 99 8 = 4 ∧ I 99 9 = 41 then (1 : Int) else 0) = 1 := if_pos (sg41.2 c41.1)
    have c2 := c41.2
    have kK := rd_k h0 hk (show s k ≠ 0 by omega)
    clear tr sg41
    simp (disch := omega) only [Kk, s162, i41, e47, GA, GR, GRc, GO, GI, GL, GV, am_w_i, am_ga, am_it, am_if, true_and, and_true, or_true, true_or, ne_eq, not_false_eq_true, not_true_eq_false, false_imp_iff, true_imp_iff, Int.reduceEq, Int.reduceLT, Int.reduceLE, Int.reduceAdd, Int.reduceSub, Int.reduceMul, Int.reduceNeg]
    refine s184 (d := d + 1) (X := X) (a0 := a0) (least := 1) h he (by decide) (fun I1 f1 n1 => ?_)
    rw [← eRl_01 he (show X 0 8 = ((X 0 8).toNat : Int) by omega)] at n1
    have r := EI.rl (least := 0) (m := (X 0 8).toNat) he (by omega)
    have cl := he.cl c2
    have ne : NE (am_up (am_up I1 99 45 (eRl 0 (X 0 8).toNat X 0 8 - 1)) 99 47 (eRl 0 (X 0 8).toNat X 0 10 - 1)) (eCl X) := by
      have := n1.w0.o (v := eRl 0 (X 0 8).toNat X 0 10 - 1)
      unfold eCl; exact this
    have i45 : I1 99 45 = eRl 0 (X 0 8).toNat X 0 8 := n1.2.1.1
    have i47 : I1 99 47 = eRl 0 (X 0 8).toNat X 0 10 := n1.2.1.2.2
    have bY := r.1.bd (by decide)
    have y10 := r.2.1.1
    have cl2 := cl.2
    have bf := (f1.b.f (i := 45) (v := eRl 0 (X 0 8).toNat X 0 8 - 1) (by decide)).f (i := 47) (v := eRl 0 (X 0 8).toNat X 0 10 - 1) (by decide)
    have ok := q.ok bf rfl ne ⟨by rw [am_up_n _ _ _ _ (by decide), am_up_n _ _ _ _ (by decide), f1.2.2 49 (by decide) (by decide)]; exact f49, fun z => absurd z (by decide)⟩
    have mb := hm.bf bf
    clear q ne he h hm n1 r cl bf
    generalize eRl 0 (X 0 8).toNat X 0 8 = y8 at i45 bY ok mb cl2
    generalize eRl 0 (X 0 8).toNat X 0 10 = y10' at i47 bY y10 ok mb
    simp (disch := omega) only [Kk, i45, i47, am_up_n, B189_31, B189_41, GA, GR, GRc, GO, GI, GL, GV, am_w_i, am_ga, am_it, am_if, true_and, and_true, or_true, true_or, ne_eq, not_false_eq_true, not_true_eq_false, false_imp_iff, true_imp_iff, Int.reduceEq, Int.reduceLT, Int.reduceLE, Int.reduceAdd, Int.reduceSub, Int.reduceMul, Int.reduceNeg]
    generalize am_up (am_up I1 99 45 (y8 - 1)) 99 47 (y10' - 1) = J at ok mb ⊢
    refine t158 hC mb kK (fun I2 t2 m2 => ?_)
    have z := ok I2 t2 m2
    clear ok
    first | (simp (disch := omega) only [GA, GR, GRc, GO, GI, GL, GV, am_w_i, am_ga, am_it, am_if, true_and, and_true, or_true, true_or, ne_eq, not_false_eq_true, not_true_eq_false, false_imp_iff, true_imp_iff, Int.reduceEq, Int.reduceLT, Int.reduceLE, Int.reduceAdd, Int.reduceSub, Int.reduceMul, Int.reduceNeg]; exact z) | simp (disch := omega) only [z, GA, GR, GRc, GO, GI, GL, GV, am_w_i, am_ga, am_it, am_if, true_and, and_true, or_true, true_or, ne_eq, not_false_eq_true, not_true_eq_false, false_imp_iff, true_imp_iff, Int.reduceEq, Int.reduceLT, Int.reduceLE, Int.reduceAdd, Int.reduceSub, Int.reduceMul, Int.reduceNeg]
  · have g : am_WP (d + 3) 189 47 [some (vR (some 99)), none] [] (mkH w I L) Q := by
      have q2 := q2 c41
      have q3 := q3 c41
      have ky := tr.ky
      have cp := tr.cp
      have k43 := tr.sg (c := 43) (by omega)
      have k45 := tr.sg (c := 45) (by omega)
      have k42 := tr.sg (c := 42) (by omega)
      have k47 := tr.sg (c := 47) (by omega)
      have g147 : am_WP (d + 3) 189 147 [some (vR (some 99)), none] [vI (if s k = 113 then 0 else mpC (s k))] (mkH w I L) Q := by
        by_cases cs : s k ≠ 113 ∧ 0 < bdC (s k)
        · rw [if_neg cs.1]
          exact c_sg hC hu hm h he (wbn_of cs.2 cs.1) hk (q2 cs)
        · rw [mpC_0 cs]
          have z := (q3 cs).bad BF.rf.e (by simp)
          clear q2 q3 he h ky cp k43 k45 k42 k47 tr sg41
          rw [B189_147]
          first | (simp (disch := omega) only [Kk, s154 at10, GA, GR, GRc, GO, GI, GL, GV, am_w_i, am_ga, am_it, am_if, true_and, and_true, or_true, true_or, ne_eq, not_false_eq_true, not_true_eq_false, false_imp_iff, true_imp_iff, Int.reduceEq, Int.reduceLT, Int.reduceLE, Int.reduceAdd, Int.reduceSub, Int.reduceMul, Int.reduceNeg]; exact z) | simp (disch := omega) only [Kk, s154 at10, z, GA, GR, GRc, GO, GI, GL, GV, am_w_i, am_ga, am_it, am_if, true_and, and_true, or_true, true_or, ne_eq, not_false_eq_true, not_true_eq_false, false_imp_iff, true_imp_iff, Int.reduceEq, Int.reduceLT, Int.reduceLE, Int.reduceAdd, Int.reduceSub, Int.reduceMul, Int.reduceNeg]
      clear q1 q2 q3 he h sg41 c41
      have i11 : (if I 99 8 = 1 ∧ I 99 9 = 11 then (1 : Int) else 0) = if s k = 112 then 1 else 0 := by simp only [ky.2.1]
      have i12 : (if I 99 8 = 1 ∧ I 99 9 = 12 then (1 : Int) else 0) = if s k = 111 then 1 else 0 := by simp only [ky.2.2]
      have i43 : (if I 99 8 = 4 ∧ I 99 9 = 43 then (1 : Int) else 0) = if s k = 43 then 1 else 0 := by simp only [k43]
      have i45 : (if I 99 8 = 4 ∧ I 99 9 = 45 then (1 : Int) else 0) = if s k = 45 then 1 else 0 := by simp only [k45]
      have i42 : (if I 99 8 = 4 ∧ I 99 9 = 42 then (1 : Int) else 0) = if s k = 42 then 1 else 0 := by simp only [k42]
      have i47 : (if I 99 8 = 4 ∧ I 99 9 = 47 then (1 : Int) else 0) = if s k = 47 then 1 else 0 := by simp only [k47]
      have t161 : ∀ c Q, am_Sp (d + 2) 161 [vR (some 99), vI c] (mkH w I L) Q ↔ Q (some (vI (if I 99 8 = 1 ∧ I 99 9 = c then 1 else 0))) (mkH w I L) := fun c Q => s161 Q
      have t162 : ∀ c Q, am_Sp (d + 2) 162 [vR (some 99), vI c] (mkH w I L) Q ↔ Q (some (vI (if I 99 8 = 4 ∧ I 99 9 = c then 1 else 0))) (mkH w I L) := fun c Q => s162 Q
      have a11 : ∀ Q, am_Sp (d + 2) 161 [vR (some 99), vI 11] (mkH w I L) Q ↔ Q (some (vI (if s k = 112 then 1 else 0))) (mkH w I L) := fun Q => by rw [t161, i11]
      have a12 : ∀ Q, am_Sp (d + 2) 161 [vR (some 99), vI 12] (mkH w I L) Q ↔ Q (some (vI (if s k = 111 then 1 else 0))) (mkH w I L) := fun Q => by rw [t161, i12]
      have a43 : ∀ Q, am_Sp (d + 2) 162 [vR (some 99), vI 43] (mkH w I L) Q ↔ Q (some (vI (if s k = 43 then 1 else 0))) (mkH w I L) := fun Q => by rw [t162, i43]
      have a45 : ∀ Q, am_Sp (d + 2) 162 [vR (some 99), vI 45] (mkH w I L) Q ↔ Q (some (vI (if s k = 45 then 1 else 0))) (mkH w I L) := fun Q => by rw [t162, i45]
      have a42 : ∀ Q, am_Sp (d + 2) 162 [vR (some 99), vI 42] (mkH w I L) Q ↔ Q (some (vI (if s k = 42 then 1 else 0))) (mkH w I L) := fun Q => by rw [t162, i42]
      have a47 : ∀ Q, am_Sp (d + 2) 162 [vR (some 99), vI 47] (mkH w I L) Q ↔ Q (some (vI (if s k = 47 then 1 else 0))) (mkH w I L) := fun Q => by rw [t162, i47]
      clear t161 t162 i11 i12 i43 i45 i42 i47 k43 k45 k42 k47 ky
      rw [B189_47]
      by_cases d1 : s k = 112
      · rw [d1, if_neg (by decide), show mpC 112 = 3 by decide] at g147
        have z := g147
        clear g147 cp tr
        first | (simp (disch := omega) only [Kk, a11, d1, if_true, GA, GR, GRc, GO, GI, GL, GV, am_w_i, am_ga, am_it, am_if, true_and, and_true, or_true, true_or, ne_eq, not_false_eq_true, not_true_eq_false, false_imp_iff, true_imp_iff, Int.reduceEq, Int.reduceLT, Int.reduceLE, Int.reduceAdd, Int.reduceSub, Int.reduceMul, Int.reduceNeg]; exact z) | simp (disch := omega) only [Kk, a11, d1, if_true, z, GA, GR, GRc, GO, GI, GL, GV, am_w_i, am_ga, am_it, am_if, true_and, and_true, or_true, true_or, ne_eq, not_false_eq_true, not_true_eq_false, false_imp_iff, true_imp_iff, Int.reduceEq, Int.reduceLT, Int.reduceLE, Int.reduceAdd, Int.reduceSub, Int.reduceMul, Int.reduceNeg]
      · by_cases d2 : s k = 111
        · rw [d2, if_neg (by decide), show mpC 111 = 4 by decide] at g147
          have z := g147
          clear g147 cp tr
          first | (simp (disch := omega) only [Kk, a11, a12, d1, d2, if_true, if_false, GA, GR, GRc, GO, GI, GL, GV, am_w_i, am_ga, am_it, am_if, true_and, and_true, or_true, true_or, ne_eq, not_false_eq_true, not_true_eq_false, false_imp_iff, true_imp_iff, Int.reduceEq, Int.reduceLT, Int.reduceLE, Int.reduceAdd, Int.reduceSub, Int.reduceMul, Int.reduceNeg]; exact z) | simp (disch := omega) only [Kk, a11, a12, d1, d2, if_true, if_false, z, GA, GR, GRc, GO, GI, GL, GV, am_w_i, am_ga, am_it, am_if, true_and, and_true, or_true, true_or, ne_eq, not_false_eq_true, not_true_eq_false, false_imp_iff, true_imp_iff, Int.reduceEq, Int.reduceLT, Int.reduceLE, Int.reduceAdd, Int.reduceSub, Int.reduceMul, Int.reduceNeg]
        · by_cases d3 : bdC (s k) = 4
          · have k5 := cp.1.2 d3
            have m5 := cp.2 k5
            have n113 : ¬ s k = 113 := fun z => by rw [z] at d3; exact absurd d3 (by decide)
            have wb := wbn_b (wbn_of (by omega) n113)
            rw [if_neg n113, m5] at g147
            have z := g147
            clear g147 cp tr
            first | (simp (disch := omega) only [Kk, a11, a12, d1, d2, k5, if_true, if_false, GA, GR, GRc, GO, GI, GL, GV, am_w_i, am_ga, am_it, am_if, true_and, and_true, or_true, true_or, ne_eq, not_false_eq_true, not_true_eq_false, false_imp_iff, true_imp_iff, Int.reduceEq, Int.reduceLT, Int.reduceLE, Int.reduceAdd, Int.reduceSub, Int.reduceMul, Int.reduceNeg]; exact z) | simp (disch := omega) only [Kk, a11, a12, d1, d2, k5, if_true, if_false, z, GA, GR, GRc, GO, GI, GL, GV, am_w_i, am_ga, am_it, am_if, true_and, and_true, or_true, true_or, ne_eq, not_false_eq_true, not_true_eq_false, false_imp_iff, true_imp_iff, Int.reduceEq, Int.reduceLT, Int.reduceLE, Int.reduceAdd, Int.reduceSub, Int.reduceMul, Int.reduceNeg]
          · have k5 : ¬ I 99 8 = 5 := fun z => d3 (cp.1.1 z)
            clear cp tr
            by_cases d4 : s k = 43
            · rw [d4, if_neg (by decide), show mpC 43 = 11 by decide] at g147
              have z := g147
              clear g147
              first | (simp (disch := omega) only [Kk, a11, a12, a43, d1, d2, d4, k5, if_true, if_false, GA, GR, GRc, GO, GI, GL, GV, am_w_i, am_ga, am_it, am_if, true_and, and_true, or_true, true_or, ne_eq, not_false_eq_true, not_true_eq_false, false_imp_iff, true_imp_iff, Int.reduceEq, Int.reduceLT, Int.reduceLE, Int.reduceAdd, Int.reduceSub, Int.reduceMul, Int.reduceNeg]; exact z) | simp (disch := omega) only [Kk, a11, a12, a43, d1, d2, d4, k5, if_true, if_false, z, GA, GR, GRc, GO, GI, GL, GV, am_w_i, am_ga, am_it, am_if, true_and, and_true, or_true, true_or, ne_eq, not_false_eq_true, not_true_eq_false, false_imp_iff, true_imp_iff, Int.reduceEq, Int.reduceLT, Int.reduceLE, Int.reduceAdd, Int.reduceSub, Int.reduceMul, Int.reduceNeg]
            · by_cases d5 : s k = 45
              · rw [d5, if_neg (by decide), show mpC 45 = 12 by decide] at g147
                have z := g147
                clear g147
                first | (simp (disch := omega) only [Kk, a11, a12, a43, a45, d1, d2, d4, d5, k5, if_true, if_false, GA, GR, GRc, GO, GI, GL, GV, am_w_i, am_ga, am_it, am_if, true_and, and_true, or_true, true_or, ne_eq, not_false_eq_true, not_true_eq_false, false_imp_iff, true_imp_iff, Int.reduceEq, Int.reduceLT, Int.reduceLE, Int.reduceAdd, Int.reduceSub, Int.reduceMul, Int.reduceNeg]; exact z) | simp (disch := omega) only [Kk, a11, a12, a43, a45, d1, d2, d4, d5, k5, if_true, if_false, z, GA, GR, GRc, GO, GI, GL, GV, am_w_i, am_ga, am_it, am_if, true_and, and_true, or_true, true_or, ne_eq, not_false_eq_true, not_true_eq_false, false_imp_iff, true_imp_iff, Int.reduceEq, Int.reduceLT, Int.reduceLE, Int.reduceAdd, Int.reduceSub, Int.reduceMul, Int.reduceNeg]
              · by_cases d6 : s k = 42
                · rw [d6, if_neg (by decide), show mpC 42 = 13 by decide] at g147
                  have z := g147
                  clear g147
                  first | (simp (disch := omega) only [Kk, a11, a12, a43, a45, a42, d1, d2, d4, d5, d6, k5, if_true, if_false, GA, GR, GRc, GO, GI, GL, GV, am_w_i, am_ga, am_it, am_if, true_and, and_true, or_true, true_or, ne_eq, not_false_eq_true, not_true_eq_false, false_imp_iff, true_imp_iff, Int.reduceEq, Int.reduceLT, Int.reduceLE, Int.reduceAdd, Int.reduceSub, Int.reduceMul, Int.reduceNeg]; exact z) | simp (disch := omega) only [Kk, a11, a12, a43, a45, a42, d1, d2, d4, d5, d6, k5, if_true, if_false, z, GA, GR, GRc, GO, GI, GL, GV, am_w_i, am_ga, am_it, am_if, true_and, and_true, or_true, true_or, ne_eq, not_false_eq_true, not_true_eq_false, false_imp_iff, true_imp_iff, Int.reduceEq, Int.reduceLT, Int.reduceLE, Int.reduceAdd, Int.reduceSub, Int.reduceMul, Int.reduceNeg]
                · by_cases d7 : s k = 47
                  · rw [d7, if_neg (by decide), show mpC 47 = 14 by decide] at g147
                    have z := g147
                    clear g147
                    first | (simp (disch := omega) only [Kk, a11, a12, a43, a45, a42, a47, d1, d2, d4, d5, d6, d7, k5, if_true, if_false, GA, GR, GRc, GO, GI, GL, GV, am_w_i, am_ga, am_it, am_if, true_and, and_true, or_true, true_or, ne_eq, not_false_eq_true, not_true_eq_false, false_imp_iff, true_imp_iff, Int.reduceEq, Int.reduceLT, Int.reduceLE, Int.reduceAdd, Int.reduceSub, Int.reduceMul, Int.reduceNeg]; exact z) | simp (disch := omega) only [Kk, a11, a12, a43, a45, a42, a47, d1, d2, d4, d5, d6, d7, k5, if_true, if_false, z, GA, GR, GRc, GO, GI, GL, GV, am_w_i, am_ga, am_it, am_if, true_and, and_true, or_true, true_or, ne_eq, not_false_eq_true, not_true_eq_false, false_imp_iff, true_imp_iff, Int.reduceEq, Int.reduceLT, Int.reduceLE, Int.reduceAdd, Int.reduceSub, Int.reduceMul, Int.reduceNeg]
                  · have n0 : ¬ (s k ≠ 113 ∧ 0 < bdC (s k)) := fun z => by
                      have wb := wbn_of z.2 z.1
                      rcases wb with t | t | t | t | t | t | t | t | t | t | t | t
                      · exact d1 t
                      · exact d2 t
                      all_goals first
                        | (apply d3; rw [t]; decide)
                        | exact d4 t
                        | exact d5 t
                        | exact d6 t
                        | exact d7 t
                    rw [mpC_0 n0] at g147
                    have z := g147
                    clear g147
                    first | (simp (disch := omega) only [Kk, a11, a12, a43, a45, a42, a47, d1, d2, d4, d5, d6, d7, k5, if_true, if_false, GA, GR, GRc, GO, GI, GL, GV, am_w_i, am_ga, am_it, am_if, true_and, and_true, or_true, true_or, ne_eq, not_false_eq_true, not_true_eq_false, false_imp_iff, true_imp_iff, Int.reduceEq, Int.reduceLT, Int.reduceLE, Int.reduceAdd, Int.reduceSub, Int.reduceMul, Int.reduceNeg]; exact z) | simp (disch := omega) only [Kk, a11, a12, a43, a45, a42, a47, d1, d2, d4, d5, d6, d7, k5, if_true, if_false, z, GA, GR, GRc, GO, GI, GL, GV, am_w_i, am_ga, am_it, am_if, true_and, and_true, or_true, true_or, ne_eq, not_false_eq_true, not_true_eq_false, false_imp_iff, true_imp_iff, Int.reduceEq, Int.reduceLT, Int.reduceLE, Int.reduceAdd, Int.reduceSub, Int.reduceMul, Int.reduceNeg]
    clear q1 q2 q3 he h tr
    by_cases c : s k = 41
    · have i41 : (if I 99 8 = 4 ∧ I 99 9 = 41 then (1 : Int) else 0) = 1 := if_pos (sg41.2 c)
      have co : X 0 10 ≤ 0 := by
        have : ¬ 0 < X 0 10 := fun z => c41 ⟨c, z⟩
        omega
      clear sg41 c41
      have z := g
      first | (simp (disch := omega) only [Kk, s162, i41, e47, co, GA, GR, GRc, GO, GI, GL, GV, am_w_i, am_ga, am_it, am_if, true_and, and_true, or_true, true_or, ne_eq, not_false_eq_true, not_true_eq_false, false_imp_iff, true_imp_iff, Int.reduceEq, Int.reduceLT, Int.reduceLE, Int.reduceAdd, Int.reduceSub, Int.reduceMul, Int.reduceNeg]; exact z) | simp (disch := omega) only [Kk, s162, i41, e47, co, z, GA, GR, GRc, GO, GI, GL, GV, am_w_i, am_ga, am_it, am_if, true_and, and_true, or_true, true_or, ne_eq, not_false_eq_true, not_true_eq_false, false_imp_iff, true_imp_iff, Int.reduceEq, Int.reduceLT, Int.reduceLE, Int.reduceAdd, Int.reduceSub, Int.reduceMul, Int.reduceNeg]
    · have i41 : (if I 99 8 = 4 ∧ I 99 9 = 41 then (1 : Int) else 0) = 0 := if_neg (fun z => c (sg41.1 z))
      clear sg41 c41
      have z := g
      first | (simp (disch := omega) only [Kk, s162, i41, GA, GR, GRc, GO, GI, GL, GV, am_w_i, am_ga, am_it, am_if, true_and, and_true, or_true, true_or, ne_eq, not_false_eq_true, not_true_eq_false, false_imp_iff, true_imp_iff, Int.reduceEq, Int.reduceLT, Int.reduceLE, Int.reduceAdd, Int.reduceSub, Int.reduceMul, Int.reduceNeg]; exact z) | simp (disch := omega) only [Kk, s162, i41, z, GA, GR, GRc, GO, GI, GL, GV, am_w_i, am_ga, am_it, am_if, true_and, and_true, or_true, true_or, ne_eq, not_false_eq_true, not_true_eq_false, false_imp_iff, true_imp_iff, Int.reduceEq, Int.reduceLT, Int.reduceLE, Int.reduceAdd, Int.reduceSub, Int.reduceMul, Int.reduceNeg]
