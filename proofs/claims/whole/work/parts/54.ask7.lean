/-! 54: rests, rest -/
def px_rb (σ : (Nat → Int → Int)) (n : Nat) (far : Int) (g : Nat) : Bool := decide (px_gain (1 - (g / 2 : Nat)) (g % 2 : Nat) (px_hap σ 0 n) far ≤ px_gain (g / 2 : Nat) (g % 2 : Nat) (px_hap σ 0 n) far ∧ px_gain (1 - (g % 2 : Nat)) (g / 2 : Nat) (px_hap σ 1 n) far ≤ px_gain (g % 2 : Nat) (g / 2 : Nat) (px_hap σ 1 n) far)
def px_rs (p : Nat → Bool) (k : Int) : Nat → Nat → Int → Int
  | 0, _, c => if k < 0 then c else -2
  | m + 1, g, c => if p g = true then (if c = k then 10 * ((g / 2 : Nat) : Int) + ((g % 2 : Nat) : Int) else px_rs p k m (g + 1) (c + 1)) else px_rs p k m (g + 1) c
theorem shr1 {g : Nat} (h : g < 4) : am_shr (g : Int) 1 = ((g / 2 : Nat) : Int) ∧ am_and (g : Int) 1 = ((g % 2 : Nat) : Int) := by
  rcases (show g = 0 ∨ g = 1 ∨ g = 2 ∨ g = 3 by omega) with rfl | rfl | rfl | rfl <;> exact ⟨by decide, by decide⟩
theorem c_rest {d : Nat} {w : Nat × Nat × Nat × Nat} {I L : Nat → Int → Int} {V σ : (Nat → Int → Int)} {lw : (Int → (Int → Int) → Int)} {k : Int} (G : GC V lw σ w I L) {Q : Option am_V → am_H → Prop} (hk : 0 ≤ k) : ∀ (m g : Nat) (c : Int), g + m = 4 → 0 ≤ c → c ≤ g → Q (some (vI (px_rs (px_rb σ (V 0 0).toNat (px_dist V lw (FT 1) σ (V 0 0).toNat)) k m g c))) (mkH w I L) → am_WP (d + 4) 123 16 [some (vR (some 0)), some (vI k), some (vI (px_dist V lw (FT 1) σ (V 0 0).toNat)), some (vI c), some (vI (g : Int))] [] (mkH w I L) Q := by
  have G0 := G
  obtain ⟨⟨hw, hR, hL, hV, hM, hN⟩, rS, mS, wS, ny, ct⟩ := id G
  have h6 := hV.1.1
  have db := px_dist_b (V := V) (lw := lw) (F := FT 1) (n := (V 0 0).toNat) wS (by omega)
  intro m
  induction m with
  | zero =>
    intro g c hg c0 c1 q
    rw [px_rs, if_neg (by omega)] at q
    rw [B123_16]
    simp (disch := omega) only [q, GA, GR, GRc, GO, GI, GL, GV, am_w_i, am_ga, am_it, am_if, true_and, and_true, or_true, true_or, ne_eq, not_false_eq_true, not_true_eq_false, false_imp_iff, true_imp_iff, Int.reduceEq, Int.reduceLT, Int.reduceLE, Int.reduceAdd, Int.reduceSub, Int.reduceMul, Int.reduceNeg]
  | succ m ih =>
    intro g c hg c0 c1 q
    obtain ⟨e1, e2⟩ := shr1 (g := g) (by omega)
    have hd : ((g / 2 : Nat) : Int) = 0 ∨ ((g / 2 : Nat) : Int) = 1 := by omega
    have hm : ((g % 2 : Nat) : Int) = 0 ∨ ((g % 2 : Nat) : Int) = 1 := by omega
    rw [px_rs] at q
    rw [B123_16]
    simp (disch := omega) only [KX, e1, e2, s124 G0 hd hm, GA, GR, GRc, GO, GI, GL, GV, am_w_i, am_ga, am_it, am_if, true_and, and_true, or_true, true_or, ne_eq, not_false_eq_true, not_true_eq_false, false_imp_iff, true_imp_iff, Int.reduceEq, Int.reduceLT, Int.reduceLE, Int.reduceAdd, Int.reduceSub, Int.reduceMul, Int.reduceNeg]
    by_cases c2 : px_isr σ (V 0 0).toNat (px_dist V lw (FT 1) σ (V 0 0).toNat) ((g / 2 : Nat) : Int) ((g % 2 : Nat) : Int)
    · have : px_rb σ (V 0 0).toNat (px_dist V lw (FT 1) σ (V 0 0).toNat) g = true := decide_eq_true c2
      rw [if_pos this] at q
      simp only [c2, true_imp_iff, not_true_eq_false, false_imp_iff, and_true]
      by_cases c3 : c = k
      · rw [if_pos c3] at q
        simp (disch := omega) only [c3, GA, GR, GRc, GO, GI, GL, GV, am_w_i, am_ga, am_it, am_if, true_and, and_true, or_true, true_or, ne_eq, not_false_eq_true, not_true_eq_false, false_imp_iff, true_imp_iff, Int.reduceEq, Int.reduceLT, Int.reduceLE, Int.reduceAdd, Int.reduceSub, Int.reduceMul, Int.reduceNeg]
        rw [Int.mul_comm]; exact q
      · rw [if_neg c3] at q
        simp (disch := omega) only [c3, B123_59, GA, GR, GRc, GO, GI, GL, GV, am_w_i, am_ga, am_it, am_if, true_and, and_true, or_true, true_or, ne_eq, not_false_eq_true, not_true_eq_false, false_imp_iff, true_imp_iff, Int.reduceEq, Int.reduceLT, Int.reduceLE, Int.reduceAdd, Int.reduceSub, Int.reduceMul, Int.reduceNeg]
        exact ih (g + 1) (c + 1) (by omega) (by omega) (by omega) q
    · have : ¬ px_rb σ (V 0 0).toNat (px_dist V lw (FT 1) σ (V 0 0).toNat) g = true := fun z => c2 (by unfold px_isr; unfold px_rb at z; exact of_decide_eq_true z)
      rw [if_neg this] at q
      simp only [c2, true_imp_iff, not_false_eq_true, false_imp_iff, true_and]
      simp (disch := omega) only [B123_59, GA, GR, GRc, GO, GI, GL, GV, am_w_i, am_ga, am_it, am_if, true_and, and_true, or_true, true_or, ne_eq, not_false_eq_true, not_true_eq_false, false_imp_iff, true_imp_iff, Int.reduceEq, Int.reduceLT, Int.reduceLE, Int.reduceAdd, Int.reduceSub, Int.reduceMul, Int.reduceNeg]
      exact ih (g + 1) c (by omega) (by omega) (by omega) q
theorem c_rests {d : Nat} {w : Nat × Nat × Nat × Nat} {I L : Nat → Int → Int} {V σ : (Nat → Int → Int)} {lw : (Int → (Int → Int) → Int)} (G : GC V lw σ w I L) {Q : Option am_V → am_H → Prop} : ∀ (m g : Nat) (c : Int), g + m = 4 → 0 ≤ c → c ≤ g → Q (some (vI (px_rs (px_rb σ (V 0 0).toNat (px_dist V lw (FT 1) σ (V 0 0).toNat)) (-1) m g c))) (mkH w I L) → am_WP (d + 4) 122 9 [some (vR (some 0)), some (vI (px_dist V lw (FT 1) σ (V 0 0).toNat)), some (vI c), some (vI (g : Int))] [] (mkH w I L) Q := by
  have G0 := G
  obtain ⟨⟨hw, hR, hL, hV, hM, hN⟩, rS, mS, wS, ny, ct⟩ := id G
  have h6 := hV.1.1
  have db := px_dist_b (V := V) (lw := lw) (F := FT 1) (n := (V 0 0).toNat) wS (by omega)
  intro m
  induction m with
  | zero =>
    intro g c hg c0 c1 q
    rw [px_rs, if_pos (by omega)] at q
    rw [B122_9]
    simp (disch := omega) only [q, GA, GR, GRc, GO, GI, GL, GV, am_w_i, am_ga, am_it, am_if, true_and, and_true, or_true, true_or, ne_eq, not_false_eq_true, not_true_eq_false, false_imp_iff, true_imp_iff, Int.reduceEq, Int.reduceLT, Int.reduceLE, Int.reduceAdd, Int.reduceSub, Int.reduceMul, Int.reduceNeg]
  | succ m ih =>
    intro g c hg c0 c1 q
    obtain ⟨e1, e2⟩ := shr1 (g := g) (by omega)
    have hd : ((g / 2 : Nat) : Int) = 0 ∨ ((g / 2 : Nat) : Int) = 1 := by omega
    have hm : ((g % 2 : Nat) : Int) = 0 ∨ ((g % 2 : Nat) : Int) = 1 := by omega
    rw [px_rs] at q
    rw [B122_9]
    simp (disch := omega) only [KX, e1, e2, s124 G0 hd hm, GA, GR, GRc, GO, GI, GL, GV, am_w_i, am_ga, am_it, am_if, true_and, and_true, or_true, true_or, ne_eq, not_false_eq_true, not_true_eq_false, false_imp_iff, true_imp_iff, Int.reduceEq, Int.reduceLT, Int.reduceLE, Int.reduceAdd, Int.reduceSub, Int.reduceMul, Int.reduceNeg]
    by_cases c2 : px_isr σ (V 0 0).toNat (px_dist V lw (FT 1) σ (V 0 0).toNat) ((g / 2 : Nat) : Int) ((g % 2 : Nat) : Int)
    · have : px_rb σ (V 0 0).toNat (px_dist V lw (FT 1) σ (V 0 0).toNat) g = true := decide_eq_true c2
      rw [if_pos this, if_neg (by omega)] at q
      simp only [c2, true_imp_iff, not_true_eq_false, false_imp_iff, and_true]
      simp (disch := omega) only [B122_31, GA, GR, GRc, GO, GI, GL, GV, am_w_i, am_ga, am_it, am_if, true_and, and_true, or_true, true_or, ne_eq, not_false_eq_true, not_true_eq_false, false_imp_iff, true_imp_iff, Int.reduceEq, Int.reduceLT, Int.reduceLE, Int.reduceAdd, Int.reduceSub, Int.reduceMul, Int.reduceNeg]
      exact ih (g + 1) (c + 1) (by omega) (by omega) (by omega) q
    · have : ¬ px_rb σ (V 0 0).toNat (px_dist V lw (FT 1) σ (V 0 0).toNat) g = true := fun z => c2 (by unfold px_isr; unfold px_rb at z; exact of_decide_eq_true z)
      rw [if_neg this] at q
      simp only [c2, true_imp_iff, not_false_eq_true, false_imp_iff, true_and]
      simp (disch := omega) only [B122_31, GA, GR, GRc, GO, GI, GL, GV, am_w_i, am_ga, am_it, am_if, true_and, and_true, or_true, true_or, ne_eq, not_false_eq_true, not_true_eq_false, false_imp_iff, true_imp_iff, Int.reduceEq, Int.reduceLT, Int.reduceLE, Int.reduceAdd, Int.reduceSub, Int.reduceMul, Int.reduceNeg]
      exact ih (g + 1) c (by omega) (by omega) (by omega) q
theorem m_ap {d : Nat} {w : (Nat × Nat × Nat × Nat)} {V σ I L : (Nat → Int → Int)} {lw : (Int → (Int → Int) → Int)} (G : GC V lw σ w I L) (C : MC I V lw (FT 1)) {Q : Option am_V → am_H → Prop} (q : ∀ I' L', QR w I L w I' L' → MC I' V lw (FT 1) → Q (some (vI (px_dist V lw (FT 1) σ (V 0 0).toNat))) (mkH w I' L')) : am_Sp (d + 5) 210 [vR (some 99), vI 0] (mkH w I L) Q := by
  obtain ⟨⟨hw, hR, hL, hV, hM, hN⟩, rS, mS, wS, ny, ct⟩ := id G
  have h6 := hV.1.1
  refine s210 C (Or.inl rfl) mS wS (n := (V 0 0).toNat) (by omega) (fun I' L' r f g l => ?_)
  exact q _ _ ⟨⟨rfl, rfl, rfl⟩, QF.g g f.2.1, QL.ln l⟩ (C.fr f)
theorem m_has {d : Nat} {w : (Nat × Nat × Nat × Nat)} {V σ I L : (Nat → Int → Int)} {lw : (Int → (Int → Int) → Int)} {t own other : Int} (G : GC V lw σ w I L) (C : MC I V lw (FT 1)) (ht : 0 ≤ t ∧ t < 2) (ho : own = 0 ∨ own = 1) (hp : other = 0 ∨ other = 1) {Q : Option am_V → am_H → Prop} (q : ∀ I' L', QR w I L w I' L' → MC I' V lw (FT 1) → Q (some (vI (px_gain own other (px_hap σ t (V 0 0).toNat) (px_dist V lw (FT 1) σ (V 0 0).toNat)))) (mkH w I' L')) : am_Sp (d + 6) 248 [vR (some 99), vI t, vI own, vI other] (mkH w I L) Q := by
  have G0 := G
  obtain ⟨⟨hw, hR, hL, hV, hM, hN⟩, rS, mS, wS, ny, ct⟩ := id G
  have h6 := hV.1.1
  have db := px_dist_b (V := V) (lw := lw) (F := FT 1) (n := (V 0 0).toNat) wS (by omega)
  have hb := px_hap_b (t := t) (n := (V 0 0).toNat) wS (by omega) ht
  have t1 := tdiv_b (b := 10) (a := px_dist V lw (FT 1) σ (V 0 0).toNat) (c := 100000) (by omega)
  have t2 := tdiv_b (b := 10) (a := px_hap σ t (V 0 0).toNat) (c := 100000) (by omega)
  have t3 := tdiv_b (b := 5) (a := px_hap σ t (V 0 0).toNat) (c := 100000) (by omega)
  rw [S248]
  simp (disch := omega) only [Kk, GA, GR, GRc, GO, GI, GL, GV, am_w_i, am_ga, am_it, am_if, true_and, and_true, or_true, true_or, ne_eq, not_false_eq_true, not_true_eq_false, false_imp_iff, true_imp_iff, Int.reduceEq, Int.reduceLT, Int.reduceLE, Int.reduceAdd, Int.reduceSub, Int.reduceMul, Int.reduceNeg]
  refine m_ap G0 C (fun I2 L2 r2 C2 => ?_)
  have G2 := G0.q r2
  have z := q I2 L2 r2 C2
  unfold px_gain at z
  generalize px_dist V lw (FT 1) σ (V 0 0).toNat = far at db t1 z ⊢
  simp (disch := omega) only [Kk, s220 (n := (V 0 0).toNat) G2.1.2.2.2.2.1 hV (by omega) (b := 0) (Or.inl rfl) G2.2.2.1 wS ht, B248_41, B248_79, GA, GR, GRc, GO, GI, GL, GV, am_w_i, am_ga, am_it, am_if, true_and, and_true, or_true, true_or, ne_eq, not_false_eq_true, not_true_eq_false, false_imp_iff, true_imp_iff, Int.reduceEq, Int.reduceLT, Int.reduceLE, Int.reduceAdd, Int.reduceSub, Int.reduceMul, Int.reduceNeg]
  generalize px_hap σ t (V 0 0).toNat = hap at hb t2 t3 z ⊢
  rcases ho with e | e
  · subst e
    rw [if_pos rfl] at z
    simp (disch := omega) only [GA, GR, GRc, GO, GI, GL, GV, am_w_i, am_ga, am_it, am_if, true_and, and_true, or_true, true_or, ne_eq, not_false_eq_true, not_true_eq_false, false_imp_iff, true_imp_iff, Int.reduceEq, Int.reduceLT, Int.reduceLE, Int.reduceAdd, Int.reduceSub, Int.reduceMul, Int.reduceNeg]
    rcases hp with e | e
    · subst e
      rw [if_pos rfl] at z
      simp (disch := omega) only [GA, GR, GRc, GO, GI, GL, GV, am_w_i, am_ga, am_it, am_if, true_and, and_true, or_true, true_or, ne_eq, not_false_eq_true, not_true_eq_false, false_imp_iff, true_imp_iff, Int.reduceEq, Int.reduceLT, Int.reduceLE, Int.reduceAdd, Int.reduceSub, Int.reduceMul, Int.reduceNeg]
      unfold am_max at z
      refine ⟨fun c => ?_, fun c => ?_⟩
      · by_cases c2 : 0 < 10 - far
        · rw [if_pos c2] at z; exact z
        · rw [if_neg c2] at z; rw [show 10 - far = 0 by omega]; exact z
      · rw [if_neg (by omega)] at z; exact z
    · subst e
      rw [if_neg (by decide)] at z
      simp (disch := omega) only [z, GA, GR, GRc, GO, GI, GL, GV, am_w_i, am_ga, am_it, am_if, true_and, and_true, or_true, true_or, ne_eq, not_false_eq_true, not_true_eq_false, false_imp_iff, true_imp_iff, Int.reduceEq, Int.reduceLT, Int.reduceLE, Int.reduceAdd, Int.reduceSub, Int.reduceMul, Int.reduceNeg]
  · subst e
    rw [if_neg (by decide)] at z
    simp (disch := omega) only [GA, GR, GRc, GO, GI, GL, GV, am_w_i, am_ga, am_it, am_if, true_and, and_true, or_true, true_or, ne_eq, not_false_eq_true, not_true_eq_false, false_imp_iff, true_imp_iff, Int.reduceEq, Int.reduceLT, Int.reduceLE, Int.reduceAdd, Int.reduceSub, Int.reduceMul, Int.reduceNeg]
    rcases hp with e | e
    · subst e
      rw [if_pos rfl] at z
      simp (disch := omega) only [GA, GR, GRc, GO, GI, GL, GV, am_w_i, am_ga, am_it, am_if, true_and, and_true, or_true, true_or, ne_eq, not_false_eq_true, not_true_eq_false, false_imp_iff, true_imp_iff, Int.reduceEq, Int.reduceLT, Int.reduceLE, Int.reduceAdd, Int.reduceSub, Int.reduceMul, Int.reduceNeg]
      unfold am_max at z
      refine ⟨fun c => ?_, fun c => ?_⟩
      · by_cases c2 : 5 < hap.tdiv 5
        · rw [if_pos c2] at z; exact z
        · rw [if_neg c2] at z; rw [show hap.tdiv 5 = 5 by omega]; exact z
      · rw [if_neg (by omega)] at z; exact z
    · subst e
      rw [if_neg (by decide)] at z
      simp (disch := omega) only [z, GA, GR, GRc, GO, GI, GL, GV, am_w_i, am_ga, am_it, am_if, true_and, and_true, or_true, true_or, ne_eq, not_false_eq_true, not_true_eq_false, false_imp_iff, true_imp_iff, Int.reduceEq, Int.reduceLT, Int.reduceLE, Int.reduceAdd, Int.reduceSub, Int.reduceMul, Int.reduceNeg]
theorem m_rest {d : Nat} {w : (Nat × Nat × Nat × Nat)} {V σ I L : (Nat → Int → Int)} {lw : (Int → (Int → Int) → Int)} {k : Int} (G : GC V lw σ w I L) (hk : -1 ≤ k) {Q : Option am_V → am_H → Prop} (q : ∀ I' L', QR w I L w I' L' → Q (some (vI (px_rs (px_rb σ (V 0 0).toNat (px_dist V lw (FT 1) σ (V 0 0).toNat)) k 4 0 0))) (mkH w I' L')) : am_Sp (d + 7) 249 [vR (some 99), vI k] (mkH w I L) Q := by
  have G0 := G
  have h6 := G.1.2.2.2.1.1.1
  have loop : ∀ (m g : Nat) (c : Int) (l4 l5 : Option am_V) (I' L' : (Nat → Int → Int)), g + m = 4 → 0 ≤ c → c ≤ g → QR w I L w I' L' → MC I' V lw (FT 1) → px_rs (px_rb σ (V 0 0).toNat (px_dist V lw (FT 1) σ (V 0 0).toNat)) k 4 0 0 = px_rs (px_rb σ (V 0 0).toNat (px_dist V lw (FT 1) σ (V 0 0).toNat)) k m g c → am_WP (d + 7) 249 8 [some (vR (some 99)), some (vI k), some (vI c), some (vI (g : Int)), l4, l5] [] (mkH w I' L') Q := by
    intro m
    induction m with
    | zero =>
      intro g c l4 l5 I' L' hg c0 c1 r C e
      have z := q _ _ r
      rw [e, px_rs] at z
      rw [B249_8]
      simp (disch := omega) only [B249_105, GA, GR, GRc, GO, GI, GL, GV, am_w_i, am_ga, am_it, am_if, true_and, and_true, or_true, true_or, ne_eq, not_false_eq_true, not_true_eq_false, false_imp_iff, true_imp_iff, Int.reduceEq, Int.reduceLT, Int.reduceLE, Int.reduceAdd, Int.reduceSub, Int.reduceMul, Int.reduceNeg]
      by_cases c2 : k < 0
      · rw [if_pos c2] at z; simp (disch := omega) only [z, GA, GR, GRc, GO, GI, GL, GV, am_w_i, am_ga, am_it, am_if, true_and, and_true, or_true, true_or, ne_eq, not_false_eq_true, not_true_eq_false, false_imp_iff, true_imp_iff, Int.reduceEq, Int.reduceLT, Int.reduceLE, Int.reduceAdd, Int.reduceSub, Int.reduceMul, Int.reduceNeg]
      · rw [if_neg c2] at z; simp (disch := omega) only [z, GA, GR, GRc, GO, GI, GL, GV, am_w_i, am_ga, am_it, am_if, true_and, and_true, or_true, true_or, ne_eq, not_false_eq_true, not_true_eq_false, false_imp_iff, true_imp_iff, Int.reduceEq, Int.reduceLT, Int.reduceLE, Int.reduceAdd, Int.reduceSub, Int.reduceMul, Int.reduceNeg]
    | succ m ih =>
      intro g c l4 l5 I' L' hg c0 c1 r C e
      have hd : ((g / 2 : Nat) : Int) = 0 ∨ ((g / 2 : Nat) : Int) = 1 := by omega
      have hm : ((g % 2 : Nat) : Int) = 0 ∨ ((g % 2 : Nat) : Int) = 1 := by omega
      have e1 : (g : Int).tdiv 2 = ((g / 2 : Nat) : Int) := by rw [Int.tdiv_eq_ediv_of_nonneg (by omega)]; omega
      have e2 : (g : Int).tmod 2 = ((g % 2 : Nat) : Int) := by rw [tmod_nn (by omega)]; omega
      have hw1 : am_w ((g / 2 : Nat) : Int) = ((g / 2 : Nat) : Int) := am_w_i (by omega) (by omega)
      replace e : px_rs (px_rb σ (V 0 0).toNat (px_dist V lw (FT 1) σ (V 0 0).toNat)) k 4 0 0 = (if px_rb σ (V 0 0).toNat (px_dist V lw (FT 1) σ (V 0 0).toNat) g = true then (if c = k then 10 * ((g / 2 : Nat) : Int) + ((g % 2 : Nat) : Int) else px_rs (px_rb σ (V 0 0).toNat (px_dist V lw (FT 1) σ (V 0 0).toNat)) k m (g + 1) (c + 1)) else px_rs (px_rb σ (V 0 0).toNat (px_dist V lw (FT 1) σ (V 0 0).toNat)) k m (g + 1) c) := e
      have rb : px_rb σ (V 0 0).toNat (px_dist V lw (FT 1) σ (V 0 0).toNat) g = true ↔ (px_gain (1 - (g / 2 : Nat)) (g % 2 : Nat) (px_hap σ 0 (V 0 0).toNat) (px_dist V lw (FT 1) σ (V 0 0).toNat) ≤ px_gain (g / 2 : Nat) (g % 2 : Nat) (px_hap σ 0 (V 0 0).toNat) (px_dist V lw (FT 1) σ (V 0 0).toNat) ∧ px_gain (1 - (g % 2 : Nat)) (g / 2 : Nat) (px_hap σ 1 (V 0 0).toNat) (px_dist V lw (FT 1) σ (V 0 0).toNat) ≤ px_gain (g % 2 : Nat) (g / 2 : Nat) (px_hap σ 1 (V 0 0).toNat) (px_dist V lw (FT 1) σ (V 0 0).toNat)) := by unfold px_rb; exact decide_eq_true_iff
      rw [B249_8]
      simp (disch := omega) only [Kk, e1, e2, hw1, GA, GR, GRc, GO, GI, GL, GV, am_w_i, am_ga, am_it, am_if, true_and, and_true, or_true, true_or, ne_eq, not_false_eq_true, not_true_eq_false, false_imp_iff, true_imp_iff, Int.reduceEq, Int.reduceLT, Int.reduceLE, Int.reduceAdd, Int.reduceSub, Int.reduceMul, Int.reduceNeg]
      refine m_has (G0.q r) C (by omega) (by omega) hm (fun I2 L2 r2 C2 => ?_)
      simp (disch := omega) only [Kk, GA, GR, GRc, GO, GI, GL, GV, am_w_i, am_ga, am_it, am_if, true_and, and_true, or_true, true_or, ne_eq, not_false_eq_true, not_true_eq_false, false_imp_iff, true_imp_iff, Int.reduceEq, Int.reduceLT, Int.reduceLE, Int.reduceAdd, Int.reduceSub, Int.reduceMul, Int.reduceNeg]
      refine m_has ((G0.q r).q r2) C2 (by omega) hd hm (fun I3 L3 r3 C3 => ?_)
      simp (disch := omega) only [Kk, GA, GR, GRc, GO, GI, GL, GV, am_w_i, am_ga, am_it, am_if, true_and, and_true, or_true, true_or, ne_eq, not_false_eq_true, not_true_eq_false, false_imp_iff, true_imp_iff, Int.reduceEq, Int.reduceLT, Int.reduceLE, Int.reduceAdd, Int.reduceSub, Int.reduceMul, Int.reduceNeg]
      refine ⟨fun c2 => ?_, fun c2 => ?_⟩
      · rw [if_neg (fun z => absurd (rb.mp z).1 (by omega))] at e
        simp (disch := omega) only [B249_89, GA, GR, GRc, GO, GI, GL, GV, am_w_i, am_ga, am_it, am_if, true_and, and_true, or_true, true_or, ne_eq, not_false_eq_true, not_true_eq_false, false_imp_iff, true_imp_iff, Int.reduceEq, Int.reduceLT, Int.reduceLE, Int.reduceAdd, Int.reduceSub, Int.reduceMul, Int.reduceNeg]
        exact ih (g + 1) c _ _ I3 L3 (by omega) c0 (by omega) ((r.tr r2).tr r3) C3 e
      · refine m_has (((G0.q r).q r2).q r3) C3 (by omega) (by omega) hd (fun I4 L4 r4 C4 => ?_)
        simp (disch := omega) only [Kk, GA, GR, GRc, GO, GI, GL, GV, am_w_i, am_ga, am_it, am_if, true_and, and_true, or_true, true_or, ne_eq, not_false_eq_true, not_true_eq_false, false_imp_iff, true_imp_iff, Int.reduceEq, Int.reduceLT, Int.reduceLE, Int.reduceAdd, Int.reduceSub, Int.reduceMul, Int.reduceNeg]
        refine m_has ((((G0.q r).q r2).q r3).q r4) C4 (by omega) hm hd (fun I5 L5 r5 C5 => ?_)
        have R := (((r.tr r2).tr r3).tr r4).tr r5
        simp (disch := omega) only [Kk, GA, GR, GRc, GO, GI, GL, GV, am_w_i, am_ga, am_it, am_if, true_and, and_true, or_true, true_or, ne_eq, not_false_eq_true, not_true_eq_false, false_imp_iff, true_imp_iff, Int.reduceEq, Int.reduceLT, Int.reduceLE, Int.reduceAdd, Int.reduceSub, Int.reduceMul, Int.reduceNeg]
        refine ⟨fun c3 => ?_, fun c3 => ?_⟩
        · rw [if_pos (rb.mpr ⟨by omega, by omega⟩)] at e
          have z := q _ _ R
          by_cases c4 : c = k
          · rw [if_pos c4] at e
            rw [e] at z
            simp (disch := omega) only [c4, z, GA, GR, GRc, GO, GI, GL, GV, am_w_i, am_ga, am_it, am_if, true_and, and_true, or_true, true_or, ne_eq, not_false_eq_true, not_true_eq_false, false_imp_iff, true_imp_iff, Int.reduceEq, Int.reduceLT, Int.reduceLE, Int.reduceAdd, Int.reduceSub, Int.reduceMul, Int.reduceNeg]
          · rw [if_neg c4] at e
            simp (disch := omega) only [c4, B249_89, GA, GR, GRc, GO, GI, GL, GV, am_w_i, am_ga, am_it, am_if, true_and, and_true, or_true, true_or, ne_eq, not_false_eq_true, not_true_eq_false, false_imp_iff, true_imp_iff, Int.reduceEq, Int.reduceLT, Int.reduceLE, Int.reduceAdd, Int.reduceSub, Int.reduceMul, Int.reduceNeg]
            exact ih (g + 1) (c + 1) _ _ I5 L5 (by omega) (by omega) (by omega) R C5 e
        · rw [if_neg (fun z => absurd (rb.mp z).2 (by omega))] at e
          simp (disch := omega) only [B249_89, GA, GR, GRc, GO, GI, GL, GV, am_w_i, am_ga, am_it, am_if, true_and, and_true, or_true, true_or, ne_eq, not_false_eq_true, not_true_eq_false, false_imp_iff, true_imp_iff, Int.reduceEq, Int.reduceLT, Int.reduceLE, Int.reduceAdd, Int.reduceSub, Int.reduceMul, Int.reduceNeg]
          exact ih (g + 1) c _ _ I5 L5 (by omega) c0 (by omega) R C5 e
  rw [S249]
  simp (disch := omega) only [Kk, s197, GA, GR, GRc, GO, GI, GL, GV, am_w_i, am_ga, am_it, am_if, true_and, and_true, or_true, true_or, ne_eq, not_false_eq_true, not_true_eq_false, false_imp_iff, true_imp_iff, Int.reduceEq, Int.reduceLT, Int.reduceLE, Int.reduceAdd, Int.reduceSub, Int.reduceMul, Int.reduceNeg]
  exact loop 4 0 0 none none _ L rfl (by omega) (by omega) ⟨⟨rfl, rfl, rfl⟩, QF.pl, QL.rf⟩ (MC.pl G.1.2.2.2.2.1 G.1.2.2.2.2.2 G.1.2.2.2.1) rfl
theorem q_rests {V σ : (Nat → Int → Int)} {lw : (Int → (Int → Int) → Int)} : P2 (GC V lw σ) 122 250 [] := by
  refine ⟨vI (px_rs (px_rb σ (V 0 0).toNat (px_dist V lw (FT 1) σ (V 0 0).toNat)) (-1) 4 0 0), fun w I L G d Q q => ?_, fun w I L G d Q q => ?_⟩
  · rw [S122]
    simp (disch := omega) only [KX, GA, GR, GRc, GO, GI, GL, GV, am_w_i, am_ga, am_it, am_if, true_and, and_true, or_true, true_or, ne_eq, not_false_eq_true, not_true_eq_false, false_imp_iff, true_imp_iff, Int.reduceEq, Int.reduceLT, Int.reduceLE, Int.reduceAdd, Int.reduceSub, Int.reduceMul, Int.reduceNeg]
    refine s101 G (fun w' I' L' r => ?_)
    simp (disch := omega) only [GA, GR, GRc, GO, GI, GL, GV, am_w_i, am_ga, am_it, am_if, true_and, and_true, or_true, true_or, ne_eq, not_false_eq_true, not_true_eq_false, false_imp_iff, true_imp_iff, Int.reduceEq, Int.reduceLT, Int.reduceLE, Int.reduceAdd, Int.reduceSub, Int.reduceMul, Int.reduceNeg]
    exact c_rests (d := d + 16) (G.q r) 4 0 0 rfl (by omega) (by omega) (q _ _ _ r)
  · rw [S250]
    simp (disch := omega) only [Kk, B250_5, GA, GR, GRc, GO, GI, GL, GV, am_w_i, am_ga, am_it, am_if, true_and, and_true, or_true, true_or, ne_eq, not_false_eq_true, not_true_eq_false, false_imp_iff, true_imp_iff, Int.reduceEq, Int.reduceLT, Int.reduceLE, Int.reduceAdd, Int.reduceSub, Int.reduceMul, Int.reduceNeg]
    refine m_rest G.t (by omega) (fun I' L' r => ?_)
    simp (disch := omega) only [GA, GR, GRc, GO, GI, GL, GV, am_w_i, am_ga, am_it, am_if, true_and, and_true, or_true, true_or, ne_eq, not_false_eq_true, not_true_eq_false, false_imp_iff, true_imp_iff, Int.reduceEq, Int.reduceLT, Int.reduceLE, Int.reduceAdd, Int.reduceSub, Int.reduceMul, Int.reduceNeg]
    exact q _ _ (QR.t.tr r)
theorem q_rest {V σ : (Nat → Int → Int)} {lw : (Int → (Int → Int) → Int)} {k : Int} : P2 (GC V lw σ) 123 251 [vI k] := by
  by_cases c : 0 ≤ k
  · refine ⟨vI (px_rs (px_rb σ (V 0 0).toNat (px_dist V lw (FT 1) σ (V 0 0).toNat)) k 4 0 0), fun w I L G d Q q => ?_, fun w I L G d Q q => ?_⟩
    · rw [S123]
      simp (disch := omega) only [KX, GA, GR, GRc, GO, GI, GL, GV, am_w_i, am_ga, am_it, am_if, true_and, and_true, or_true, true_or, ne_eq, not_false_eq_true, not_true_eq_false, false_imp_iff, true_imp_iff, Int.reduceEq, Int.reduceLT, Int.reduceLE, Int.reduceAdd, Int.reduceSub, Int.reduceMul, Int.reduceNeg]
      refine s101 G (fun w' I' L' r => ?_)
      simp (disch := omega) only [GA, GR, GRc, GO, GI, GL, GV, am_w_i, am_ga, am_it, am_if, true_and, and_true, or_true, true_or, ne_eq, not_false_eq_true, not_true_eq_false, false_imp_iff, true_imp_iff, Int.reduceEq, Int.reduceLT, Int.reduceLE, Int.reduceAdd, Int.reduceSub, Int.reduceMul, Int.reduceNeg]
      exact c_rest (d := d + 16) (G.q r) c 4 0 0 rfl (by omega) (by omega) (q _ _ _ r)
    · rw [S251]
      simp (disch := omega) only [Kk, B251_5, B251_18, GA, GR, GRc, GO, GI, GL, GV, am_w_i, am_ga, am_it, am_if, true_and, and_true, or_true, true_or, ne_eq, not_false_eq_true, not_true_eq_false, false_imp_iff, true_imp_iff, Int.reduceEq, Int.reduceLT, Int.reduceLE, Int.reduceAdd, Int.reduceSub, Int.reduceMul, Int.reduceNeg]
      refine m_rest G.t (by omega) (fun I' L' r => ?_)
      simp (disch := omega) only [GA, GR, GRc, GO, GI, GL, GV, am_w_i, am_ga, am_it, am_if, true_and, and_true, or_true, true_or, ne_eq, not_false_eq_true, not_true_eq_false, false_imp_iff, true_imp_iff, Int.reduceEq, Int.reduceLT, Int.reduceLE, Int.reduceAdd, Int.reduceSub, Int.reduceMul, Int.reduceNeg]
      exact q _ _ (QR.t.tr r)
  · refine ⟨vI (-1), fun w I L G d Q q => ?_, fun w I L G d Q q => ?_⟩
    · have z := q _ _ _ QR.rf
      rw [S123]
      simp (disch := omega) only [z, GA, GR, GRc, GO, GI, GL, GV, am_w_i, am_ga, am_it, am_if, true_and, and_true, or_true, true_or, ne_eq, not_false_eq_true, not_true_eq_false, false_imp_iff, true_imp_iff, Int.reduceEq, Int.reduceLT, Int.reduceLE, Int.reduceAdd, Int.reduceSub, Int.reduceMul, Int.reduceNeg]
    · have z := q _ _ (QR.t (v := 0))
      rw [S251]
      simp (disch := omega) only [Kk, B251_5, B251_18, z, GA, GR, GRc, GO, GI, GL, GV, am_w_i, am_ga, am_it, am_if, true_and, and_true, or_true, true_or, ne_eq, not_false_eq_true, not_true_eq_false, false_imp_iff, true_imp_iff, Int.reduceEq, Int.reduceLT, Int.reduceLE, Int.reduceAdd, Int.reduceSub, Int.reduceMul, Int.reduceNeg]
