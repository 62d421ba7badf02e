/-! 87: levelling, the reference's loops -/
set_option maxHeartbeats 1000000 in
theorem m190 {d : Nat} {w : Nat × Nat × Nat × Nat} {I L : Nat → Int → Int} {V : (Nat → Int → Int)} {k u z o gp best e t p : Int} {l8 l9 : Option am_V} (hM : MW I V) (hV : WV V) (hb : 0 ≤ best ∧ best ≤ 400) (he : 0 ≤ e ∧ e < V 0 1) (ht : (t = 0 ∧ p = best + V 7 e) ∨ (t = 1 ∧ p = best - V 7 e)) (ho : (o = 0 ∧ z = 1) ∨ (o = 1 ∧ z = 0)) (bT : 0 ≤ I 132 best ∧ I 132 best ≤ 1000000) {Q : Option am_V → am_H → Prop} (q : ∀ I' l8 l9, lvK I I' (V 6 e = k ∧ (u = -1 ∨ u = t)) p (I 132 best + lvC V o e) → am_WP d 238 190 [some (vR (some 99)), some (vI k), some (vI u), some (vI z), some (vI gp), some (vI best), some (vI e), some (vI (t + 1)), l8, l9] [] (mkH w I' L) Q) : am_WP d 238 190 [some (vR (some 99)), some (vI k), some (vI u), some (vI z), some (vI gp), some (vI best), some (vI e), some (vI t), l8, l9] [] (mkH w I L) Q := by
  have vi := hM.2.2.1 e he.1 he.2
  have wi := hV.2.2.1 e he.1 he.2
  have cb := lvC_b (o := o) hV he.1 he.2
  have h8 := hV.1.2.1
  have t01 : t = 0 ∨ t = 1 := by omega
  have tw : am_w (t + 1) = t + 1 := am_w_i (by omega) (by omega)
  have pb : -9 ≤ p ∧ p ≤ 409 := by omega
  have t2 : ¬ (2 : Int) ≤ t := by omega
  rw [B238_190]
  by_cases c6 : V 6 e = k
  · by_cases cu : u = -1 ∨ u = t
    · have k249 : am_WP d 238 249 [some (vR (some 99)), some (vI k), some (vI u), some (vI z), some (vI gp), some (vI best), some (vI e), some (vI t), l8, l9] [vI p] (mkH w I L) Q := by
        have k273 : am_WP d 238 273 [some (vR (some 99)), some (vI k), some (vI u), some (vI z), some (vI gp), some (vI best), some (vI e), some (vI t), some (vI p), l9] [vI (lvC V o e), vI (I 132 best)] (mkH w I L) Q := by
          rw [B238_273]
          have no := fun (hh : (V 6 e = k ∧ (u = -1 ∨ u = t)) → 0 ≤ p → p ≤ 400 → 0 ≤ I 132 p ∧ I 132 p ≤ I 132 best + lvC V o e) => q I (some (vI p)) (some (vI (I 132 best + lvC V o e))) (Or.inl ⟨rfl, hh⟩)
          have yes := fun h1 h2 h3 => q (am_up I 132 p (I 132 best + lvC V o e)) (some (vI p)) (some (vI (I 132 best + lvC V o e))) (Or.inr ⟨⟨c6, cu⟩, h1, h2, h3, rfl⟩)
          by_cases c0 : p < 0
          · have z := no (fun _ y _ => by omega)
            first | (simp (disch := omega) only [c0, B238_323, tw, GA, GR, GRc, GO, GI, GL, GV, am_w_i, am_ga, am_it, am_if, true_and, and_true, or_true, true_or, ne_eq, not_false_eq_true, not_true_eq_false, false_imp_iff, true_imp_iff, Int.reduceEq, Int.reduceLT, Int.reduceLE, Int.reduceAdd, Int.reduceSub, Int.reduceMul, Int.reduceNeg]; exact z) | simp (disch := omega) only [c0, B238_323, tw, z, GA, GR, GRc, GO, GI, GL, GV, am_w_i, am_ga, am_it, am_if, true_and, and_true, or_true, true_or, ne_eq, not_false_eq_true, not_true_eq_false, false_imp_iff, true_imp_iff, Int.reduceEq, Int.reduceLT, Int.reduceLE, Int.reduceAdd, Int.reduceSub, Int.reduceMul, Int.reduceNeg]
          · by_cases c1 : 400 < p
            · have z := no (fun _ _ y => by omega)
              first | (simp (disch := omega) only [c0, c1, B238_323, tw, GA, GR, GRc, GO, GI, GL, GV, am_w_i, am_ga, am_it, am_if, true_and, and_true, or_true, true_or, ne_eq, not_false_eq_true, not_true_eq_false, false_imp_iff, true_imp_iff, Int.reduceEq, Int.reduceLT, Int.reduceLE, Int.reduceAdd, Int.reduceSub, Int.reduceMul, Int.reduceNeg]; exact z) | simp (disch := omega) only [c0, c1, B238_323, tw, z, GA, GR, GRc, GO, GI, GL, GV, am_w_i, am_ga, am_it, am_if, true_and, and_true, or_true, true_or, ne_eq, not_false_eq_true, not_true_eq_false, false_imp_iff, true_imp_iff, Int.reduceEq, Int.reduceLT, Int.reduceLE, Int.reduceAdd, Int.reduceSub, Int.reduceMul, Int.reduceNeg]
            · by_cases c2 : I 132 p < 0
              · have z := yes (by omega) (by omega) (Or.inl c2)
                first | (simp (disch := omega) only [c0, c1, Kk, Kx, c2, B238_314, B238_323, tw, GA, GR, GRc, GO, GI, GL, GV, am_w_i, am_ga, am_it, am_if, true_and, and_true, or_true, true_or, ne_eq, not_false_eq_true, not_true_eq_false, false_imp_iff, true_imp_iff, Int.reduceEq, Int.reduceLT, Int.reduceLE, Int.reduceAdd, Int.reduceSub, Int.reduceMul, Int.reduceNeg]; exact z) | simp (disch := omega) only [c0, c1, Kk, Kx, c2, B238_314, B238_323, tw, z, GA, GR, GRc, GO, GI, GL, GV, am_w_i, am_ga, am_it, am_if, true_and, and_true, or_true, true_or, ne_eq, not_false_eq_true, not_true_eq_false, false_imp_iff, true_imp_iff, Int.reduceEq, Int.reduceLT, Int.reduceLE, Int.reduceAdd, Int.reduceSub, Int.reduceMul, Int.reduceNeg]
              · by_cases c3 : I 132 best + lvC V o e < I 132 p
                · have z := yes (by omega) (by omega) (Or.inr c3)
                  first | (simp (disch := omega) only [c0, c1, Kk, Kx, c2, c3, B238_314, B238_323, tw, GA, GR, GRc, GO, GI, GL, GV, am_w_i, am_ga, am_it, am_if, true_and, and_true, or_true, true_or, ne_eq, not_false_eq_true, not_true_eq_false, false_imp_iff, true_imp_iff, Int.reduceEq, Int.reduceLT, Int.reduceLE, Int.reduceAdd, Int.reduceSub, Int.reduceMul, Int.reduceNeg]; exact z) | simp (disch := omega) only [c0, c1, Kk, Kx, c2, c3, B238_314, B238_323, tw, z, GA, GR, GRc, GO, GI, GL, GV, am_w_i, am_ga, am_it, am_if, true_and, and_true, or_true, true_or, ne_eq, not_false_eq_true, not_true_eq_false, false_imp_iff, true_imp_iff, Int.reduceEq, Int.reduceLT, Int.reduceLE, Int.reduceAdd, Int.reduceSub, Int.reduceMul, Int.reduceNeg]
                · have z := no (fun _ _ _ => by omega)
                  first | (simp (disch := omega) only [c0, c1, Kk, Kx, c2, c3, B238_323, tw, GA, GR, GRc, GO, GI, GL, GV, am_w_i, am_ga, am_it, am_if, true_and, and_true, or_true, true_or, ne_eq, not_false_eq_true, not_true_eq_false, false_imp_iff, true_imp_iff, Int.reduceEq, Int.reduceLT, Int.reduceLE, Int.reduceAdd, Int.reduceSub, Int.reduceMul, Int.reduceNeg]; exact z) | simp (disch := omega) only [c0, c1, Kk, Kx, c2, c3, B238_323, tw, z, GA, GR, GRc, GO, GI, GL, GV, am_w_i, am_ga, am_it, am_if, true_and, and_true, or_true, true_or, ne_eq, not_false_eq_true, not_true_eq_false, false_imp_iff, true_imp_iff, Int.reduceEq, Int.reduceLT, Int.reduceLE, Int.reduceAdd, Int.reduceSub, Int.reduceMul, Int.reduceNeg]
        rw [B238_249]
        unfold lvC at k273
        rcases ho with ⟨o0, z0⟩ | ⟨o0, z0⟩
        · subst o0; subst z0
          rw [if_pos rfl] at k273
          have z := k273
          first | (simp (disch := omega) only [Kk, Kx, Kw, vi.2.2.2.1, GA, GR, GRc, GO, GI, GL, GV, am_w_i, am_ga, am_it, am_if, true_and, and_true, or_true, true_or, ne_eq, not_false_eq_true, not_true_eq_false, false_imp_iff, true_imp_iff, Int.reduceEq, Int.reduceLT, Int.reduceLE, Int.reduceAdd, Int.reduceSub, Int.reduceMul, Int.reduceNeg]; exact z) | simp (disch := omega) only [Kk, Kx, Kw, vi.2.2.2.1, z, GA, GR, GRc, GO, GI, GL, GV, am_w_i, am_ga, am_it, am_if, true_and, and_true, or_true, true_or, ne_eq, not_false_eq_true, not_true_eq_false, false_imp_iff, true_imp_iff, Int.reduceEq, Int.reduceLT, Int.reduceLE, Int.reduceAdd, Int.reduceSub, Int.reduceMul, Int.reduceNeg]
        · subst o0; subst z0
          rw [if_neg (by decide)] at k273
          have z := k273
          first | (simp (disch := omega) only [Kk, Kx, GA, GR, GRc, GO, GI, GL, GV, am_w_i, am_ga, am_it, am_if, true_and, and_true, or_true, true_or, ne_eq, not_false_eq_true, not_true_eq_false, false_imp_iff, true_imp_iff, Int.reduceEq, Int.reduceLT, Int.reduceLE, Int.reduceAdd, Int.reduceSub, Int.reduceMul, Int.reduceNeg]; exact z) | simp (disch := omega) only [Kk, Kx, z, GA, GR, GRc, GO, GI, GL, GV, am_w_i, am_ga, am_it, am_if, true_and, and_true, or_true, true_or, ne_eq, not_false_eq_true, not_true_eq_false, false_imp_iff, true_imp_iff, Int.reduceEq, Int.reduceLT, Int.reduceLE, Int.reduceAdd, Int.reduceSub, Int.reduceMul, Int.reduceNeg]
      have k221 : am_WP d 238 221 [some (vR (some 99)), some (vI k), some (vI u), some (vI z), some (vI gp), some (vI best), some (vI e), some (vI t), l8, l9] [] (mkH w I L) Q := by
        rw [B238_221]
        rcases ht with ⟨e1, e2⟩ | ⟨e1, e2⟩
        · subst e1
          rw [e2] at k249
          have z := k249
          first | (simp (disch := omega) only [Kk, Kw, vi.2.2.1, GA, GR, GRc, GO, GI, GL, GV, am_w_i, am_ga, am_it, am_if, true_and, and_true, or_true, true_or, ne_eq, not_false_eq_true, not_true_eq_false, false_imp_iff, true_imp_iff, Int.reduceEq, Int.reduceLT, Int.reduceLE, Int.reduceAdd, Int.reduceSub, Int.reduceMul, Int.reduceNeg]; exact z) | simp (disch := omega) only [Kk, Kw, vi.2.2.1, z, GA, GR, GRc, GO, GI, GL, GV, am_w_i, am_ga, am_it, am_if, true_and, and_true, or_true, true_or, ne_eq, not_false_eq_true, not_true_eq_false, false_imp_iff, true_imp_iff, Int.reduceEq, Int.reduceLT, Int.reduceLE, Int.reduceAdd, Int.reduceSub, Int.reduceMul, Int.reduceNeg]
        · subst e1
          rw [e2] at k249
          have z := k249
          first | (simp (disch := omega) only [Kk, Kw, vi.2.2.1, GA, GR, GRc, GO, GI, GL, GV, am_w_i, am_ga, am_it, am_if, true_and, and_true, or_true, true_or, ne_eq, not_false_eq_true, not_true_eq_false, false_imp_iff, true_imp_iff, Int.reduceEq, Int.reduceLT, Int.reduceLE, Int.reduceAdd, Int.reduceSub, Int.reduceMul, Int.reduceNeg]; exact z) | simp (disch := omega) only [Kk, Kw, vi.2.2.1, z, GA, GR, GRc, GO, GI, GL, GV, am_w_i, am_ga, am_it, am_if, true_and, and_true, or_true, true_or, ne_eq, not_false_eq_true, not_true_eq_false, false_imp_iff, true_imp_iff, Int.reduceEq, Int.reduceLT, Int.reduceLE, Int.reduceAdd, Int.reduceSub, Int.reduceMul, Int.reduceNeg]
      have z := k221
      by_cases cu1 : u = -1
      · subst cu1
        first | (simp (disch := omega) only [t2, Kk, Kw, vi.2.1, c6, GA, GR, GRc, GO, GI, GL, GV, am_w_i, am_ga, am_it, am_if, true_and, and_true, or_true, true_or, ne_eq, not_false_eq_true, not_true_eq_false, false_imp_iff, true_imp_iff, Int.reduceEq, Int.reduceLT, Int.reduceLE, Int.reduceAdd, Int.reduceSub, Int.reduceMul, Int.reduceNeg]; exact z) | simp (disch := omega) only [t2, Kk, Kw, vi.2.1, c6, z, GA, GR, GRc, GO, GI, GL, GV, am_w_i, am_ga, am_it, am_if, true_and, and_true, or_true, true_or, ne_eq, not_false_eq_true, not_true_eq_false, false_imp_iff, true_imp_iff, Int.reduceEq, Int.reduceLT, Int.reduceLE, Int.reduceAdd, Int.reduceSub, Int.reduceMul, Int.reduceNeg]
      · have cu2 : u = t := by omega
        subst cu2
        first | (simp (disch := omega) only [t2, Kk, Kw, vi.2.1, c6, cu1, GA, GR, GRc, GO, GI, GL, GV, am_w_i, am_ga, am_it, am_if, true_and, and_true, or_true, true_or, ne_eq, not_false_eq_true, not_true_eq_false, false_imp_iff, true_imp_iff, Int.reduceEq, Int.reduceLT, Int.reduceLE, Int.reduceAdd, Int.reduceSub, Int.reduceMul, Int.reduceNeg]; exact z) | simp (disch := omega) only [t2, Kk, Kw, vi.2.1, c6, cu1, z, GA, GR, GRc, GO, GI, GL, GV, am_w_i, am_ga, am_it, am_if, true_and, and_true, or_true, true_or, ne_eq, not_false_eq_true, not_true_eq_false, false_imp_iff, true_imp_iff, Int.reduceEq, Int.reduceLT, Int.reduceLE, Int.reduceAdd, Int.reduceSub, Int.reduceMul, Int.reduceNeg]
    · have z := q I l8 l9 (Or.inl ⟨rfl, fun y => absurd y.2 cu⟩)
      have cu1 : ¬ u = -1 := fun y => cu (Or.inl y)
      have cu2 : ¬ u = t := fun y => cu (Or.inr y)
      first | (simp (disch := omega) only [t2, Kk, Kw, vi.2.1, c6, cu1, cu2, B238_323, tw, GA, GR, GRc, GO, GI, GL, GV, am_w_i, am_ga, am_it, am_if, true_and, and_true, or_true, true_or, ne_eq, not_false_eq_true, not_true_eq_false, false_imp_iff, true_imp_iff, Int.reduceEq, Int.reduceLT, Int.reduceLE, Int.reduceAdd, Int.reduceSub, Int.reduceMul, Int.reduceNeg]; exact z) | simp (disch := omega) only [t2, Kk, Kw, vi.2.1, c6, cu1, cu2, B238_323, tw, z, GA, GR, GRc, GO, GI, GL, GV, am_w_i, am_ga, am_it, am_if, true_and, and_true, or_true, true_or, ne_eq, not_false_eq_true, not_true_eq_false, false_imp_iff, true_imp_iff, Int.reduceEq, Int.reduceLT, Int.reduceLE, Int.reduceAdd, Int.reduceSub, Int.reduceMul, Int.reduceNeg]
  · have z := q I l8 l9 (Or.inl ⟨rfl, fun y => absurd y.1 c6⟩)
    first | (simp (disch := omega) only [t2, Kk, Kw, vi.2.1, c6, B238_323, tw, GA, GR, GRc, GO, GI, GL, GV, am_w_i, am_ga, am_it, am_if, true_and, and_true, or_true, true_or, ne_eq, not_false_eq_true, not_true_eq_false, false_imp_iff, true_imp_iff, Int.reduceEq, Int.reduceLT, Int.reduceLE, Int.reduceAdd, Int.reduceSub, Int.reduceMul, Int.reduceNeg]; exact z) | simp (disch := omega) only [t2, Kk, Kw, vi.2.1, c6, B238_323, tw, z, GA, GR, GRc, GO, GI, GL, GV, am_w_i, am_ga, am_it, am_if, true_and, and_true, or_true, true_or, ne_eq, not_false_eq_true, not_true_eq_false, false_imp_iff, true_imp_iff, Int.reduceEq, Int.reduceLT, Int.reduceLE, Int.reduceAdd, Int.reduceSub, Int.reduceMul, Int.reduceNeg]
set_option maxHeartbeats 1000000 in
theorem m178 {d : Nat} {w : Nat × Nat × Nat × Nat} {I L : Nat → Int → Int} {V : (Nat → Int → Int)} {k u z o gp best s : Int} {m : Nat} {A B : Prop} {l7 l8 l9 : Option am_V} (hM : MW I V) (hV : WV V) (hb : 0 ≤ best ∧ best ≤ 400) (hA : (u = -1 ∨ u = 0) ↔ A) (hB : (u = -1 ∨ u = 1) ↔ B) (ho : (o = 0 ∧ z = 1) ∨ (o = 1 ∧ z = 0)) (hm : m ≤ 400) (bT : 0 ≤ I 132 best ∧ I 132 best ≤ 99 * (m : Int)) (hW : ∃ n, n ≤ m ∧ lvW (lvE V k o A B) s n best (I 132 best)) {Q : Option am_V → am_H → Prop} (q : ∀ I' l5 l6 l7 l8 l9, lvX (lvE V k o A B) s m best I I' → (∀ q x, lvE V k o A B best q x → 0 ≤ I' 132 q ∧ I' 132 q ≤ I 132 best + x) → am_WP d 238 76 [some (vR (some 99)), some (vI k), some (vI u), some (vI z), some (vI gp), some (vI l5), l6, l7, l8, l9] [] (mkH w I' L) Q) : am_WP d 238 178 [some (vR (some 99)), some (vI k), some (vI u), some (vI z), some (vI gp), some (vI best), some (vI 0), l7, l8, l9] [] (mkH w I L) Q := by
  have h12 := hV.1.2.1
  obtain ⟨n, hn⟩ : ∃ n : Nat, V 0 1 = n := ⟨(V 0 1).toNat, by omega⟩
  obtain ⟨j, hj, hW⟩ := hW
  refine am_loop (α := (Nat → Int → Int) × Option am_V × Option am_V × Option am_V) n (fun i x => am_WP d 238 178 [some (vR (some 99)), some (vI k), some (vI u), some (vI z), some (vI gp), some (vI best), some (vI (i : Int)), x.2.1, x.2.2.1, x.2.2.2] [] (mkH w x.1 L) Q) (fun i x => lvX (lvE V k o A B) s m best I x.1 ∧ ∀ e : Int, 0 ≤ e → e < i → V 6 e = k → (A → 0 ≤ best + V 7 e → best + V 7 e ≤ 400 → 0 ≤ x.1 132 (best + V 7 e) ∧ x.1 132 (best + V 7 e) ≤ I 132 best + lvC V o e) ∧ (B → 0 ≤ best - V 7 e → best - V 7 e ≤ 400 → 0 ≤ x.1 132 (best - V 7 e) ∧ x.1 132 (best - V 7 e) ≤ I 132 best + lvC V o e)) ?_ ?_ 0 (I, l7, l8, l9) (Nat.zero_le _) ⟨⟨fun _ _ => rfl, fun _ _ _ => Or.inl rfl⟩, fun e h0 h1 => by omega⟩
  · rintro i ⟨I1, l7, l8, l9⟩ hi ⟨v1, v2⟩ ih
    dsimp only at v1 v2 ⊢
    have i0 : (0 : Int) ≤ i ∧ (i : Int) < V 0 1 := by omega
    have hM1 : MW I1 V := hM.fr (fun a _ _ => v1.1 a (by omega)) (fun j _ _ => by rw [v1.1 99 (by decide)])
    have b1 := v1.b hb bT.1
    have cb := lvC_b (o := o) hV i0.1 i0.2
    rw [B238_178]
    simp (disch := omega) only [Kk, hM1.1.2.1, hn, GA, GR, GRc, GO, GI, GL, GV, am_w_i, am_ga, am_it, am_if, true_and, and_true, or_true, true_or, ne_eq, not_false_eq_true, not_true_eq_false, false_imp_iff, true_imp_iff, Int.reduceEq, Int.reduceLT, Int.reduceLE, Int.reduceAdd, Int.reduceSub, Int.reduceMul, Int.reduceNeg]
    refine m190 (o := o) (p := best + V 7 i) hM1 hV hb i0 (Or.inl ⟨rfl, rfl⟩) ho (by omega) (fun I2 l8 l9 k1 => ?_)
    rw [b1] at k1
    obtain ⟨w1, w2, w3⟩ := v1.st k1 bT.1 rfl cb bT.2 (fun c y0 y1 => ⟨j + 1, by omega, lvW_s hW ⟨hb, ⟨y0, y1⟩, i, i0, c.1, rfl, Or.inl ⟨hA.1 c.2, rfl⟩⟩⟩)
    have hM2 : MW I2 V := hM.fr (fun a _ _ => w1.1 a (by omega)) (fun j _ _ => by rw [w1.1 99 (by decide)])
    have b2 := w1.b hb bT.1
    refine m190 (o := o) (p := best - V 7 i) hM2 hV hb i0 (Or.inr ⟨rfl, rfl⟩) ho (by omega) (fun I3 l8 l9 k2 => ?_)
    rw [b2] at k2
    obtain ⟨x1, x2, x3⟩ := w1.st k2 bT.1 rfl cb bT.2 (fun c y0 y1 => ⟨j + 1, by omega, lvW_s hW ⟨hb, ⟨y0, y1⟩, i, i0, c.1, rfl, Or.inr ⟨hB.1 c.2, rfl⟩⟩⟩)
    have z := ih (I3, some (vI 2), l8, l9) ⟨x1, fun e e0 e1 e6 => by
      by_cases ei : e = i
      · subst ei
        exact ⟨fun y y0 y1 => x2 _ _ (w3 ⟨e6, hA.2 y⟩ y0 y1), fun y y0 y1 => x3 ⟨e6, hB.2 y⟩ y0 y1⟩
      · have := v2 e e0 (by omega) e6
        exact ⟨fun y y0 y1 => x2 _ _ (w2 _ _ (this.1 y y0 y1)), fun y y0 y1 => x2 _ _ (w2 _ _ (this.2 y y0 y1))⟩⟩
    rw [B238_190]
    first | (simp (disch := omega) only [GA, GR, GRc, GO, GI, GL, GV, am_w_i, am_ga, am_it, am_if, true_and, and_true, or_true, true_or, ne_eq, not_false_eq_true, not_true_eq_false, false_imp_iff, true_imp_iff, Int.reduceEq, Int.reduceLT, Int.reduceLE, Int.reduceAdd, Int.reduceSub, Int.reduceMul, Int.reduceNeg]; exact z) | simp (disch := omega) only [z, GA, GR, GRc, GO, GI, GL, GV, am_w_i, am_ga, am_it, am_if, true_and, and_true, or_true, true_or, ne_eq, not_false_eq_true, not_true_eq_false, false_imp_iff, true_imp_iff, Int.reduceEq, Int.reduceLT, Int.reduceLE, Int.reduceAdd, Int.reduceSub, Int.reduceMul, Int.reduceNeg]
  · rintro ⟨I1, l7, l8, l9⟩ ⟨v1, v2⟩
    dsimp only at v1 v2 ⊢
    have hM1 : MW I1 V := hM.fr (fun a _ _ => v1.1 a (by omega)) (fun j _ _ => by rw [v1.1 99 (by decide)])
    have z := q I1 best (some (vI (n : Int))) l7 l8 l9 v1 (fun q x he => by
      obtain ⟨-, q0, e, e0, e6, rfl, h | h⟩ := he
      · rw [h.2] at q0 ⊢; exact (v2 e e0.1 (by omega) e6).1 h.1 q0.1 q0.2
      · rw [h.2] at q0 ⊢; exact (v2 e e0.1 (by omega) e6).2 h.1 q0.1 q0.2)
    rw [B238_178]
    first | (simp (disch := omega) only [Kk, hM1.1.2.1, hn, GA, GR, GRc, GO, GI, GL, GV, am_w_i, am_ga, am_it, am_if, true_and, and_true, or_true, true_or, ne_eq, not_false_eq_true, not_true_eq_false, false_imp_iff, true_imp_iff, Int.reduceEq, Int.reduceLT, Int.reduceLE, Int.reduceAdd, Int.reduceSub, Int.reduceMul, Int.reduceNeg]; exact z) | simp (disch := omega) only [Kk, hM1.1.2.1, hn, z, GA, GR, GRc, GO, GI, GL, GV, am_w_i, am_ga, am_it, am_if, true_and, and_true, or_true, true_or, ne_eq, not_false_eq_true, not_true_eq_false, false_imp_iff, true_imp_iff, Int.reduceEq, Int.reduceLT, Int.reduceLE, Int.reduceAdd, Int.reduceSub, Int.reduceMul, Int.reduceNeg]
set_option maxHeartbeats 1000000 in
theorem m82 {d : Nat} {w : Nat × Nat × Nat × Nat} {I L : Nat → Int → Int} {k u z gp : Int} {l7 l8 l9 : Option am_V} {Q : Option am_V → am_H → Prop} (q1 : (∀ p, 0 ≤ p → p ≤ 400 → 0 ≤ I 132 p → I 133 p ≠ 0) → Q (some (vI (-2))) (mkH w I L)) (q2 : 0 ≤ I 132 200 → (∀ p, 0 ≤ p → p ≤ 400 → 0 ≤ I 132 p → I 133 p = 0 → I 132 200 ≤ I 132 p) → Q (some (vI (I 132 200))) (mkH w I L)) (q3 : ∀ best, 0 ≤ best ∧ best ≤ 400 → 0 ≤ I 132 best → I 133 best = 0 → (∀ p, 0 ≤ p → p ≤ 400 → 0 ≤ I 132 p → I 133 p = 0 → I 132 best ≤ I 132 p) → best ≠ 200 → am_WP d 238 175 [some (vR (some 99)), some (vI k), some (vI u), some (vI z), some (vI gp), some (vI best), some (vI 401), l7, l8, l9] [] (mkH w (am_up I 133 best 1) L) Q) : am_WP d 238 82 [some (vR (some 99)), some (vI k), some (vI u), some (vI z), some (vI gp), some (vI (-1)), some (vI 0), l7, l8, l9] [] (mkH w I L) Q := by
  refine am_loop (α := Int) 401 (fun i x => am_WP d 238 82 [some (vR (some 99)), some (vI k), some (vI u), some (vI z), some (vI gp), some (vI x), some (vI (i : Int)), l7, l8, l9] [] (mkH w I L) Q) (fun i x => (x = -1 ∧ ∀ p, 0 ≤ p → p < (i : Int) → 0 ≤ I 132 p → I 133 p ≠ 0) ∨ ((0 ≤ x ∧ x < i) ∧ 0 ≤ I 132 x ∧ I 133 x = 0 ∧ ∀ p, 0 ≤ p → p < (i : Int) → 0 ≤ I 132 p → I 133 p = 0 → I 132 x ≤ I 132 p)) ?_ ?_ 0 (-1) (Nat.zero_le _) (Or.inl ⟨rfl, fun p h0 h1 => by omega⟩)
  · intro i x hi hx ih
    rw [B238_82]
    have keep : (I 132 i < 0 ∨ I 133 i ≠ 0 ∨ (0 ≤ x ∧ I 132 x ≤ I 132 i)) → am_WP d 238 82 [some (vR (some 99)), some (vI k), some (vI u), some (vI z), some (vI gp), some (vI x), some (vI ((i : Int) + 1)), l7, l8, l9] [] (mkH w I L) Q := by
      intro hh
      refine ih x ?_
      rcases hx with ⟨a, b⟩ | ⟨a, b, c, e⟩
      · refine Or.inl ⟨a, fun p p0 p1 p2 => ?_⟩
        by_cases ep : p = i
        · subst ep; omega
        · exact b p p0 (by omega) p2
      · refine Or.inr ⟨by omega, b, c, fun p p0 p1 p2 p3 => ?_⟩
        by_cases ep : p = i
        · subst ep; omega
        · exact e p p0 (by omega) p2 p3
    have take : 0 ≤ I 132 i → I 133 i = 0 → (x < 0 ∨ I 132 i < I 132 x) → am_WP d 238 82 [some (vR (some 99)), some (vI k), some (vI u), some (vI z), some (vI gp), some (vI (i : Int)), some (vI ((i : Int) + 1)), l7, l8, l9] [] (mkH w I L) Q := by
      intro h1 h2 h3
      refine ih i (Or.inr ⟨by omega, h1, h2, fun p p0 p1 p2 p3 => ?_⟩)
      by_cases ep : p = i
      · subst ep; exact Int.le_refl _
      · rcases hx with ⟨a, b⟩ | ⟨a, b, c, e⟩
        · exact absurd p3 (b p p0 (by omega) p2)
        · have := e p p0 (by omega) p2 p3; omega
    by_cases c0 : I 132 i < 0
    · have z := keep (Or.inl c0)
      first | (simp (disch := omega) only [Kk, Kx, c0, B238_136, GA, GR, GRc, GO, GI, GL, GV, am_w_i, am_ga, am_it, am_if, true_and, and_true, or_true, true_or, ne_eq, not_false_eq_true, not_true_eq_false, false_imp_iff, true_imp_iff, Int.reduceEq, Int.reduceLT, Int.reduceLE, Int.reduceAdd, Int.reduceSub, Int.reduceMul, Int.reduceNeg]; exact z) | simp (disch := omega) only [Kk, Kx, c0, B238_136, z, GA, GR, GRc, GO, GI, GL, GV, am_w_i, am_ga, am_it, am_if, true_and, and_true, or_true, true_or, ne_eq, not_false_eq_true, not_true_eq_false, false_imp_iff, true_imp_iff, Int.reduceEq, Int.reduceLT, Int.reduceLE, Int.reduceAdd, Int.reduceSub, Int.reduceMul, Int.reduceNeg]
    · by_cases c1 : I 133 i = 0
      · by_cases c2 : x < 0
        · have z := take (by omega) c1 (Or.inl c2)
          first | (simp (disch := omega) only [Kk, Kx, c0, c1, c2, B238_132, B238_136, GA, GR, GRc, GO, GI, GL, GV, am_w_i, am_ga, am_it, am_if, true_and, and_true, or_true, true_or, ne_eq, not_false_eq_true, not_true_eq_false, false_imp_iff, true_imp_iff, Int.reduceEq, Int.reduceLT, Int.reduceLE, Int.reduceAdd, Int.reduceSub, Int.reduceMul, Int.reduceNeg]; exact z) | simp (disch := omega) only [Kk, Kx, c0, c1, c2, B238_132, B238_136, z, GA, GR, GRc, GO, GI, GL, GV, am_w_i, am_ga, am_it, am_if, true_and, and_true, or_true, true_or, ne_eq, not_false_eq_true, not_true_eq_false, false_imp_iff, true_imp_iff, Int.reduceEq, Int.reduceLT, Int.reduceLE, Int.reduceAdd, Int.reduceSub, Int.reduceMul, Int.reduceNeg]
        · by_cases c3 : I 132 x ≤ I 132 i
          · have z := keep (Or.inr (Or.inr ⟨by omega, c3⟩))
            first | (simp (disch := omega) only [Kk, Kx, c0, c1, c2, c3, B238_136, GA, GR, GRc, GO, GI, GL, GV, am_w_i, am_ga, am_it, am_if, true_and, and_true, or_true, true_or, ne_eq, not_false_eq_true, not_true_eq_false, false_imp_iff, true_imp_iff, Int.reduceEq, Int.reduceLT, Int.reduceLE, Int.reduceAdd, Int.reduceSub, Int.reduceMul, Int.reduceNeg]; exact z) | simp (disch := omega) only [Kk, Kx, c0, c1, c2, c3, B238_136, z, GA, GR, GRc, GO, GI, GL, GV, am_w_i, am_ga, am_it, am_if, true_and, and_true, or_true, true_or, ne_eq, not_false_eq_true, not_true_eq_false, false_imp_iff, true_imp_iff, Int.reduceEq, Int.reduceLT, Int.reduceLE, Int.reduceAdd, Int.reduceSub, Int.reduceMul, Int.reduceNeg]
          · have z := take (by omega) c1 (Or.inr (by omega))
            first | (simp (disch := omega) only [Kk, Kx, c0, c1, c2, c3, B238_132, B238_136, GA, GR, GRc, GO, GI, GL, GV, am_w_i, am_ga, am_it, am_if, true_and, and_true, or_true, true_or, ne_eq, not_false_eq_true, not_true_eq_false, false_imp_iff, true_imp_iff, Int.reduceEq, Int.reduceLT, Int.reduceLE, Int.reduceAdd, Int.reduceSub, Int.reduceMul, Int.reduceNeg]; exact z) | simp (disch := omega) only [Kk, Kx, c0, c1, c2, c3, B238_132, B238_136, z, GA, GR, GRc, GO, GI, GL, GV, am_w_i, am_ga, am_it, am_if, true_and, and_true, or_true, true_or, ne_eq, not_false_eq_true, not_true_eq_false, false_imp_iff, true_imp_iff, Int.reduceEq, Int.reduceLT, Int.reduceLE, Int.reduceAdd, Int.reduceSub, Int.reduceMul, Int.reduceNeg]
      · have z := keep (Or.inr (Or.inl c1))
        first | (simp (disch := omega) only [Kk, Kx, c0, c1, B238_136, GA, GR, GRc, GO, GI, GL, GV, am_w_i, am_ga, am_it, am_if, true_and, and_true, or_true, true_or, ne_eq, not_false_eq_true, not_true_eq_false, false_imp_iff, true_imp_iff, Int.reduceEq, Int.reduceLT, Int.reduceLE, Int.reduceAdd, Int.reduceSub, Int.reduceMul, Int.reduceNeg]; exact z) | simp (disch := omega) only [Kk, Kx, c0, c1, B238_136, z, GA, GR, GRc, GO, GI, GL, GV, am_w_i, am_ga, am_it, am_if, true_and, and_true, or_true, true_or, ne_eq, not_false_eq_true, not_true_eq_false, false_imp_iff, true_imp_iff, Int.reduceEq, Int.reduceLT, Int.reduceLE, Int.reduceAdd, Int.reduceSub, Int.reduceMul, Int.reduceNeg]
  · intro x hx
    rw [B238_82]
    rcases hx with ⟨a, b⟩ | ⟨a, b, c, e⟩
    · subst a
      have z := q1 (fun p p0 p1 => b p p0 (by omega))
      first | (simp (disch := omega) only [GA, GR, GRc, GO, GI, GL, GV, am_w_i, am_ga, am_it, am_if, true_and, and_true, or_true, true_or, ne_eq, not_false_eq_true, not_true_eq_false, false_imp_iff, true_imp_iff, Int.reduceEq, Int.reduceLT, Int.reduceLE, Int.reduceAdd, Int.reduceSub, Int.reduceMul, Int.reduceNeg]; exact z) | simp (disch := omega) only [z, GA, GR, GRc, GO, GI, GL, GV, am_w_i, am_ga, am_it, am_if, true_and, and_true, or_true, true_or, ne_eq, not_false_eq_true, not_true_eq_false, false_imp_iff, true_imp_iff, Int.reduceEq, Int.reduceLT, Int.reduceLE, Int.reduceAdd, Int.reduceSub, Int.reduceMul, Int.reduceNeg]
    · by_cases c2 : x = 200
      · subst c2
        have z := q2 b (fun p p0 p1 => e p p0 (by omega))
        first | (simp (disch := omega) only [Kk, Kx, GA, GR, GRc, GO, GI, GL, GV, am_w_i, am_ga, am_it, am_if, true_and, and_true, or_true, true_or, ne_eq, not_false_eq_true, not_true_eq_false, false_imp_iff, true_imp_iff, Int.reduceEq, Int.reduceLT, Int.reduceLE, Int.reduceAdd, Int.reduceSub, Int.reduceMul, Int.reduceNeg]; exact z) | simp (disch := omega) only [Kk, Kx, z, GA, GR, GRc, GO, GI, GL, GV, am_w_i, am_ga, am_it, am_if, true_and, and_true, or_true, true_or, ne_eq, not_false_eq_true, not_true_eq_false, false_imp_iff, true_imp_iff, Int.reduceEq, Int.reduceLT, Int.reduceLE, Int.reduceAdd, Int.reduceSub, Int.reduceMul, Int.reduceNeg]
      · have z := q3 x (by omega) b c (fun p p0 p1 => e p p0 (by omega)) c2
        first | (simp (disch := omega) only [Kk, Kx, c2, GA, GR, GRc, GO, GI, GL, GV, am_w_i, am_ga, am_it, am_if, true_and, and_true, or_true, true_or, ne_eq, not_false_eq_true, not_true_eq_false, false_imp_iff, true_imp_iff, Int.reduceEq, Int.reduceLT, Int.reduceLE, Int.reduceAdd, Int.reduceSub, Int.reduceMul, Int.reduceNeg]; exact z) | simp (disch := omega) only [Kk, Kx, c2, z, GA, GR, GRc, GO, GI, GL, GV, am_w_i, am_ga, am_it, am_if, true_and, and_true, or_true, true_or, ne_eq, not_false_eq_true, not_true_eq_false, false_imp_iff, true_imp_iff, Int.reduceEq, Int.reduceLT, Int.reduceLE, Int.reduceAdd, Int.reduceSub, Int.reduceMul, Int.reduceNeg]
set_option maxHeartbeats 1000000 in
theorem s238 {d : Nat} {w : Nat × Nat × Nat × Nat} {I L : Nat → Int → Int} {V σ : (Nat → Int → Int)} {k u z o : Int} {A B : Prop} (hM : MW I V) (hV : WV V) (mS : MS I L 0 σ) (wS : WS 9000 σ) (hk : 0 ≤ k ∧ k < 6) (hA : (u = -1 ∨ u = 0) ↔ A) (hB : (u = -1 ∨ u = 1) ↔ B) (ho : (o = 0 ∧ z = 1) ∨ (o = 1 ∧ z = 0)) {Q : Option am_V → am_H → Prop} (q1 : ¬ (-200 ≤ σ 1 (2 * k) - σ 1 (2 * k + 1) ∧ σ 1 (2 * k) - σ 1 (2 * k + 1) ≤ 200) → Q (some (vI (-2))) (mkH w I L)) (q2 : (-200 ≤ σ 1 (2 * k) - σ 1 (2 * k + 1) ∧ σ 1 (2 * k) - σ 1 (2 * k + 1) ≤ 200) → ∀ I' v, (∀ a, a ≠ 132 → a ≠ 133 → I' a = I a) → lvR (lvE V k o A B) (σ 1 (2 * k) - σ 1 (2 * k + 1) + 200) v → Q (some (vI v)) (mkH w I' L)) : am_Sp (d + 1) 238 [vR (some 99), vI k, vI u, vI z] (mkH w I L) Q := by
  have a1 := wS.1 (2 * k) (by omega) (by omega)
  have a2 := wS.1 (2 * k + 1) (by omega) (by omega)
  have e1 := mS.a0 (j := 2 * k) (by omega) (by omega)
  have e2 := mS.a0 (j := 2 * k + 1) (by omega) (by omega)
  rw [S238]
  simp (disch := omega) only [Kk, s204 (Or.inl rfl) hk, Int.mul_zero, Int.zero_add, Int.add_zero, e1, e2, s202, GA, GR, GRc, GO, GI, GL, GV, am_w_i, am_ga, am_it, am_if, true_and, and_true, or_true, true_or, ne_eq, not_false_eq_true, not_true_eq_false, false_imp_iff, true_imp_iff, Int.reduceEq, Int.reduceLT, Int.reduceLE, Int.reduceAdd, Int.reduceSub, Int.reduceMul, Int.reduceNeg]
  generalize hg : σ 1 (2 * k) - σ 1 (2 * k + 1) = g at q1 q2 ⊢
  have ib : iabs g ≤ 200 ↔ (-200 ≤ g ∧ g ≤ 200) := by unfold iabs; split <;> omega
  by_cases c : -200 ≤ g ∧ g ≤ 200
  · have q2 := q2 c
    have c' := ib.2 c
    simp (disch := omega) only [c', GA, GR, GRc, GO, GI, GL, GV, am_w_i, am_ga, am_it, am_if, true_and, and_true, or_true, true_or, ne_eq, not_false_eq_true, not_true_eq_false, false_imp_iff, true_imp_iff, Int.reduceEq, Int.reduceLT, Int.reduceLE, Int.reduceAdd, Int.reduceSub, Int.reduceMul, Int.reduceNeg]
    have hE : ∀ p q x, lvE V k o A B p q x → (0 ≤ p ∧ p ≤ 400) ∧ (0 ≤ q ∧ q ≤ 400) := fun p q x h => ⟨h.1, h.2.1⟩
    have hE0 : ∀ p q x, lvE V k o A B p q x → 0 ≤ x := fun p q x h => (lvE_b hV h).1
    have hs : 0 ≤ g + 200 ∧ g + 200 ≤ 400 := by omega
    refine am_loop (α := (Nat → Int → Int)) 401 (fun i J => am_WP (d + 1) 238 34 [some (vR (some 99)), some (vI k), some (vI u), some (vI z), some (vI g), some (vI (i : Int)), none, none, none, none] [] (mkH w J L) Q) (fun i J => (∀ a, a ≠ 132 → a ≠ 133 → J a = I a) ∧ ∀ p, 0 ≤ p → p < (i : Int) → J 132 p = -1 ∧ J 133 p = 0) ?_ ?_ 0 I (Nat.zero_le _) ⟨fun _ _ _ => rfl, fun p h0 h1 => by omega⟩
    · intro i J hi ⟨v1, v2⟩ ih
      have z := ih (am_up (am_up J 132 i (-1)) 133 i 0) ⟨fun a h1 h2 => by rw [am_up_a _ _ _ _ h2, am_up_a _ _ _ _ h1]; exact v1 a h1 h2, fun p p0 p1 => by
        rw [am_up_a _ _ _ _ (show (132 : Nat) ≠ 133 by decide)]
        by_cases ep : p = i
        · subst ep; rw [am_up_s, am_up_s]; exact ⟨rfl, rfl⟩
        · rw [am_up_n _ _ _ _ ep, am_up_n _ _ _ _ ep, am_up_a _ _ _ _ (show (133 : Nat) ≠ 132 by decide)]; exact v2 p p0 (by omega)⟩
      rw [B238_34]
      first | (simp (disch := omega) only [Kk, Kx, B238_50, B238_58, GA, GR, GRc, GO, GI, GL, GV, am_w_i, am_ga, am_it, am_if, true_and, and_true, or_true, true_or, ne_eq, not_false_eq_true, not_true_eq_false, false_imp_iff, true_imp_iff, Int.reduceEq, Int.reduceLT, Int.reduceLE, Int.reduceAdd, Int.reduceSub, Int.reduceMul, Int.reduceNeg]; exact z) | simp (disch := omega) only [Kk, Kx, B238_50, B238_58, z, GA, GR, GRc, GO, GI, GL, GV, am_w_i, am_ga, am_it, am_if, true_and, and_true, or_true, true_or, ne_eq, not_false_eq_true, not_true_eq_false, false_imp_iff, true_imp_iff, Int.reduceEq, Int.reduceLT, Int.reduceLE, Int.reduceAdd, Int.reduceSub, Int.reduceMul, Int.reduceNeg]
    · intro J ⟨v1, v2⟩
      rw [B238_34]
      simp (disch := omega) only [Kk, Kx, GA, GR, GRc, GO, GI, GL, GV, am_w_i, am_ga, am_it, am_if, true_and, and_true, or_true, true_or, ne_eq, not_false_eq_true, not_true_eq_false, false_imp_iff, true_imp_iff, Int.reduceEq, Int.reduceLT, Int.reduceLE, Int.reduceAdd, Int.reduceSub, Int.reduceMul, Int.reduceNeg]
      rw [Int.add_comm 200 g]
      have lp := am_loop (α := (Nat → Int → Int) × Int × Option am_V × Option am_V × Option am_V × Option am_V) 401 (fun m x => am_WP (d + 1) 238 76 [some (vR (some 99)), some (vI k), some (vI u), some (vI z), some (vI g), some (vI x.2.1), x.2.2.1, x.2.2.2.1, x.2.2.2.2.1, x.2.2.2.2.2] [] (mkH w x.1 L) Q) (fun m x => (∀ a, a ≠ 132 → a ≠ 133 → x.1 a = I a) ∧ lvZ (lvE V k o A B) (g + 200) m x.1) (by
        rintro m ⟨J1, l5, l6, l7, l8, l9⟩ hm ⟨u1, u2⟩ ih
        dsimp only at u1 u2 ⊢
        rw [B238_76]
        refine m82 (fun hn => q2 J1 _ u1 (u2.n hE hs hn)) (fun h0 h2 => q2 J1 _ u1 (u2.y hE hE0 hs h0 h2)) (fun best hb b0 b1 b2 b3 => ?_)
        rw [B238_175]
        have hM1 : MW (am_up J1 133 best 1) V := hM.fr (fun a _ _ => by rw [am_up_a _ _ _ _ (by omega)]; exact u1 a (by omega) (by omega)) (fun j _ _ => by rw [am_up_a _ _ _ _ (by decide), u1 99 (by decide) (by decide)])
        have zb := (u2.1 best hb.1 hb.2).2.1
        have e32 : am_up J1 133 best 1 132 = J1 132 := am_up_a _ _ _ _ (by decide)
        refine m178 (o := o) (m := m) (s := g + 200) hM1 hV hb hA hB ho u2.m ?_ ?_ (fun I2 l5 l6 l7 l8 l9 x1 x2 => ?_)
        · rw [e32]; omega
        · rw [e32]
          rcases zb with zb | zb
          · omega
          · exact zb.2.2
        · rw [e32] at x2
          exact ih (I2, l5, l6, l7, l8, l9) ⟨fun a h1 h2 => by dsimp only; rw [x1.1 a h1, am_up_a _ _ _ _ h2]; exact u1 a h1 h2, u2.st hE hs hb b0 b1 b2 b3 x1 x2⟩) (by
        rintro ⟨J1, l5, l6, l7, l8, l9⟩ ⟨u1, u2⟩
        have := u2.m
        omega)
      refine lp 0 (am_up J 132 (g + 200) 0, 401, none, none, none, none) (Nat.zero_le _) ⟨fun a h1 h2 => by dsimp only; rw [am_up_a _ _ _ _ h1]; exact v1 a h1 h2, ?_⟩
      dsimp only
      have e33 : am_up J 132 (g + 200) 0 133 = J 133 := am_up_a _ _ _ _ (by decide)
      refine ⟨fun p p0 p1 => ?_, am_up_s _ _ _ _, by rw [e33]; exact (v2 200 (by omega) (by omega)).2, ?_⟩
      · have vp := v2 p p0 (by omega)
        rw [e33]
        refine ⟨Or.inl vp.2, ?_, fun y => by omega⟩
        by_cases ep : p = g + 200
        · subst ep; rw [am_up_s]; exact Or.inr ⟨by omega, by omega, 0, by omega, rfl, rfl⟩
        · rw [am_up_n _ _ _ _ ep]; exact Or.inl vp.1
      · rw [e33, lvN_e (f := fun _ => 0) (fun p p0 p1 => (v2 p p0 (by omega)).2)]
        have : ∀ n, lvN (fun _ => 0) n = 0 := fun n => by induction n with
          | zero => rfl
          | succ n ih => rw [lvN, ih]; rfl
        rw [this]; rfl
  · have c' : ¬ iabs g ≤ 200 := fun y => c (ib.1 y)
    have z := q1 c
    first | (simp (disch := omega) only [c', GA, GR, GRc, GO, GI, GL, GV, am_w_i, am_ga, am_it, am_if, true_and, and_true, or_true, true_or, ne_eq, not_false_eq_true, not_true_eq_false, false_imp_iff, true_imp_iff, Int.reduceEq, Int.reduceLT, Int.reduceLE, Int.reduceAdd, Int.reduceSub, Int.reduceMul, Int.reduceNeg]; exact z) | simp (disch := omega) only [c', z, GA, GR, GRc, GO, GI, GL, GV, am_w_i, am_ga, am_it, am_if, true_and, and_true, or_true, true_or, ne_eq, not_false_eq_true, not_true_eq_false, false_imp_iff, true_imp_iff, Int.reduceEq, Int.reduceLT, Int.reduceLE, Int.reduceAdd, Int.reduceSub, Int.reduceMul, Int.reduceNeg]
