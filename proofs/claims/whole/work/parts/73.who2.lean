/-! 73: who -/
def px_fw (T : (Nat → Int → Int)) (c : Int → Int) (σ : (Nat → Int → Int)) (t : Int) : Nat → Bool
  | 0 => true
  | n + 1 => px_fw T c σ t n && (decide (c n = 0) || decide (T 0 n ≠ 0) || decide (T 4 n = if σ 1 (2 * T 1 n + t) < T 2 n then 0 else 1))
theorem px_fw_m {T : (Nat → Int → Int)} {c : Int → Int} {σ : (Nat → Int → Int)} {t : Int} {i : Nat} (h : px_fw T c σ t i = false) : ∀ n, i ≤ n → px_fw T c σ t n = false
  | 0, hn => by rw [show i = 0 by omega] at h; exact h
  | n + 1, hn => by
    by_cases e : i = n + 1
    · rw [← e]; exact h
    · rw [px_fw, px_fw_m h n (by omega)]; rfl
theorem px_fw_r {T : (Nat → Int → Int)} {c : Int → Int} {σ : (Nat → Int → Int)} {t : Int} {r : Nat} (h : ∀ j, (r : Int) ≤ j → c j = 0) : ∀ n, r ≤ n → px_fw T c σ t n = px_fw T c σ t r
  | 0, hn => by rw [show r = 0 by omega]
  | n + 1, hn => by
    by_cases e : r = n + 1
    · rw [e]
    · rw [px_fw, px_fw_r h n (by omega), h n (by omega)]; simp
theorem px_sd_z {T : (Nat → Int → Int)} {r : Nat} {j : Int} (h : (r : Int) ≤ j) : ∀ i, px_sd T r i j = 0
  | 0 => by rw [px_sd]; exact if_neg (by omega)
  | i + 1 => by
    rw [px_sd]
    split
    · show (if _ then 0 else px_sd T r i j) = 0
      rw [px_sd_z h i]; split <;> rfl
    · exact px_sd_z h i
theorem s72 {d : Nat} {w : Nat × Nat × Nat × Nat} {I L : Nat → Int → Int} {V T σ : (Nat → Int → Int)} {m : Nat} {kb t D : Int} {c : Int → Int} (hT : GDc T m kb I) (hw : WT V T m kb) (hV : WV V) (rS : RS I 51 σ) (wS : WS D σ) (ht : 0 ≤ t ∧ t < 2) (hc : ∀ j, 0 ≤ j → j < 24 → I 98 j = c j) (Q : Option am_V → am_H → Prop) : am_Sp (d + 1) 72 [vR (some 92), vR (some 51), vI t] (mkH w I L) Q ↔ Q (some (vI (if px_fw T c σ t m = true then 1 else 0))) (mkH w I L) := by
  have hm := hT.1
  have h24 := hw.1
  have h6 := hV.1.1
  refine am_det ?_ Q
  rw [S72]
  refine am_loop (α := Unit) m (fun i _ => am_WP (d + 1) 72 2 [some (vR (some 92)), some (vR (some 51)), some (vI t), some (vI (i : Int))] [] (mkH w I L) _) (fun i _ => px_fw T c σ t i = true) ?_ ?_ 0 () (Nat.zero_le _) rfl
  · intro i _ hi inv ih
    have tt := hT.2.2 i (by omega) (by omega)
    have wt := hw.2.2 i (by omega) (by omega)
    have e0 := hc i (by omega) (by omega)
    rw [B72_2]
    by_cases c0 : c i = 0
    · have z := ih () (by rw [px_fw, inv, c0]; rfl)
      first | (simp (disch := omega) only [KT, hm, e0, c0, B72_49, GA, GR, GRc, GO, GI, GL, GV, am_w_i, am_ga, am_it, am_if, true_and, and_true, or_true, true_or, ne_eq, not_false_eq_true, not_true_eq_false, false_imp_iff, true_imp_iff, Int.reduceEq, Int.reduceLT, Int.reduceLE, Int.reduceAdd, Int.reduceSub, Int.reduceMul, Int.reduceNeg]; exact z) | simp (disch := omega) only [KT, hm, e0, c0, B72_49, z, GA, GR, GRc, GO, GI, GL, GV, am_w_i, am_ga, am_it, am_if, true_and, and_true, or_true, true_or, ne_eq, not_false_eq_true, not_true_eq_false, false_imp_iff, true_imp_iff, Int.reduceEq, Int.reduceLT, Int.reduceLE, Int.reduceAdd, Int.reduceSub, Int.reduceMul, Int.reduceNeg]
    · by_cases c1 : T 0 i = 0
      · have w1 := wt.2.1 (by omega)
        have ea : I (51 + 1) (2 * T 1 i + t) = σ 1 (2 * T 1 i + t) := rS.1 _ (by omega) (by omega)
        have t0 : I 93 i = 0 := tt.1.trans c1
        have s71 : ∀ (d : Nat) (x : Int) (Q : Option am_V → am_H → Prop), am_Sp d 71 [vR (some 92), vI (i : Int), vI x] (mkH w I L) Q ↔ Q (some (vI (if T 4 i = if x < T 2 i then 0 else 1 then 1 else 0))) (mkH w I L) := by
          intro d x Q
          rw [S71]
          by_cases k : x < T 2 i
          · by_cases k2 : T 4 i = 0
            · simp (disch := omega) only [KT, tt.2.2.2.2, tt.2.2.1, k, k2, if_true, B71_21, B71_29, GA, GR, GRc, GO, GI, GL, GV, am_w_i, am_ga, am_it, am_if, true_and, and_true, or_true, true_or, ne_eq, not_false_eq_true, not_true_eq_false, false_imp_iff, true_imp_iff, Int.reduceEq, Int.reduceLT, Int.reduceLE, Int.reduceAdd, Int.reduceSub, Int.reduceMul, Int.reduceNeg]
            · simp (disch := omega) only [KT, tt.2.2.2.2, tt.2.2.1, k, k2, if_true, if_false, B71_21, B71_29, GA, GR, GRc, GO, GI, GL, GV, am_w_i, am_ga, am_it, am_if, true_and, and_true, or_true, true_or, ne_eq, not_false_eq_true, not_true_eq_false, false_imp_iff, true_imp_iff, Int.reduceEq, Int.reduceLT, Int.reduceLE, Int.reduceAdd, Int.reduceSub, Int.reduceMul, Int.reduceNeg]
          · by_cases k2 : T 4 i = 1
            · simp (disch := omega) only [KT, tt.2.2.2.2, tt.2.2.1, k, k2, if_true, if_false, B71_21, B71_29, GA, GR, GRc, GO, GI, GL, GV, am_w_i, am_ga, am_it, am_if, true_and, and_true, or_true, true_or, ne_eq, not_false_eq_true, not_true_eq_false, false_imp_iff, true_imp_iff, Int.reduceEq, Int.reduceLT, Int.reduceLE, Int.reduceAdd, Int.reduceSub, Int.reduceMul, Int.reduceNeg]
            · simp (disch := omega) only [KT, tt.2.2.2.2, tt.2.2.1, k, k2, if_true, if_false, B71_21, B71_29, GA, GR, GRc, GO, GI, GL, GV, am_w_i, am_ga, am_it, am_if, true_and, and_true, or_true, true_or, ne_eq, not_false_eq_true, not_true_eq_false, false_imp_iff, true_imp_iff, Int.reduceEq, Int.reduceLT, Int.reduceLE, Int.reduceAdd, Int.reduceSub, Int.reduceMul, Int.reduceNeg]
        by_cases k : T 4 i = if σ 1 (2 * T 1 i + t) < T 2 i then 0 else 1
        · have z := ih () (by rw [px_fw, inv, decide_eq_true k]; simp)
          first | (simp (disch := omega) only [KT, hm, e0, c0, t0, tt.2.1, HS is51, s59 (s := 51) (Or.inl rfl) (k := T 1 i) (t := t) (by omega) ht, ea, s71, k, if_true, B72_49, GA, GR, GRc, GO, GI, GL, GV, am_w_i, am_ga, am_it, am_if, true_and, and_true, or_true, true_or, ne_eq, not_false_eq_true, not_true_eq_false, false_imp_iff, true_imp_iff, Int.reduceEq, Int.reduceLT, Int.reduceLE, Int.reduceAdd, Int.reduceSub, Int.reduceMul, Int.reduceNeg]; exact z) | simp (disch := omega) only [KT, hm, e0, c0, t0, tt.2.1, HS is51, s59 (s := 51) (Or.inl rfl) (k := T 1 i) (t := t) (by omega) ht, ea, s71, k, if_true, B72_49, z, GA, GR, GRc, GO, GI, GL, GV, am_w_i, am_ga, am_it, am_if, true_and, and_true, or_true, true_or, ne_eq, not_false_eq_true, not_true_eq_false, false_imp_iff, true_imp_iff, Int.reduceEq, Int.reduceLT, Int.reduceLE, Int.reduceAdd, Int.reduceSub, Int.reduceMul, Int.reduceNeg]
        · have f : px_fw T c σ t m = false := px_fw_m (i := i + 1) (by rw [px_fw, inv, decide_eq_false k, decide_eq_false c0, c1]; rfl) m (by omega)
          have z : (if px_fw T c σ t m = true then (1 : Int) else 0) = 0 := by rw [f]; rfl
          simp (disch := omega) only [KT, hm, e0, c0, t0, tt.2.1, HS is51, s59 (s := 51) (Or.inl rfl) (k := T 1 i) (t := t) (by omega) ht, ea, s71, k, if_false, z, GA, GR, GRc, GO, GI, GL, GV, am_w_i, am_ga, am_it, am_if, true_and, and_true, or_true, true_or, ne_eq, not_false_eq_true, not_true_eq_false, false_imp_iff, true_imp_iff, Int.reduceEq, Int.reduceLT, Int.reduceLE, Int.reduceAdd, Int.reduceSub, Int.reduceMul, Int.reduceNeg]
      · have z := ih () (by rw [px_fw, inv, decide_eq_true (p := T 0 i ≠ 0) c1]; simp)
        first | (simp (disch := omega) only [KT, hm, e0, c0, tt.1, c1, B72_49, GA, GR, GRc, GO, GI, GL, GV, am_w_i, am_ga, am_it, am_if, true_and, and_true, or_true, true_or, ne_eq, not_false_eq_true, not_true_eq_false, false_imp_iff, true_imp_iff, Int.reduceEq, Int.reduceLT, Int.reduceLE, Int.reduceAdd, Int.reduceSub, Int.reduceMul, Int.reduceNeg]; exact z) | simp (disch := omega) only [KT, hm, e0, c0, tt.1, c1, B72_49, z, GA, GR, GRc, GO, GI, GL, GV, am_w_i, am_ga, am_it, am_if, true_and, and_true, or_true, true_or, ne_eq, not_false_eq_true, not_true_eq_false, false_imp_iff, true_imp_iff, Int.reduceEq, Int.reduceLT, Int.reduceLE, Int.reduceAdd, Int.reduceSub, Int.reduceMul, Int.reduceNeg]
  · intro _ inv
    have z : (if px_fw T c σ t m = true then (1 : Int) else 0) = 1 := by rw [inv]; rfl
    rw [B72_2]
    simp (disch := omega) only [KT, hm, z, GA, GR, GRc, GO, GI, GL, GV, am_w_i, am_ga, am_it, am_if, true_and, and_true, or_true, true_or, ne_eq, not_false_eq_true, not_true_eq_false, false_imp_iff, true_imp_iff, Int.reduceEq, Int.reduceLT, Int.reduceLE, Int.reduceAdd, Int.reduceSub, Int.reduceMul, Int.reduceNeg]
theorem in267 {d : Nat} {w : Nat × Nat × Nat × Nat} {I L : Nat → Int → Int} {V T σ : (Nat → Int → Int)} {m : Nat} {kb t D l1 : Int} {c : Int → Int} (hT : GDm T m kb I) (hw : WT V T m kb) (hV : WV V) (mS : MS I L 0 σ) (wS : WS D σ) (ht : 0 ≤ t ∧ t < 2) (hc : ∀ j, 0 ≤ j → j < (px_rc m kb : Int) → I 135 j = c j) (l5 l6 : Option am_V) {Q : Option am_V → am_H → Prop} (fin : ∀ l5 l6, am_WP (d + 1) 267 149 [some (vR (some 99)), some (vI l1), some (vI t), some (vI (if px_fw T c σ t (px_rc m kb) = true then 1 else 0)), some (vI (px_rc m kb)), l5, l6] [vI (if px_fw T c σ t (px_rc m kb) = true then am_shl 1 t else 0), vI l1] (mkH w I L) Q) : am_WP (d + 1) 267 23 [some (vR (some 99)), some (vI l1), some (vI t), some (vI 1), some (vI 0), l5, l6] [] (mkH w I L) Q := by
  have hr := px_rc_b hw
  have h6 := hV.1.1
  have s65 := fun (d : Nat) (Q : Option am_V → am_H → Prop) => s265 (d := d) (w := w) (L := L) hT hw (Q := Q)
  generalize px_rc m kb = r at *
  have lp := am_loop (α := Option am_V × Option am_V) r (fun i x => am_WP (d + 1) 267 23 [some (vR (some 99)), some (vI l1), some (vI t), some (vI (if px_fw T c σ t i = true then 1 else 0)), some (vI (i : Int)), x.1, x.2] [] (mkH w I L) Q) (fun i _ => True) ?_ ?_ 0 (l5, l6) (Nat.zero_le _) trivial
  · exact lp
  · intro i ⟨l5, l6⟩ hi _ ih
    dsimp only
    have tt := hT.2.2 i (by omega) (by omega)
    have wt := hw.2.2 i (by omega) (by omega)
    have e0 := hc i (by omega) (by omega)
    have nx := fun l5 l6 => ih (l5, l6) trivial
    dsimp only at nx
    rw [B267_23]
    by_cases c0 : c i = 0
    · rw [show px_fw T c σ t (i + 1) = px_fw T c σ t i by rw [px_fw, c0]; simp] at nx
      have z := nx (some (vI (5 * (i : Int)))) l6
      first | (simp (disch := omega) only [Kk, Kn, s65, e0, c0, B267_131, GA, GR, GRc, GO, GI, GL, GV, am_w_i, am_ga, am_it, am_if, true_and, and_true, or_true, true_or, ne_eq, not_false_eq_true, not_true_eq_false, false_imp_iff, true_imp_iff, Int.reduceEq, Int.reduceLT, Int.reduceLE, Int.reduceAdd, Int.reduceSub, Int.reduceMul, Int.reduceNeg]; exact z) | simp (disch := omega) only [Kk, Kn, s65, e0, c0, B267_131, z, GA, GR, GRc, GO, GI, GL, GV, am_w_i, am_ga, am_it, am_if, true_and, and_true, or_true, true_or, ne_eq, not_false_eq_true, not_true_eq_false, false_imp_iff, true_imp_iff, Int.reduceEq, Int.reduceLT, Int.reduceLE, Int.reduceAdd, Int.reduceSub, Int.reduceMul, Int.reduceNeg]
    · by_cases c1 : T 0 i = 0
      · have w1 := wt.2.1 (by omega)
        have t2 := tt.2.1 (by omega)
        have t0 : I 134 (5 * (i : Int)) = 0 := tt.1.trans c1
        have ea : I 127 (2 * T 1 i + t) = σ 1 (2 * T 1 i + t) := mS.a0 (by omega) (by omega)
        have en : ∀ s0, s0 = (if σ 1 (2 * T 1 i + t) < T 2 i then (0 : Int) else 1) → am_WP (d + 1) 267 96 [some (vR (some 99)), some (vI l1), some (vI t), some (vI (if px_fw T c σ t i = true then 1 else 0)), some (vI (i : Int)), some (vI (5 * (i : Int))), l6] [vI s0] (mkH w I L) Q := by
          intro s0 hs
          have nz := nx (some (vI (5 * (i : Int)))) (some (vI s0))
          rw [B267_96]
          cases hf : px_fw T c σ t i with
          | false =>
            rw [show px_fw T c σ t (i + 1) = false by rw [px_fw, hf]; rfl] at nz
            have z := nz
            simp only [Bool.false_eq_true, if_false] at z ⊢
            first | (simp (disch := omega) only [B267_129, B267_130, B267_131, GA, GR, GRc, GO, GI, GL, GV, am_w_i, am_ga, am_it, am_if, true_and, and_true, or_true, true_or, ne_eq, not_false_eq_true, not_true_eq_false, false_imp_iff, true_imp_iff, Int.reduceEq, Int.reduceLT, Int.reduceLE, Int.reduceAdd, Int.reduceSub, Int.reduceMul, Int.reduceNeg]; exact z) | simp (disch := omega) only [B267_129, B267_130, B267_131, z, GA, GR, GRc, GO, GI, GL, GV, am_w_i, am_ga, am_it, am_if, true_and, and_true, or_true, true_or, ne_eq, not_false_eq_true, not_true_eq_false, false_imp_iff, true_imp_iff, Int.reduceEq, Int.reduceLT, Int.reduceLE, Int.reduceAdd, Int.reduceSub, Int.reduceMul, Int.reduceNeg]
          | true =>
            simp only [if_true]
            by_cases k : T 4 i = s0
            · rw [show px_fw T c σ t (i + 1) = true by rw [px_fw, hf, ← hs, decide_eq_true k]; simp] at nz
              have z := nz
              simp only [if_true] at z
              have s01 : s0 = 0 ∨ s0 = 1 := by rw [← k]; exact wt.2.2.2.1
              rcases s01 with e | e
              · have k2 : T 4 i = 0 := k.trans e
                subst e
                first | (simp (disch := omega) only [Kk, Kn, t2.2.2, k2, B267_122, B267_130, B267_131, GA, GR, GRc, GO, GI, GL, GV, am_w_i, am_ga, am_it, am_if, true_and, and_true, or_true, true_or, ne_eq, not_false_eq_true, not_true_eq_false, false_imp_iff, true_imp_iff, Int.reduceEq, Int.reduceLT, Int.reduceLE, Int.reduceAdd, Int.reduceSub, Int.reduceMul, Int.reduceNeg]; exact z) | simp (disch := omega) only [Kk, Kn, t2.2.2, k2, B267_122, B267_130, B267_131, z, GA, GR, GRc, GO, GI, GL, GV, am_w_i, am_ga, am_it, am_if, true_and, and_true, or_true, true_or, ne_eq, not_false_eq_true, not_true_eq_false, false_imp_iff, true_imp_iff, Int.reduceEq, Int.reduceLT, Int.reduceLE, Int.reduceAdd, Int.reduceSub, Int.reduceMul, Int.reduceNeg]
              · have k2 : T 4 i = 1 := k.trans e
                subst e
                first | (simp (disch := omega) only [Kk, Kn, t2.2.2, k2, B267_122, B267_130, B267_131, GA, GR, GRc, GO, GI, GL, GV, am_w_i, am_ga, am_it, am_if, true_and, and_true, or_true, true_or, ne_eq, not_false_eq_true, not_true_eq_false, false_imp_iff, true_imp_iff, Int.reduceEq, Int.reduceLT, Int.reduceLE, Int.reduceAdd, Int.reduceSub, Int.reduceMul, Int.reduceNeg]; exact z) | simp (disch := omega) only [Kk, Kn, t2.2.2, k2, B267_122, B267_130, B267_131, z, GA, GR, GRc, GO, GI, GL, GV, am_w_i, am_ga, am_it, am_if, true_and, and_true, or_true, true_or, ne_eq, not_false_eq_true, not_true_eq_false, false_imp_iff, true_imp_iff, Int.reduceEq, Int.reduceLT, Int.reduceLE, Int.reduceAdd, Int.reduceSub, Int.reduceMul, Int.reduceNeg]
            · rw [show px_fw T c σ t (i + 1) = false by rw [px_fw, hf, ← hs, decide_eq_false k, decide_eq_false c0, c1]; rfl] at nz
              have z := nz
              simp only [Bool.false_eq_true, if_false] at z
              have s01 : s0 = 0 ∨ s0 = 1 := by rw [hs]; split <;> simp
              rcases wt.2.2.2.1 with e | e <;> rcases s01 with e2 | e2
              · exact absurd (e.trans e2.symm) k
              · subst e2
                first | (simp (disch := omega) only [Kk, Kn, t2.2.2, e, B267_122, B267_129, B267_130, B267_131, GA, GR, GRc, GO, GI, GL, GV, am_w_i, am_ga, am_it, am_if, true_and, and_true, or_true, true_or, ne_eq, not_false_eq_true, not_true_eq_false, false_imp_iff, true_imp_iff, Int.reduceEq, Int.reduceLT, Int.reduceLE, Int.reduceAdd, Int.reduceSub, Int.reduceMul, Int.reduceNeg]; exact z) | simp (disch := omega) only [Kk, Kn, t2.2.2, e, B267_122, B267_129, B267_130, B267_131, z, GA, GR, GRc, GO, GI, GL, GV, am_w_i, am_ga, am_it, am_if, true_and, and_true, or_true, true_or, ne_eq, not_false_eq_true, not_true_eq_false, false_imp_iff, true_imp_iff, Int.reduceEq, Int.reduceLT, Int.reduceLE, Int.reduceAdd, Int.reduceSub, Int.reduceMul, Int.reduceNeg]
              · subst e2
                first | (simp (disch := omega) only [Kk, Kn, t2.2.2, e, B267_122, B267_129, B267_130, B267_131, GA, GR, GRc, GO, GI, GL, GV, am_w_i, am_ga, am_it, am_if, true_and, and_true, or_true, true_or, ne_eq, not_false_eq_true, not_true_eq_false, false_imp_iff, true_imp_iff, Int.reduceEq, Int.reduceLT, Int.reduceLE, Int.reduceAdd, Int.reduceSub, Int.reduceMul, Int.reduceNeg]; exact z) | simp (disch := omega) only [Kk, Kn, t2.2.2, e, B267_122, B267_129, B267_130, B267_131, z, GA, GR, GRc, GO, GI, GL, GV, am_w_i, am_ga, am_it, am_if, true_and, and_true, or_true, true_or, ne_eq, not_false_eq_true, not_true_eq_false, false_imp_iff, true_imp_iff, Int.reduceEq, Int.reduceLT, Int.reduceLE, Int.reduceAdd, Int.reduceSub, Int.reduceMul, Int.reduceNeg]
              · exact absurd (e.trans e2.symm) k
        by_cases k : σ 1 (2 * T 1 i + t) < T 2 i
        · have z := en 0 (by rw [if_pos k])
          first | (simp (disch := omega) only [Kk, Kn, Ks, s65, e0, c0, t0, t2.1, t2.2.1, ea, k, GA, GR, GRc, GO, GI, GL, GV, am_w_i, am_ga, am_it, am_if, true_and, and_true, or_true, true_or, ne_eq, not_false_eq_true, not_true_eq_false, false_imp_iff, true_imp_iff, Int.reduceEq, Int.reduceLT, Int.reduceLE, Int.reduceAdd, Int.reduceSub, Int.reduceMul, Int.reduceNeg]; exact z) | simp (disch := omega) only [Kk, Kn, Ks, s65, e0, c0, t0, t2.1, t2.2.1, ea, k, z, GA, GR, GRc, GO, GI, GL, GV, am_w_i, am_ga, am_it, am_if, true_and, and_true, or_true, true_or, ne_eq, not_false_eq_true, not_true_eq_false, false_imp_iff, true_imp_iff, Int.reduceEq, Int.reduceLT, Int.reduceLE, Int.reduceAdd, Int.reduceSub, Int.reduceMul, Int.reduceNeg]
        · have z := en 1 (by rw [if_neg k])
          first | (simp (disch := omega) only [Kk, Kn, Ks, s65, e0, c0, t0, t2.1, t2.2.1, ea, k, GA, GR, GRc, GO, GI, GL, GV, am_w_i, am_ga, am_it, am_if, true_and, and_true, or_true, true_or, ne_eq, not_false_eq_true, not_true_eq_false, false_imp_iff, true_imp_iff, Int.reduceEq, Int.reduceLT, Int.reduceLE, Int.reduceAdd, Int.reduceSub, Int.reduceMul, Int.reduceNeg]; exact z) | simp (disch := omega) only [Kk, Kn, Ks, s65, e0, c0, t0, t2.1, t2.2.1, ea, k, z, GA, GR, GRc, GO, GI, GL, GV, am_w_i, am_ga, am_it, am_if, true_and, and_true, or_true, true_or, ne_eq, not_false_eq_true, not_true_eq_false, false_imp_iff, true_imp_iff, Int.reduceEq, Int.reduceLT, Int.reduceLE, Int.reduceAdd, Int.reduceSub, Int.reduceMul, Int.reduceNeg]
      · rw [show px_fw T c σ t (i + 1) = px_fw T c σ t i by rw [px_fw, decide_eq_true (p := T 0 i ≠ 0) c1]; simp] at nx
        have z := nx (some (vI (5 * (i : Int)))) l6
        first | (simp (disch := omega) only [Kk, Kn, s65, e0, c0, tt.1, c1, B267_131, GA, GR, GRc, GO, GI, GL, GV, am_w_i, am_ga, am_it, am_if, true_and, and_true, or_true, true_or, ne_eq, not_false_eq_true, not_true_eq_false, false_imp_iff, true_imp_iff, Int.reduceEq, Int.reduceLT, Int.reduceLE, Int.reduceAdd, Int.reduceSub, Int.reduceMul, Int.reduceNeg]; exact z) | simp (disch := omega) only [Kk, Kn, s65, e0, c0, tt.1, c1, B267_131, z, GA, GR, GRc, GO, GI, GL, GV, am_w_i, am_ga, am_it, am_if, true_and, and_true, or_true, true_or, ne_eq, not_false_eq_true, not_true_eq_false, false_imp_iff, true_imp_iff, Int.reduceEq, Int.reduceLT, Int.reduceLE, Int.reduceAdd, Int.reduceSub, Int.reduceMul, Int.reduceNeg]
  · intro ⟨l5, l6⟩ _
    dsimp only
    have z := fin l5 l6
    rw [B267_23]
    cases hf : px_fw T c σ t r with
    | false =>
      rw [hf] at z
      simp only [Bool.false_eq_true, if_false] at z ⊢
      first | (simp (disch := omega) only [Kk, s65, GA, GR, GRc, GO, GI, GL, GV, am_w_i, am_ga, am_it, am_if, true_and, and_true, or_true, true_or, ne_eq, not_false_eq_true, not_true_eq_false, false_imp_iff, true_imp_iff, Int.reduceEq, Int.reduceLT, Int.reduceLE, Int.reduceAdd, Int.reduceSub, Int.reduceMul, Int.reduceNeg]; exact z) | simp (disch := omega) only [Kk, s65, z, GA, GR, GRc, GO, GI, GL, GV, am_w_i, am_ga, am_it, am_if, true_and, and_true, or_true, true_or, ne_eq, not_false_eq_true, not_true_eq_false, false_imp_iff, true_imp_iff, Int.reduceEq, Int.reduceLT, Int.reduceLE, Int.reduceAdd, Int.reduceSub, Int.reduceMul, Int.reduceNeg]
    | true =>
      rw [hf] at z
      simp only [if_true] at z ⊢
      first | (simp (disch := omega) only [Kk, s65, GA, GR, GRc, GO, GI, GL, GV, am_w_i, am_ga, am_it, am_if, true_and, and_true, or_true, true_or, ne_eq, not_false_eq_true, not_true_eq_false, false_imp_iff, true_imp_iff, Int.reduceEq, Int.reduceLT, Int.reduceLE, Int.reduceAdd, Int.reduceSub, Int.reduceMul, Int.reduceNeg]; exact z) | simp (disch := omega) only [Kk, s65, z, GA, GR, GRc, GO, GI, GL, GV, am_w_i, am_ga, am_it, am_if, true_and, and_true, or_true, true_or, ne_eq, not_false_eq_true, not_true_eq_false, false_imp_iff, true_imp_iff, Int.reduceEq, Int.reduceLT, Int.reduceLE, Int.reduceAdd, Int.reduceSub, Int.reduceMul, Int.reduceNeg]
