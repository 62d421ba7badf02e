/-! 74: who -/
set_option maxHeartbeats 1000000 in
theorem p_who : PM 141 267 [] := by
  intro d w I L hG
  obtain ⟨V, lw, σ, n, f, g, G⟩ := hG
  obtain ⟨⟨hw, hR, hL, hV, hM, hN⟩, rS, mS, wS, ny, ct⟩ := G.1
  obtain ⟨T, m, kb, t1, t2, t3⟩ := G.2.2.2.2.2.2.2.1
  have hr := px_rc_b t3
  rw [S141]
  simp (disch := omega) only [KX, KT, GA, GR, GRc, GO, GI, GL, GV, am_w_i, am_ga, am_it, am_if, true_and, and_true, or_true, true_or, ne_eq, not_false_eq_true, not_true_eq_false, false_imp_iff, true_imp_iff, Int.reduceEq, Int.reduceLT, Int.reduceLE, Int.reduceAdd, Int.reduceSub, Int.reduceMul, Int.reduceNeg]
  refine s70 t1 t3 (fun I1 a1 a2 => ?_)
  have t1' : GDc T m kb I1 := t1.fr (fun a _ _ => a2 a (by omega))
  have rS1 : RS I1 51 σ := rS.fr (fun a _ _ => a2 a (by omega))
  have ref : am_Sp (d + 20) 267 [vR (some 99)] (mkH w I1 L) (fun r' h2 => r' = some (vI (am_or (am_or 0 (if px_fw T (px_sd T (px_rc m kb) (px_rc m kb)) σ 0 (px_rc m kb) = true then am_shl 1 0 else 0)) (if px_fw T (px_sd T (px_rc m kb) (px_rc m kb)) σ 1 (px_rc m kb) = true then am_shl 1 1 else 0))) ∧ ∃ I2, h2 = mkH w I2 L ∧ GG w I2 L) := by
    have t2' : GDm T m kb (am_up I1 99 2 0) := t2.fr (by rw [am_up_n _ _ _ _ (by decide), a2 99 (by decide)]) (by rw [am_up_n _ _ _ _ (by decide), a2 99 (by decide)]) (by rw [am_up_a _ _ _ _ (by decide), a2 134 (by decide)])
    rw [S267]
    simp (disch := omega) only [Kk, B267_5, GA, GR, GRc, GO, GI, GL, GV, am_w_i, am_ga, am_it, am_if, true_and, and_true, or_true, true_or, ne_eq, not_false_eq_true, not_true_eq_false, false_imp_iff, true_imp_iff, Int.reduceEq, Int.reduceLT, Int.reduceLE, Int.reduceAdd, Int.reduceSub, Int.reduceMul, Int.reduceNeg]
    refine s266 t2' t3 (fun I2 b1 b2 => ?_)
    have t2i : GDm T m kb I2 := t2'.fr (by rw [b2 99 (by decide)]) (by rw [b2 99 (by decide)]) (b2 134 (by decide))
    have m2 : MS I2 L 0 σ := mS.k (fun a _ _ => by rw [b2 a (by omega), am_up_a _ _ _ _ (by omega), a2 a (by omega)])
    have gg : GG w I2 L := by
      refine ⟨V, lw, σ, n, f, g, G.q (w' := w) (L' := L) ⟨⟨rfl, rfl, rfl⟩, ⟨fun a x y => ?_, fun j x y z => ?_, ?_⟩, fun _ _ _ _ _ _ _ _ => rfl, rfl, rfl⟩⟩
      · rw [b2 a (by omega), am_up_a _ _ _ _ x, a2 a (by omega)]
      · rw [b2 99 (by decide), am_up_n _ _ _ _ x, a2 99 (by decide)]
      · have k : ∀ a, 127 ≤ a → a ≤ 131 → I2 a = I a := fun a _ _ => by rw [b2 a (by omega), am_up_a _ _ _ _ (by omega), a2 a (by omega)]
        exact ⟨fun _ _ _ => by rw [k 127 (by decide) (by decide)], fun _ _ _ => by rw [k 128 (by decide) (by decide)], fun _ _ _ => by rw [k 129 (by decide) (by decide)], by rw [k 130 (by decide) (by decide)], by rw [k 131 (by decide) (by decide)]⟩
    simp (disch := omega) only [B267_13, GA, GR, GRc, GO, GI, GL, GV, am_w_i, am_ga, am_it, am_if, true_and, and_true, or_true, true_or, ne_eq, not_false_eq_true, not_true_eq_false, false_imp_iff, true_imp_iff, Int.reduceEq, Int.reduceLT, Int.reduceLE, Int.reduceAdd, Int.reduceSub, Int.reduceMul, Int.reduceNeg]
    refine in267 (t := 0) t2i t3 hV m2 wS (by omega) b1 none none (fun l5 l6 => ?_)
    rw [B267_149]
    simp (disch := omega) only [B267_13, GA, GR, GRc, GO, GI, GL, GV, am_w_i, am_ga, am_it, am_if, true_and, and_true, or_true, true_or, ne_eq, not_false_eq_true, not_true_eq_false, false_imp_iff, true_imp_iff, Int.reduceEq, Int.reduceLT, Int.reduceLE, Int.reduceAdd, Int.reduceSub, Int.reduceMul, Int.reduceNeg]
    refine in267 (t := 1) t2i t3 hV m2 wS (by omega) b1 l5 l6 (fun l5 l6 => ?_)
    rw [B267_149]
    simp (disch := omega) only [B267_13, GA, GR, GRc, GO, GI, GL, GV, am_w_i, am_ga, am_it, am_if, true_and, and_true, or_true, true_or, ne_eq, not_false_eq_true, not_true_eq_false, false_imp_iff, true_imp_iff, Int.reduceEq, Int.reduceLT, Int.reduceLE, Int.reduceAdd, Int.reduceSub, Int.reduceMul, Int.reduceNeg]
    exact ⟨I2, rfl, gg⟩
  have q0 := px_fw_r (T := T) (σ := σ) (t := 0) (fun j hj => px_sd_z (T := T) (r := px_rc m kb) hj (px_rc m kb)) m hr.1
  have q1 := px_fw_r (T := T) (σ := σ) (t := 1) (fun j hj => px_sd_z (T := T) (r := px_rc m kb) hj (px_rc m kb)) m hr.1
  rw [← q0, ← q1] at ref
  have u0 := fun (d : Nat) (Q : Option am_V → am_H → Prop) => s72 (d := d) (w := w) (L := L) (t := 0) t1' t3 hV rS1 wS (by omega) a1 (Q := Q)
  have u1 := fun (d : Nat) (Q : Option am_V → am_H → Prop) => s72 (d := d) (w := w) (L := L) (t := 1) t1' t3 hV rS1 wS (by omega) a1 (Q := Q)
  generalize px_fw T (px_sd T (px_rc m kb) (px_rc m kb)) σ 0 m = f0 at *
  generalize px_fw T (px_sd T (px_rc m kb) (px_rc m kb)) σ 1 m = f1 at *
  have last : ∀ v : Int, v = am_or (am_or 0 (if f0 = true then am_shl 1 0 else 0)) (if f1 = true then am_shl 1 1 else 0) → am_Sp (d + 20) 267 [vR (some 99)] (mkH w I1 L) (fun r' h2 => r' = some (vI v) ∧ some (vI v) ≠ none ∧ ∃ w2 I2 L2, h2 = mkH w2 I2 L2 ∧ GG w2 I2 L2) := by
    intro v hv
    refine am_Sp_mono ref (fun r h hh => ?_)
    obtain ⟨h1, I2, h2, h3⟩ := hh
    exact ⟨by rw [h1, hv], by simp, w, I2, L, h2, h3⟩
  cases f0 <;> cases f1
  · have z := last 0 (by decide)
    simp only [Bool.false_eq_true, if_false] at u0 u1
    first | (simp (disch := omega) only [KX, KT, u0, u1, B141_27, B141_47, GA, GR, GRc, GO, GI, GL, GV, am_w_i, am_ga, am_it, am_if, true_and, and_true, or_true, true_or, ne_eq, not_false_eq_true, not_true_eq_false, false_imp_iff, true_imp_iff, Int.reduceEq, Int.reduceLT, Int.reduceLE, Int.reduceAdd, Int.reduceSub, Int.reduceMul, Int.reduceNeg]; exact z) | simp (disch := omega) only [KX, KT, u0, u1, B141_27, B141_47, z, GA, GR, GRc, GO, GI, GL, GV, am_w_i, am_ga, am_it, am_if, true_and, and_true, or_true, true_or, ne_eq, not_false_eq_true, not_true_eq_false, false_imp_iff, true_imp_iff, Int.reduceEq, Int.reduceLT, Int.reduceLE, Int.reduceAdd, Int.reduceSub, Int.reduceMul, Int.reduceNeg]
  · have z := last 2 (by decide)
    simp only [Bool.false_eq_true, if_false, if_true] at u0 u1
    first | (simp (disch := omega) only [KX, KT, u0, u1, B141_27, B141_47, GA, GR, GRc, GO, GI, GL, GV, am_w_i, am_ga, am_it, am_if, true_and, and_true, or_true, true_or, ne_eq, not_false_eq_true, not_true_eq_false, false_imp_iff, true_imp_iff, Int.reduceEq, Int.reduceLT, Int.reduceLE, Int.reduceAdd, Int.reduceSub, Int.reduceMul, Int.reduceNeg]; exact z) | simp (disch := omega) only [KX, KT, u0, u1, B141_27, B141_47, z, GA, GR, GRc, GO, GI, GL, GV, am_w_i, am_ga, am_it, am_if, true_and, and_true, or_true, true_or, ne_eq, not_false_eq_true, not_true_eq_false, false_imp_iff, true_imp_iff, Int.reduceEq, Int.reduceLT, Int.reduceLE, Int.reduceAdd, Int.reduceSub, Int.reduceMul, Int.reduceNeg]
  · have z := last 1 (by decide)
    simp only [Bool.false_eq_true, if_false, if_true] at u0 u1
    first | (simp (disch := omega) only [KX, KT, u0, u1, B141_27, B141_47, GA, GR, GRc, GO, GI, GL, GV, am_w_i, am_ga, am_it, am_if, true_and, and_true, or_true, true_or, ne_eq, not_false_eq_true, not_true_eq_false, false_imp_iff, true_imp_iff, Int.reduceEq, Int.reduceLT, Int.reduceLE, Int.reduceAdd, Int.reduceSub, Int.reduceMul, Int.reduceNeg]; exact z) | simp (disch := omega) only [KX, KT, u0, u1, B141_27, B141_47, z, GA, GR, GRc, GO, GI, GL, GV, am_w_i, am_ga, am_it, am_if, true_and, and_true, or_true, true_or, ne_eq, not_false_eq_true, not_true_eq_false, false_imp_iff, true_imp_iff, Int.reduceEq, Int.reduceLT, Int.reduceLE, Int.reduceAdd, Int.reduceSub, Int.reduceMul, Int.reduceNeg]
  · have z := last 3 (by decide)
    simp only [if_true] at u0 u1
    first | (simp (disch := omega) only [KX, KT, u0, u1, B141_27, B141_47, GA, GR, GRc, GO, GI, GL, GV, am_w_i, am_ga, am_it, am_if, true_and, and_true, or_true, true_or, ne_eq, not_false_eq_true, not_true_eq_false, false_imp_iff, true_imp_iff, Int.reduceEq, Int.reduceLT, Int.reduceLE, Int.reduceAdd, Int.reduceSub, Int.reduceMul, Int.reduceNeg]; exact z) | simp (disch := omega) only [KX, KT, u0, u1, B141_27, B141_47, z, GA, GR, GRc, GO, GI, GL, GV, am_w_i, am_ga, am_it, am_if, true_and, and_true, or_true, true_or, ne_eq, not_false_eq_true, not_true_eq_false, false_imp_iff, true_imp_iff, Int.reduceEq, Int.reduceLT, Int.reduceLE, Int.reduceAdd, Int.reduceSub, Int.reduceMul, Int.reduceNeg]
