/-! 82: healings -/
theorem px_ha_e {V : (Nat → Int → Int)} {lw : (Int → (Int → Int) → Int)} {k : Int} {T : (Nat → Int → Int)} {m r last : Nat} (hr : r ≤ m) (h60 : last ≤ 60) (hl : px_ld T (px_sd T r r) m = last) : ∀ n, px_ha V lw k T (px_sd T r r) m last n = px_ha V lw k T (px_sd T r r) r 60 n
  | 0 => rfl
  | n + 1 => by rw [px_ha, px_ha, px_ha_e hr h60 hl n, ← px_sa_mr hr 60, px_sa_l hl 60 h60]
set_option maxHeartbeats 1000000 in
theorem p_healings {k : Int} : PM 142 270 [vI k] := by
  intro d w I L hG
  have no := fun r => PM.no (d := d) (j1 := 142) (j2 := 270) (as := [vI k]) r hG
  obtain ⟨V, lw, σ, n, f, g, G⟩ := hG
  obtain ⟨⟨hw, hR, hL, hV, hM, hN⟩, rS, mS, wS, ny, ct⟩ := G.1
  obtain ⟨T, m, kb, t1, t2, t3⟩ := G.2.2.2.2.2.2.2.1
  have hr := px_rc_b t3
  by_cases c1 : 0 ≤ k ∧ k < V 0 0
  · rw [S142]
    simp (disch := omega) only [KX, s93 hw hR, c1, if_true, KT, GA, GR, GRc, GO, GI, GL, GV, am_w_i, am_ga, am_it, am_if, true_and, and_true, or_true, true_or, ne_eq, not_false_eq_true, not_true_eq_false, false_imp_iff, true_imp_iff, Int.reduceEq, Int.reduceLT, Int.reduceLE, Int.reduceAdd, Int.reduceSub, Int.reduceMul, Int.reduceNeg]
    refine s70 t1 t3 (fun I1 a1 a2 => ?_)
    have q1 : QR w I L w I1 L := ⟨⟨rfl, rfl, rfl⟩, QF.cl (fun a ha => a2 a (by omega)), QL.rf⟩
    have t1' : GDc T m kb I1 := t1.fr (fun a _ _ => a2 a (by omega))
    have lb := px_ld_b (c := px_sd T (px_rc m kb) (px_rc m kb)) t3 m (Nat.le_refl _)
    obtain ⟨last, hl⟩ : ∃ last : Nat, px_ld T (px_sd T (px_rc m kb) (px_rc m kb)) m = last := ⟨_, (Int.toNat_of_nonneg lb.1).symm⟩
    have u73 := fun (d : Nat) (Q : Option am_V → am_H → Prop) => s73 (d := d) (w := w) (L := L) t1' t3 a1 (Q := Q)
    rw [hl] at u73
    simp (disch := omega) only [KX, KT, u73, GA, GR, GRc, GO, GI, GL, GV, am_w_i, am_ga, am_it, am_if, true_and, and_true, or_true, true_or, ne_eq, not_false_eq_true, not_true_eq_false, false_imp_iff, true_imp_iff, Int.reduceEq, Int.reduceLT, Int.reduceLE, Int.reduceAdd, Int.reduceSub, Int.reduceMul, Int.reduceNeg]
    refine c_heal (c := px_sd T (px_rc m kb) (px_rc m kb)) (G.1.q q1) t1' t3 a1 (by omega) (fun w2 I2 L2 q2 f2 => ?_)
    rw [px_ha_e hr.1 (by omega) hl]
    have G2 := G.q (q1.tr q2)
    have t2' : GDm T m kb (am_up I2 99 2 0) := t2.fr (by rw [am_up_n _ _ _ _ (by decide), f2 99 (by omega), a2 99 (by decide)]) (by rw [am_up_n _ _ _ _ (by decide), f2 99 (by omega), a2 99 (by decide)]) (by rw [am_up_a _ _ _ _ (by decide), f2 134 (by omega), a2 134 (by decide)])
    have G3 := G2.q (QR.t (v := 0))
    rw [S270]
    simp (disch := omega) only [Kk, B270_5, s199 G3.1.1.2.2.2.2.1, c1, if_true, GA, GR, GRc, GO, GI, GL, GV, am_w_i, am_ga, am_it, am_if, true_and, and_true, or_true, true_or, ne_eq, not_false_eq_true, not_true_eq_false, false_imp_iff, true_imp_iff, Int.reduceEq, Int.reduceLT, Int.reduceLE, Int.reduceAdd, Int.reduceSub, Int.reduceMul, Int.reduceNeg]
    refine s266 t2' t3 (fun I3 b1 b2 => ?_)
    have q3 : QR w2 (am_up I2 99 2 0) L2 w2 I3 L2 := by
      refine ⟨⟨rfl, rfl, rfl⟩, ⟨fun a x y => b2 a (by omega), fun j _ _ _ => by rw [b2 99 (by decide)], ⟨fun _ _ _ => by rw [b2 127 (by decide)], fun _ _ _ => by rw [b2 128 (by decide)], fun _ _ _ => by rw [b2 129 (by decide)], by rw [b2 130 (by decide)], by rw [b2 131 (by decide)]⟩⟩, QL.rf⟩
    have t3i : GDm T m kb I3 := t2'.fr (by rw [b2 99 (by decide)]) (by rw [b2 99 (by decide)]) (b2 134 (by decide))
    simp (disch := omega) only [GA, GR, GRc, GO, GI, GL, GV, am_w_i, am_ga, am_it, am_if, true_and, and_true, or_true, true_or, ne_eq, not_false_eq_true, not_true_eq_false, false_imp_iff, true_imp_iff, Int.reduceEq, Int.reduceLT, Int.reduceLE, Int.reduceAdd, Int.reduceSub, Int.reduceMul, Int.reduceNeg]
    refine m_heal (c := px_sd T (px_rc m kb) (px_rc m kb)) (G3.q q3).1 t3i t3 b1 (fun I4 L4 q4 => ?_)
    exact ⟨rfl, by simp, w2, I4, L4, rfl, V, lw, σ, n, f, g, (G3.q q3).q q4⟩
  · refine no (-1) ?_ ?_
    · rw [S142]
      simp (disch := omega) only [KX, s93 hw hR, c1, if_false, GA, GR, GRc, GO, GI, GL, GV, am_w_i, am_ga, am_it, am_if, true_and, and_true, or_true, true_or, ne_eq, not_false_eq_true, not_true_eq_false, false_imp_iff, true_imp_iff, Int.reduceEq, Int.reduceLT, Int.reduceLE, Int.reduceAdd, Int.reduceSub, Int.reduceMul, Int.reduceNeg]
    · rw [S270]
      simp (disch := omega) only [Kk, B270_5, s199 hM.t, c1, if_false, GA, GR, GRc, GO, GI, GL, GV, am_w_i, am_ga, am_it, am_if, true_and, and_true, or_true, true_or, ne_eq, not_false_eq_true, not_true_eq_false, false_imp_iff, true_imp_iff, Int.reduceEq, Int.reduceLT, Int.reduceLE, Int.reduceAdd, Int.reduceSub, Int.reduceMul, Int.reduceNeg]
