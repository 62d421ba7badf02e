/-! 68: undo, keep, back, count -/
theorem uSt_WS {V σ I : (Nat → Int → Int)} {v : Nat} (h : GL0 V (v + 1) σ I) (wS : WS 9000 σ) : WS 9000 (uSt v σ I) := by
  have o := h.2.2.2 v (by omega)
  obtain ⟨a, b, c⟩ := wS
  refine ⟨fun j j0 j1 => (o.2.1 j j0 j1).2, fun t t0 t1 => ?_, by rw [uSt_o (by decide) (by decide)]; exact c⟩
  rcases (show t = 0 ∨ t = 1 by omega) with e | e <;> subst e
  · show 0 ≤ I 136 (14 * (v : Int) + 12) ∧ I 136 (14 * (v : Int) + 12) ≤ 9999
    rw [o.2.2.1.1]; exact o.2.2.2.1
  · show 0 ≤ I 136 (14 * (v : Int) + 13) ∧ I 136 (14 * (v : Int) + 13) ≤ 9999
    rw [o.2.2.1.2]; exact o.2.2.2.2
set_option maxHeartbeats 1000000 in
theorem p_undo : PM 146 276 [] := by
  intro d w I L hG
  have no := fun r => PM.no (d := d) (j1 := 146) (j2 := 276) (as := []) r hG
  obtain ⟨V, lw, σ, n, f, g, G⟩ := hG
  obtain ⟨⟨hw, hR, hL, hV, hM, hN⟩, rS, mS, wS, ny, ct⟩ := G.1
  obtain ⟨u, hl⟩ := G.2.2.2.2.2.2.1
  have hu := hl.2.1
  have hm := hl.2.2.1
  have h20 := hl.1
  rcases u with _ | v
  · have e0 : I 90 0 = 0 := hu
    have e1 : am_up I 99 2 0 99 74 = 0 := by rw [am_up_n _ _ _ _ (by decide)]; exact hm
    refine no (-1) ?_ ?_
    · rw [S146]
      simp (disch := omega) only [KX, KG, e0, GA, GR, GRc, GO, GI, GL, GV, am_w_i, am_ga, am_it, am_if, true_and, and_true, or_true, true_or, ne_eq, not_false_eq_true, not_true_eq_false, false_imp_iff, true_imp_iff, Int.reduceEq, Int.reduceLT, Int.reduceLE, Int.reduceAdd, Int.reduceSub, Int.reduceMul, Int.reduceNeg]
    · rw [S276]
      simp (disch := omega) only [Kk, B276_5, e1, GA, GR, GRc, GO, GI, GL, GV, am_w_i, am_ga, am_it, am_if, true_and, and_true, or_true, true_or, ne_eq, not_false_eq_true, not_true_eq_false, false_imp_iff, true_imp_iff, Int.reduceEq, Int.reduceLT, Int.reduceLE, Int.reduceAdd, Int.reduceSub, Int.reduceMul, Int.reduceNeg]
  · have o := hl.2.2.2 v (by omega)
    have W1 := uSt_WS hl wS
    have h6 := hV.1.1
    have hu2 : I 90 0 = (v : Int) + 1 := by rw [hu]; omega
    have ne : (v : Int) + 1 ≠ 0 := by omega
    rw [S146]
    simp (disch := omega) only [KX, KG, hu2, ne, GA, GR, GRc, GO, GI, GL, GV, am_w_i, am_ga, am_it, am_if, true_and, and_true, or_true, true_or, ne_eq, not_false_eq_true, not_true_eq_false, false_imp_iff, true_imp_iff, Int.reduceEq, Int.reduceLT, Int.reduceLE, Int.reduceAdd, Int.reduceSub, Int.reduceMul, Int.reduceNeg]
    refine s20 hu2 (by omega) rfl (by omega) (fun I1 p1 p2 p3 p4 p5 => ?_)
    have p1' : am_up I1 64 0 0 90 0 = v := by rw [am_up_a _ _ _ _ (by decide)]; exact p1
    simp (disch := omega) only [KX, KP, KN, KG, B146_31, p1', GA, GR, GRc, GO, GI, GL, GV, am_w_i, am_ga, am_it, am_if, true_and, and_true, or_true, true_or, ne_eq, not_false_eq_true, not_true_eq_false, false_imp_iff, true_imp_iff, Int.reduceEq, Int.reduceLT, Int.reduceLE, Int.reduceAdd, Int.reduceSub, Int.reduceMul, Int.reduceNeg]
    have rJ : RS (am_up I1 64 0 0) 51 (uSt v σ I) := by
      refine ⟨fun j j0 j1 => ?_, fun j j0 j1 => ?_, fun j j0 j1 => ?_, ?_, ?_, ?_⟩
      · rw [am_up_a _ _ _ _ (by decide), p2 j, uSt_1, (o.2.1 j j0 j1).1]
        unfold uNx
        rw [if_neg (show ¬ v + 1 < v + 1 by omega), show I 52 j = σ 1 j from rS.1 j j0 j1]
      · rw [am_up_a _ _ _ _ (by decide)]
        rcases (show j = 0 ∨ j = 1 by omega) with e | e <;> subst e
        · exact p3.trans o.2.2.1.1.symm
        · exact p4.trans o.2.2.1.2.symm
      · rw [am_up_a _ _ _ _ (by decide), p5 _ (by decide), uSt_o (by decide) (by decide)]; exact rS.2.2.1 j j0 j1
      · rw [am_up_a _ _ _ _ (by decide), p5 _ (by decide), uSt_o (by decide) (by decide)]; exact rS.2.2.2.1
      · rw [am_up_a _ _ _ _ (by decide), p5 _ (by decide), uSt_o (by decide) (by decide)]; exact rS.2.2.2.2.1
      · rw [am_up_a _ _ _ _ (by decide), p5 _ (by decide), uSt_o (by decide) (by decide)]; exact rS.2.2.2.2.2
    have j64 : am_up I1 64 0 0 64 0 = 0 := am_up_s _ _ _ _
    have fj : ∀ a, a ≠ 52 → a ≠ 53 → a ≠ 90 → a ≠ 64 → am_up I1 64 0 0 a = I a := fun a x1 x2 x3 x4 => by rw [am_up_a _ _ _ _ x4, p5 a (by omega)]
    generalize am_up I1 64 0 0 = J at *
    have u74 : am_up J 99 2 0 99 74 = (v : Int) + 1 := by rw [am_up_n _ _ _ _ (by decide), fj 99 (by decide) (by decide) (by decide) (by decide), hm]; omega
    have ev : (v : Int) + 1 - 1 = v := by omega
    rw [S276]
    simp (disch := omega) only [Kk, B276_5, u74, ne, ev, B276_24, am_up_s, Ku, GA, GR, GRc, GO, GI, GL, GV, am_w_i, am_ga, am_it, am_if, true_and, and_true, or_true, true_or, ne_eq, not_false_eq_true, not_true_eq_false, false_imp_iff, true_imp_iff, Int.reduceEq, Int.reduceLT, Int.reduceLE, Int.reduceAdd, Int.reduceSub, Int.reduceMul, Int.reduceNeg]
    refine s274 (a := 136) (ln := 280) (b := 14 * (v : Int)) ⟨by decide, by decide⟩ (fun J => by simp only [Ku]) (fun J => by simp only [Ku]; rfl) (by omega) (by omega) (by omega) (fun I3 k1 k2 k3 k4 => ?_)
    have e : ∀ a, a ≠ 99 → a ≠ 127 → a ≠ 128 → I3 a = J a := fun a x1 x2 x3 => by rw [k4 a (by omega), am_up_a _ _ _ _ x1, am_up_a _ _ _ _ x1]
    have e9 : ∀ j, j ≠ 74 → j ≠ 2 → I3 99 j = I 99 j := fun j x1 x2 => by rw [k4 99 (by omega), am_up_n _ _ _ _ x1, am_up_n _ _ _ _ x2, fj 99 (by decide) (by decide) (by decide) (by decide)]
    have e74 : I3 99 74 = v := by rw [k4 99 (by decide), am_up_s]
    rw [am_up_a _ _ _ _ (by decide), am_up_a _ _ _ _ (by decide), fj 136 (by decide) (by decide) (by decide) (by decide)] at k1 k2 k3
    simp (disch := omega) only [Kk, e74, GA, GR, GRc, GO, GI, GL, GV, am_w_i, am_ga, am_it, am_if, true_and, and_true, or_true, true_or, ne_eq, not_false_eq_true, not_true_eq_false, false_imp_iff, true_imp_iff, Int.reduceEq, Int.reduceLT, Int.reduceLE, Int.reduceAdd, Int.reduceSub, Int.reduceMul, Int.reduceNeg]
    refine ⟨by simp, w, I3, L, rfl, V, lw, uSt v σ I, n, f, g, G.nw ⟨v, hl.pop ?_ e74 ?_ ?_⟩ (rJ.fr (fun a _ _ => e a (by omega) (by omega) (by omega))) ?_ W1 (px_n3 ny (by rw [uSt_o (by decide) (by decide)]) (uSt_o (by decide) (by decide))) (px_d3' G.2.1 (by rw [uSt_o (by decide) (by decide)]) (uSt_o (by decide) (by decide))) ?_ (GPl.no ?_) ⟨fun a ha => ?_, fun j hj => e9 j (by omega) (by omega)⟩ rfl ⟨rfl, rfl⟩⟩
    · rw [e 90 (by decide) (by decide) (by decide)]; exact p1'
    · rw [e 91 (by decide) (by decide) (by decide), fj 91 (by decide) (by decide) (by decide) (by decide)]
    · rw [e 136 (by decide) (by decide) (by decide), fj 136 (by decide) (by decide) (by decide) (by decide)]
    · refine ⟨fun j j0 j1 => ?_, fun j j0 j1 => ?_, fun j j0 j1 => ?_, ?_, ?_, ?_⟩
      · rw [show 12 * 0 + j = j by omega, k1 j j0 j1, uSt_1]
      · rw [show 2 * 0 + j = j by omega]
        rcases (show j = 0 ∨ j = 1 by omega) with e | e <;> subst e
        · exact k2
        · exact k3
      · rw [e 129 (by decide) (by decide) (by decide), fj 129 (by decide) (by decide) (by decide) (by decide), uSt_o (by decide) (by decide)]; exact mS.2.2.1 j j0 j1
      · rw [e 131 (by decide) (by decide) (by decide), fj 131 (by decide) (by decide) (by decide) (by decide), uSt_o (by decide) (by decide)]; exact mS.2.2.2.1
      · rw [e 130 (by decide) (by decide) (by decide), fj 130 (by decide) (by decide) (by decide) (by decide), uSt_o (by decide) (by decide)]; exact mS.2.2.2.2.1
      · rw [uSt_o (by decide) (by decide)]; exact mS.2.2.2.2.2
    · refine ct.fr ?_ ⟨?_, ?_, ?_⟩
      · rw [e 54 (by decide) (by decide) (by decide), fj 54 (by decide) (by decide) (by decide) (by decide)]
      · rw [e 51 (by decide) (by decide) (by decide), fj 51 (by decide) (by decide) (by decide) (by decide)]
      · rw [e 51 (by decide) (by decide) (by decide), fj 51 (by decide) (by decide) (by decide) (by decide)]
      · rw [e 51 (by decide) (by decide) (by decide), fj 51 (by decide) (by decide) (by decide) (by decide)]
    · rw [e 64 (by decide) (by decide) (by decide)]; exact j64
    · rw [e a (by omega) (by omega) (by omega), fj a (by omega) (by omega) (by omega) (by omega)]
