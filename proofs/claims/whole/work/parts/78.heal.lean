/-! 78: a healing under which every sight is so: class -/
def FH (k h : Int) : Int → Int := fun j => if j = 5 then k else if j = 6 then h else FT 1 j
theorem FH_WF {k h : Int} (hh : 0 ≤ h ∧ h ≤ 9) : WF (FH k h) := hh
def px_sa (V : (Nat → Int → Int)) (lw : (Int → (Int → Int) → Int)) (F : Int → Int) (T : (Nat → Int → Int)) (c : Int → Int) (r : Nat) : Nat → Bool
  | 0 => true
  | n + 1 => px_sa V lw F T c r n && px_fs T c (px_days V lw F (n + 1) (px_beg V)) ((n + 1 : Nat) : Int) r
theorem px_sa_m {V : (Nat → Int → Int)} {lw : (Int → (Int → Int) → Int)} {F : Int → Int} {T : (Nat → Int → Int)} {c : Int → Int} {r i : Nat} (h : px_sa V lw F T c r i = false) : ∀ n, i ≤ n → px_sa V lw F T c r n = false
  | 0, hn => by rw [show i = 0 by omega] at h; exact h
  | n + 1, hn => by
    by_cases e : i = n + 1
    · rw [← e]; exact h
    · rw [px_sa, px_sa_m h n (by omega)]; rfl
set_option maxHeartbeats 1000000 in
theorem s143 {d : Nat} {w : Nat × Nat × Nat × Nat} {I L : Nat → Int → Int} {V T σ : (Nat → Int → Int)} {lw : (Int → (Int → Int) → Int)} {m last : Nat} {kb k h : Int} {c : Int → Int} (G : GC V lw σ w I L) (hT : GDc T m kb I) (hw : WT V T m kb) (hc : ∀ j, 0 ≤ j → j < 24 → I 98 j = c j) (hh : 0 ≤ h ∧ h ≤ 9) (hl : last ≤ 60) {Q : Option am_V → am_H → Prop} (q : ∀ w' I' L', QR w I L w' I' L' → (∀ a, ¬ (55 ≤ a ∧ a ≤ 58 ∨ a = 63) → I' a = I a) → Q (some (vI (if px_sa V lw (FH k h) T c m last = true then 1 else 0))) (mkH w' I' L')) : am_Sp (d + 8) 143 [vR (some 0), vI k, vI h, vI (last : Int)] (mkH w I L) Q := by
  have tk := G.tk 1
  obtain ⟨⟨hW, hR, hL, hV, hM, hN⟩, rS, mS, wS, ny, ct⟩ := G
  have hle := isW_le hW
  have h12 := hV.1.2.2
  have C : CC (w.1, w.2.1, w.2.2.1, w.1) (am_up (am_up (cz_tk I 1) 63 5 k) 63 6 h) V lw (FH k h) := tk.1.fl (fun x hx => by rw [am_up_a _ _ _ _ hx, am_up_a _ _ _ _ hx]) (by unfold cz_tk FH FT am_up; simp) (FH_WF hh)
  have fJ : ∀ x, x ≠ 63 → am_up (am_up (cz_tk I 1) 63 5 k) 63 6 h x = I x := fun x hx => by rw [am_up_a _ _ _ _ hx, am_up_a _ _ _ _ hx, cz_tk_a hx]
  rw [S143]
  simp (disch := omega) only [KX, KC, s1, B143_20, B143_28, HS is55, s57 is55 hW, GA, GR, GRc, GO, GI, GL, GV, am_w_i, am_ga, am_it, am_if, true_and, and_true, or_true, true_or, ne_eq, not_false_eq_true, not_true_eq_false, false_imp_iff, true_imp_iff, Int.reduceEq, Int.reduceLT, Int.reduceLE, Int.reduceAdd, Int.reduceSub, Int.reduceMul, Int.reduceNeg]
  generalize am_up (am_up (cz_tk I 1) 63 5 k) 63 6 h = J at *
  have cf := (cz_beg_at (I := J) (s := 55) (t := w.1) (by omega)).2.2.2.2
  have l0 : CL V lw (FH k h) (px_beg V) w I L (w.1, w.2.1, w.2.2.1, w.1) (cz_beg J 55 w.1) L := ⟨rfl, C.fr (fun a ha => cf a (by omega)), RS.beg (by omega) (hR.fr (fun a _ _ => fJ a (by omega))), CT.beg (by omega) (by omega), NY.beg, fun x hx => by rw [cf x (by omega), fJ x (by omega)], LF.rf⟩
  refine am_loop (α := (Nat → Int → Int) × (Nat → Int → Int)) last (fun i x => am_WP (d + 8) 143 42 [some (vR (some 0)), some (vI k), some (vI h), some (vI (last : Int)), some (vI ((i : Int) + 1))] [] (mkH (w.1, w.2.1, w.2.2.1, w.1) x.1 x.2) Q) (fun i x => CL V lw (FH k h) (px_days V lw (FH k h) i (px_beg V)) w I L (w.1, w.2.1, w.2.2.1, w.1) x.1 x.2 ∧ px_sa V lw (FH k h) T c m i = true) ?_ ?_ 0 (cz_beg J 55 w.1, L) (Nat.zero_le _) ⟨l0, rfl⟩
  · intro i ⟨Ia, La⟩ hi ⟨la, inv⟩ ih
    dsimp only at la ⊢
    have W1 := (WS.beg hV).days (lw := lw) (F := FH k h) hV (FH_WF hh) i (by omega)
    have W2 := (WS.beg hV).days (lw := lw) (F := FH k h) hV (FH_WF hh) (i + 1) (by omega)
    rw [B143_42]
    simp (disch := omega) only [KX, KC, HS is55, GA, GR, GRc, GO, GI, GL, GV, am_w_i, am_ga, am_it, am_if, true_and, and_true, or_true, true_or, ne_eq, not_false_eq_true, not_true_eq_false, false_imp_iff, true_imp_iff, Int.reduceEq, Int.reduceLT, Int.reduceLE, Int.reduceAdd, Int.reduceSub, Int.reduceMul, Int.reduceNeg]
    refine CL.day la W1 (fun Ib Lb lb => ?_)
    have tb : GDc T m kb Ib := hT.fr (fun a _ _ => lb.2.2.2.2.2.1 a (by omega))
    have cb : ∀ j, 0 ≤ j → j < 24 → Ib 98 j = c j := fun j x y => by rw [lb.2.2.2.2.2.1 98 (by omega)]; exact hc j x y
    have e74 := fun (d : Nat) (dy : Int) (Q : Option am_V → am_H → Prop) => s74 (d := d) (w := (w.1, w.2.1, w.2.2.1, w.1)) (L := Lb) (dy := dy) tb hw hV lb.2.2.1 W2 cb (Q := Q)
    have ec : (i : Int) + 1 = ((i + 1 : Nat) : Int) := by omega
    cases hf : px_fs T c (px_days V lw (FH k h) (i + 1) (px_beg V)) ((i + 1 : Nat) : Int) m with
    | true =>
      have z := ih (Ib, Lb) ⟨lb, by rw [px_sa, inv, hf]; rfl⟩
      dsimp only at z
      rw [ec] at *
      rw [show px_day V lw (FH k h) (px_days V lw (FH k h) i (px_beg V)) = px_days V lw (FH k h) (i + 1) (px_beg V) from rfl] at e74
      first | (simp (disch := omega) only [KX, KT, KC, HS is55, e74, hf, if_true, GA, GR, GRc, GO, GI, GL, GV, am_w_i, am_ga, am_it, am_if, true_and, and_true, or_true, true_or, ne_eq, not_false_eq_true, not_true_eq_false, false_imp_iff, true_imp_iff, Int.reduceEq, Int.reduceLT, Int.reduceLE, Int.reduceAdd, Int.reduceSub, Int.reduceMul, Int.reduceNeg]; exact z) | simp (disch := omega) only [KX, KT, KC, HS is55, e74, hf, if_true, z, GA, GR, GRc, GO, GI, GL, GV, am_w_i, am_ga, am_it, am_if, true_and, and_true, or_true, true_or, ne_eq, not_false_eq_true, not_true_eq_false, false_imp_iff, true_imp_iff, Int.reduceEq, Int.reduceLT, Int.reduceLE, Int.reduceAdd, Int.reduceSub, Int.reduceMul, Int.reduceNeg]
    | false =>
      have f : px_sa V lw (FH k h) T c m last = false := px_sa_m (i := i + 1) (by rw [px_sa, inv, hf]; rfl) last (by omega)
      have z := q _ Ib Lb lb.qr lb.2.2.2.2.2.1
      rw [f] at z
      simp only [Bool.false_eq_true, if_false] at z
      rw [ec]
      rw [show px_day V lw (FH k h) (px_days V lw (FH k h) i (px_beg V)) = px_days V lw (FH k h) (i + 1) (px_beg V) from rfl] at e74
      first | (simp (disch := omega) only [KX, KT, KC, HS is55, e74, hf, if_false, Bool.false_eq_true, GA, GR, GRc, GO, GI, GL, GV, am_w_i, am_ga, am_it, am_if, true_and, and_true, or_true, true_or, ne_eq, not_false_eq_true, not_true_eq_false, false_imp_iff, true_imp_iff, Int.reduceEq, Int.reduceLT, Int.reduceLE, Int.reduceAdd, Int.reduceSub, Int.reduceMul, Int.reduceNeg]; exact z) | simp (disch := omega) only [KX, KT, KC, HS is55, e74, hf, if_false, Bool.false_eq_true, z, GA, GR, GRc, GO, GI, GL, GV, am_w_i, am_ga, am_it, am_if, true_and, and_true, or_true, true_or, ne_eq, not_false_eq_true, not_true_eq_false, false_imp_iff, true_imp_iff, Int.reduceEq, Int.reduceLT, Int.reduceLE, Int.reduceAdd, Int.reduceSub, Int.reduceMul, Int.reduceNeg]
  · intro ⟨Ia, La⟩ ⟨la, inv⟩
    dsimp only at la ⊢
    have z := q _ Ia La la.qr la.2.2.2.2.2.1
    rw [inv] at z
    simp only [if_true] at z
    rw [B143_42]
    first | (simp (disch := omega) only [GA, GR, GRc, GO, GI, GL, GV, am_w_i, am_ga, am_it, am_if, true_and, and_true, or_true, true_or, ne_eq, not_false_eq_true, not_true_eq_false, false_imp_iff, true_imp_iff, Int.reduceEq, Int.reduceLT, Int.reduceLE, Int.reduceAdd, Int.reduceSub, Int.reduceMul, Int.reduceNeg]; exact z) | simp (disch := omega) only [z, GA, GR, GRc, GO, GI, GL, GV, am_w_i, am_ga, am_it, am_if, true_and, and_true, or_true, true_or, ne_eq, not_false_eq_true, not_true_eq_false, false_imp_iff, true_imp_iff, Int.reduceEq, Int.reduceLT, Int.reduceLE, Int.reduceAdd, Int.reduceSub, Int.reduceMul, Int.reduceNeg]
