/-! a2: the class reads a text, whole -/
theorem Tok.nx {T : Int → Int} {n i p j s v kd wh : Int} (h : Tok T n i p j s v kd wh) (hi : 0 ≤ i) : 0 ≤ j := by
  obtain ⟨⟨a, b, -⟩, ⟨c, e, -, -⟩ | ⟨c, -, -, t⟩⟩ := h
  · omega
  · have := t.j c; omega
theorem Toks.tc {T : Int → Int} {n : Int} {I : (Nat → Int → Int)} {K : Nat} {P : Nat → Int} (h : Toks T n I K P) (hK : K ≤ 700) (h0 : I 46 K = 0) (h8 : I 48 K = n) (hp : P K ≤ n ∧ ∀ x, P K ≤ x → x < n → T x = 10 ∨ T x = 32) (hn : 0 ≤ n ∧ n ≤ 700) : TC (fun k => I 46 (k : Int)) (fun k => I 47 (k : Int)) (fun k => I 48 (k : Int)) (fun k => if k ≤ K then P k else n) K T n := by
  have nn : ∀ k : Nat, k ≤ K → 0 ≤ P k := fun k => by
    induction k with
    | zero => intro _; rw [h.1]; decide
    | succ k ih =>
      intro hk
      obtain ⟨-, kd, wh, t⟩ := h.2 k (by omega)
      exact t.nx (ih (by omega))
  refine ⟨hK, h0, fun k hk => (h.2 k hk).1, hn, fun k hk => ⟨by dsimp only; rw [if_pos hk]; exact nn k hk, ?_⟩⟩
  dsimp only
  rw [if_pos hk]
  by_cases c : k = K
  · subst c
    rw [if_neg (by omega), h0, h8]
    exact ⟨0, 0, ⟨hp.1, Int.le_refl _, hp.2⟩, Or.inl ⟨rfl, rfl, rfl, rfl⟩⟩
  · rw [if_pos (show k + 1 ≤ K by omega)]
    exact (h.2 k (by omega)).2
theorem TC.tu {s u pl P : Nat → Int} {K : Nat} {T : Int → Int} {n : Int} (h : TC s u pl P K T n) : TU s u K := by
  obtain ⟨h1, h2, h3, h4, h5⟩ := h
  refine ⟨h2, h1, fun k hk e => ?_, fun k hk e => ?_⟩
  · obtain ⟨-, kd, wh, t⟩ := h5 k hk
    have := t.tr
    unfold TR NR at this
    omega
  · obtain ⟨-, kd, wh, t⟩ := h5 k hk
    have := t.tr
    unfold TR NR at this
    omega
/-- what reading a text may change of the class -/
def CZ (sp : Nat) (I I' : (Nat → Int → Int)) : Prop := ∀ a, ¬ (44 ≤ a ∧ a ≤ 50 ∧ a ≠ 49) → ¬ (sp ≤ a ∧ a ≤ sp + 20) → I' a = I a
set_option maxHeartbeats 1000000 in
theorem s26 {d : Nat} {w : Nat × Nat × Nat × Nat} {I L : Nat → Int → Int} {T : Int → Int} {n : Int} {sp : Nat} (hT : TB n T I) (hX : GX I) (hn : 0 ≤ n ∧ n ≤ 700) (hs : isW sp) {Q : Option am_V → am_H → Prop} (q : ∀ (s u pl P : Nat → Int) (K : Nat) (X : (Nat → Int → Int)), TC s u pl P K T n → P 0 = 0 → X00 X → (∀ I', CZ sp I I' → (txF s u K (K + 1) X 0 0).1.1 = 0 → PX (w.1, w.2.1, sp, w.2.2.2) I' (txF s u K (K + 1) X 0 0).1.2.2 → Q (some (vI (txF s u K (K + 1) X 0 0).2)) (mkH (w.1, w.2.1, sp, w.2.2.2) I' L)) ∧ (∀ I', CZ sp I I' → (txF s u K (K + 1) X 0 0).1.1 ≠ 0 → I' 44 0 = (txF s u K (K + 1) X 0 0).1.1 → I' 44 1 = pl (txF s u K (K + 1) X 0 0).1.2.1 → Q (some (vI (-1))) (mkH (w.1, w.2.1, sp, w.2.2.2) I' L))) : am_Sp (d + 6) 26 [vR (some 44), vR (some 1), vI n, vR (some sp)] (mkH w I L) Q := by
  have hl := isW_le hs
  rw [S26]
  simp (disch := omega) only [KP, GA, GR, GRc, GO, GI, GL, GV, am_w_i, am_ga, am_it, am_if, true_and, and_true, or_true, true_or, ne_eq, not_false_eq_true, not_true_eq_false, false_imp_iff, true_imp_iff, Int.reduceEq, Int.reduceLT, Int.reduceLE, Int.reduceAdd, Int.reduceSub, Int.reduceMul, Int.reduceNeg]
  refine s76 (d := d + 2) hT hX hn.1 (fun I1 K P tk K7 e46 e48 hp f1 => ?_)
  have tc := tk.tc K7 e46 e48 hp hn
  have tu := tc.tu
  simp (disch := omega) only [KP, mk_w3, B26_14, GA, GR, GRc, GO, GI, GL, GV, am_w_i, am_ga, am_it, am_if, true_and, and_true, or_true, true_or, ne_eq, not_false_eq_true, not_true_eq_false, false_imp_iff, true_imp_iff, Int.reduceEq, Int.reduceLT, Int.reduceLE, Int.reduceAdd, Int.reduceSub, Int.reduceMul, Int.reduceNeg]
  rw [s85 (d := d + 2) hs]
  simp (disch := omega) only [KP, B26_26, B26_31, B26_36, B26_41, B26_46, GA, GR, GRc, GO, GI, GL, GV, am_w_i, am_ga, am_it, am_if, true_and, and_true, or_true, true_or, ne_eq, not_false_eq_true, not_true_eq_false, false_imp_iff, true_imp_iff, Int.reduceEq, Int.reduceLT, Int.reduceLE, Int.reduceAdd, Int.reduceSub, Int.reduceMul, Int.reduceNeg]
  obtain ⟨g1, ⟨g20, g25, g211, g217, g151, g152⟩, g3, g4, g5⟩ := cz_cl_at (I := I1) (s := sp)
  generalize cz_cl I1 sp = I2 at *
  generalize e3 : am_up (am_up (am_up (am_up (am_up I2 44 3 0) 44 0 0) 44 1 (-1)) 44 5 0) 44 6 0 = I3
  have i3 : ∀ a, a ≠ 44 → I3 a = I2 a := fun a ha => by rw [← e3]; simp (disch := exact ha) only [am_up_a]
  have i44 : I3 44 3 = 0 ∧ I3 44 0 = 0 ∧ I3 44 1 = -1 ∧ I3 44 5 = 0 ∧ I3 44 6 = 0 := by
    rw [← e3]; simp (disch := decide) only [am_up_n, am_up_s, and_self]
  have hc : cT (fun k => I1 46 (k : Int)) (fun k => I1 47 (k : Int)) (fun k => I1 48 (k : Int)) K I3 := fun k hk => by
    rw [i3 46 (by decide), i3 47 (by decide), i3 48 (by decide), g1 46 (by omega), g1 47 (by omega), g1 48 (by omega)]; exact ⟨rfl, rfl, rfl⟩
  have x0 : X00 (px_X0 I3 sp) := by
    refine ⟨fun j j0 j1 => ?_, ⟨?_, ?_⟩, fun j j0 j1 => ?_, fun j j0 j1 => ⟨?_, ?_⟩, fun l l0 l1 => ?_⟩
    · unfold px_X0; rw [if_pos rfl, if_neg (by omega)]
    · rfl
    · rfl
    · unfold px_X0; rw [if_neg (by decide), i3 _ (by omega)]; exact g3 j j0 j1
    · unfold px_X0; rw [if_neg (by decide), i3 _ (by omega)]; exact (g4 j j0 j1).1
    · unfold px_X0; rw [if_neg (by decide), i3 _ (by omega)]; exact (g4 j j0 j1).2
    · unfold px_X0; rw [if_neg (by decide), i3 _ (by omega)]; exact g5 l l0 l1
  have px : PX (w.1, w.2.1, sp, w.2.2.2) I3 (px_X0 I3 sp) := by
    refine ⟨⟨?_, ?_, ?_, ?_, ?_, ?_⟩, ⟨i44.2.2.2.1, i44.2.2.2.2⟩, fun a a0 a1 => ?_, rfl, rfl, rfl, i44.2.1, i44.2.2.1⟩
    · dsimp only; rw [i3 sp (by omega)]; exact g20
    · dsimp only; rw [i3 sp (by omega)]; exact g25
    · dsimp only; rw [i3 sp (by omega)]; exact g211
    · dsimp only; rw [i3 sp (by omega)]; exact g217
    · dsimp only; rw [i3 (sp + 15) (by omega)]; exact g152
    · dsimp only; rw [i3 (sp + 15) (by omega)]; exact g151
    · funext j; unfold px_X0; rw [if_neg (by omega)]
  have q := q _ _ _ _ K _ tc (by rw [if_pos (Nat.zero_le _)]; exact tk.1) x0
  have fz : ∀ I', CW (w.1, w.2.1, sp, w.2.2.2) I3 I' → CZ sp I I' := fun I' cw a h1 h2 => by
    rw [cw a (by omega) (by omega) h2, i3 a (by omega), g1 a (by omega)]
    exact f1 a (by omega) (by omega) (by omega) (by omega)
  refine ⟨(HW hs _ _ _).1, ?_⟩
  exact c_lines (d := d) (w := (w.1, w.2.1, sp, w.2.2.2)) tu hs (K + 1) I3 (px_X0 I3 sp) 0 0 (by omega) (Nat.zero_le _) (by omega) hc px x0.w (by rw [i44.1]; rfl) ⟨fun I' cw => q.1 I' (fz I' cw), fun I' cw => q.2 I' (fz I' cw)⟩
