/-! 99: reading numbers and names, on both sides -/
/-- a token of the class against the registers of the reference -/
def TR (s v kd wh : Int) : Prop := (s = 0 ∧ kd = 0) ∨ (s = 1 ∧ (kd = 6 ∨ (kd = 4 ∧ wh = 37))) ∨ (s = 2 ∧ kd = 2 ∧ wh = v ∧ 0 ≤ v ∧ v ≤ 1073741823) ∨ (s = 3 ∧ kd = 3 ∧ NR v wh) ∨ (kd = 1 ∧ (0 ≤ wh ∧ wh < 21) ∧ ((s = 100 + wh ∧ wh ≠ 11 ∧ wh ≠ 12) ∨ (s = 112 ∧ wh = 11) ∨ (s = 111 ∧ wh = 12))) ∨ (kd = 5 ∧ ((s = 60 ∧ wh = 0) ∨ (s = 4 ∧ wh = 1) ∨ (s = 61 ∧ wh = 2) ∨ (s = 5 ∧ wh = 3) ∨ (s = 6 ∧ wh = 4) ∨ (s = 62 ∧ wh = 5))) ∨ (kd = 4 ∧ s = wh ∧ (s = 59 ∨ s = 40 ∨ s = 41 ∨ s = 43 ∨ s = 45 ∨ s = 42 ∨ s = 47))
theorem Tok.tr {T : Int → Int} {n i p j s v kd wh : Int} (h : Tok T n i p j s v kd wh) : TR s v kd wh := by
  obtain ⟨-, ⟨-, -, a, b⟩ | ⟨-, -, -, tk⟩⟩ := h
  · exact Or.inl ⟨a, b⟩
  · rcases tk with ⟨m, m1, -, -, m4, -, h⟩ | ⟨m, m1, -, -, m4, -, e1, e2, e3, e4⟩ | ⟨-, -, h⟩
    · rcases h with ⟨-, h1, h2, -⟩ | ⟨h6, hv, ⟨k, hk, -, h1, h2, h3⟩ | ⟨-, h1, h2, h3⟩⟩
      · exact Or.inr (Or.inl ⟨h1, Or.inl h2⟩)
      · refine Or.inr (Or.inr (Or.inr (Or.inr (Or.inl ⟨h2, by omega, ?_⟩))))
        unfold wpI at h1
        by_cases k1 : k = 11
        · rw [if_pos k1] at h1; right; left; omega
        · rw [if_neg k1] at h1
          by_cases k2 : k = 12
          · rw [if_pos k2] at h1; right; right; omega
          · rw [if_neg k2] at h1; left; omega
      · refine Or.inr (Or.inr (Or.inl ⟨h1, h2, by rw [h3, hv], ?_⟩))
        have a0 := (dgt_b (i := 0) m4).1
        have a1 := (dgt_b (i := 1) m4).1
        have a2 := (dgt_b (i := 2) m4).1
        have a3 := (dgt_b (i := 3) m4).1
        have a4 := (dgt_b (i := 4) m4).1
        have a5 := (dgt_b (i := 5) m4).1
        rw [hv, P6_e ⟨m1, h6⟩]
        omega
    · refine Or.inr (Or.inr (Or.inr (Or.inl ⟨e1, e3, ?_⟩)))
      rw [e2, e4]; exact nv_r m4
    · rcases h with ⟨-, -, a, b, c⟩ | ⟨-, -, a, b, c⟩ | ⟨-, -, a, b, c⟩ | ⟨-, -, h⟩
      · exact Or.inr (Or.inr (Or.inr (Or.inr (Or.inr (Or.inl ⟨b, Or.inr (Or.inl ⟨a, c⟩)⟩)))))
      · exact Or.inr (Or.inr (Or.inr (Or.inr (Or.inr (Or.inl ⟨b, Or.inr (Or.inr (Or.inr (Or.inr (Or.inl ⟨a, c⟩))))⟩)))))
      · exact Or.inr (Or.inr (Or.inr (Or.inr (Or.inr (Or.inl ⟨b, Or.inr (Or.inr (Or.inr (Or.inl ⟨a, c⟩)))⟩)))))
      · rcases h with ⟨-, a, b, c⟩ | ⟨-, a, b, c⟩ | ⟨-, a, b, c⟩ | ⟨e, a, b, c⟩ | ⟨-, a, b, c⟩ | ⟨-, -, -, -, -, -, a, b, c⟩
        · exact Or.inr (Or.inr (Or.inr (Or.inr (Or.inr (Or.inl ⟨b, Or.inl ⟨a, c⟩⟩)))))
        · exact Or.inr (Or.inr (Or.inr (Or.inr (Or.inr (Or.inl ⟨b, Or.inr (Or.inr (Or.inl ⟨a, c⟩))⟩)))))
        · exact Or.inr (Or.inr (Or.inr (Or.inr (Or.inr (Or.inl ⟨b, Or.inr (Or.inr (Or.inr (Or.inr (Or.inr ⟨a, c⟩))))⟩)))))
        · exact Or.inr (Or.inr (Or.inr (Or.inr (Or.inr (Or.inr ⟨b, by rw [a, c], by rw [a]; exact e⟩)))))
        · exact Or.inr (Or.inl ⟨a, Or.inr ⟨b, c⟩⟩)
        · exact Or.inr (Or.inl ⟨a, Or.inl b⟩)
/-- the tokens of a text, as the class has them, and where the reference stands before each -/
def TC (s u pl P : Nat → Int) (K : Nat) (T : Int → Int) (n : Int) : Prop := K ≤ 700 ∧ s K = 0 ∧ (∀ k, k < K → s k ≠ 0) ∧ (0 ≤ n ∧ n ≤ 700) ∧ ∀ k, k ≤ K → 0 ≤ P k ∧ ∃ kd wh, Tok T n (P k) (pl k) (P (k + 1)) (s k) (u k) kd wh
/-- the class's rows -/
def cT (s u pl : Nat → Int) (K : Nat) (I : (Nat → Int → Int)) : Prop := ∀ k : Nat, k ≤ K → I 46 k = s k ∧ I 47 k = u k ∧ I 48 k = pl k
/-- the reference at token k -/
def mT (s u pl P : Nat → Int) (T : Int → Int) (n : Int) (k : Nat) (I : (Nat → Int → Int)) : Prop := I 99 6 = n ∧ I 100 = T ∧ GX I ∧ I 99 7 = P (k + 1) ∧ I 99 10 = pl k ∧ TR (s k) (u k) (I 99 8) (I 99 9)
/-- what reading may change -/
def CF (I I' : (Nat → Int → Int)) : Prop := (∀ a, a ≠ 44 → I' a = I a) ∧ ∀ j, j ≠ 0 → j ≠ 1 → j ≠ 3 → I' 44 j = I 44 j
def RF (I I' : (Nat → Int → Int)) : Prop := (∀ a, a ≠ 99 → I' a = I a) ∧ ∀ x, x ≠ 4 → x ≠ 5 → x ≠ 7 → x ≠ 8 → x ≠ 9 → x ≠ 10 → x ≠ 11 → I' 99 x = I 99 x
theorem CF.rf {I : (Nat → Int → Int)} : CF I I := ⟨fun _ _ => rfl, fun _ _ _ _ => rfl⟩
theorem CF.tr {I I' I'' : (Nat → Int → Int)} (h : CF I I') (h' : CF I' I'') : CF I I'' := ⟨fun a x => (h'.1 a x).trans (h.1 a x), fun j a b c => (h'.2 j a b c).trans (h.2 j a b c)⟩
theorem CF.up {I I' : (Nat → Int → Int)} {i v : Int} (h : CF I I') (hi : i = 0 ∨ i = 1 ∨ i = 3) : CF I (am_up I' 44 i v) := ⟨fun a x => by rw [am_up_a _ _ _ _ x]; exact h.1 a x, fun x a b c => by rw [am_up_n _ _ _ _ (by omega)]; exact h.2 x a b c⟩
/-- strict, where reading went well -/
def CS (I I' : (Nat → Int → Int)) : Prop := (∀ a, a ≠ 44 → I' a = I a) ∧ ∀ j, j ≠ 3 → I' 44 j = I 44 j
theorem CS.rf {I : (Nat → Int → Int)} : CS I I := ⟨fun _ _ => rfl, fun _ _ => rfl⟩
theorem CS.tr {I I' I'' : (Nat → Int → Int)} (h : CS I I') (h' : CS I' I'') : CS I I'' := ⟨fun a x => (h'.1 a x).trans (h.1 a x), fun j a => (h'.2 j a).trans (h.2 j a)⟩
theorem CS.up {I I' : (Nat → Int → Int)} {i v : Int} (h : CS I I') (hi : i = 3) : CS I (am_up I' 44 i v) := ⟨fun a x => by rw [am_up_a _ _ _ _ x]; exact h.1 a x, fun x a => by rw [am_up_n _ _ _ _ (by omega)]; exact h.2 x a⟩
theorem CS.w {I I' : (Nat → Int → Int)} (h : CS I I') : CF I I' := ⟨h.1, fun j _ _ a => h.2 j a⟩
theorem RF.rf {I : (Nat → Int → Int)} : RF I I := ⟨fun _ _ => rfl, fun _ _ _ _ _ _ _ _ => rfl⟩
theorem RF.tr {I I' I'' : (Nat → Int → Int)} (h : RF I I') (h' : RF I' I'') : RF I I'' := ⟨fun a x => (h'.1 a x).trans (h.1 a x), fun j a b c e f g i => (h'.2 j a b c e f g i).trans (h.2 j a b c e f g i)⟩
theorem RF.up {I I' : (Nat → Int → Int)} {i v : Int} (h : RF I I') (hi : i = 4 ∨ i = 5 ∨ i = 10 ∨ i = 11) : RF I (am_up I' 99 i v) := ⟨fun a x => by rw [am_up_a _ _ _ _ x]; exact h.1 a x, fun x a b c e f g i => by rw [am_up_n _ _ _ _ (by omega)]; exact h.2 x a b c e f g i⟩
theorem RF.tf {I I' : (Nat → Int → Int)} (h : TF I I') : RF I I' := ⟨h.1, fun x _ _ a b c e _ => h.2 x a b c e⟩
/-- strict, where reading went well -/
def RG (I I' : (Nat → Int → Int)) : Prop := (∀ a, a ≠ 99 → I' a = I a) ∧ ∀ x, x ≠ 7 → x ≠ 8 → x ≠ 9 → x ≠ 10 → x ≠ 11 → I' 99 x = I 99 x
theorem RG.rf {I : (Nat → Int → Int)} : RG I I := ⟨fun _ _ => rfl, fun _ _ _ _ _ _ => rfl⟩
theorem RG.tr {I I' I'' : (Nat → Int → Int)} (h : RG I I') (h' : RG I' I'') : RG I I'' := ⟨fun a x => (h'.1 a x).trans (h.1 a x), fun j a b c e f => (h'.2 j a b c e f).trans (h.2 j a b c e f)⟩
theorem RG.up {I I' : (Nat → Int → Int)} {i v : Int} (h : RG I I') (hi : i = 10 ∨ i = 11) : RG I (am_up I' 99 i v) := ⟨fun a x => by rw [am_up_a _ _ _ _ x]; exact h.1 a x, fun x a b c e f => by rw [am_up_n _ _ _ _ (by omega)]; exact h.2 x a b c e f⟩
theorem RG.tf {I I' : (Nat → Int → Int)} (h : TF I I') : RG I I' := ⟨h.1, fun x a b c e _ => h.2 x a b c e⟩
theorem RG.w {I I' : (Nat → Int → Int)} (h : RG I I') : RF I I' := ⟨h.1, fun x _ _ a b c e f => h.2 x a b c e f⟩
theorem cT.fr {s u pl : Nat → Int} {K : Nat} {I I' : (Nat → Int → Int)} (h : cT s u pl K I) (h1 : I' 46 = I 46) (h2 : I' 47 = I 47) (h3 : I' 48 = I 48) : cT s u pl K I' := by unfold cT at h ⊢; rw [h1, h2, h3]; exact h
theorem cT.cf {s u pl : Nat → Int} {K : Nat} {I I' : (Nat → Int → Int)} (h : cT s u pl K I) (f : CS I I') : cT s u pl K I' := h.fr (f.1 46 (by decide)) (f.1 47 (by decide)) (f.1 48 (by decide))
theorem mT.up {s u pl P : Nat → Int} {T : Int → Int} {n : Int} {k : Nat} {I : (Nat → Int → Int)} {i v : Int} (h : mT s u pl P T n k I) (hi : i ≠ 6 ∧ i ≠ 7 ∧ i ≠ 8 ∧ i ≠ 9 ∧ i ≠ 10) : mT s u pl P T n k (am_up I 99 i v) := by
  obtain ⟨a, b, c, e, f, g⟩ := h
  refine ⟨by rw [am_up_n _ _ _ _ (by omega)]; exact a, by rw [am_up_a _ _ _ _ (by decide)]; exact b, ?_, by rw [am_up_n _ _ _ _ (by omega)]; exact e, by rw [am_up_n _ _ _ _ (by omega)]; exact f, by rw [am_up_n _ _ _ _ (by omega), am_up_n _ _ _ _ (by omega)]; exact g⟩
  unfold GX at c ⊢; rw [am_up_a _ _ _ _ (by decide), am_up_a _ _ _ _ (by decide)]; exact c
/-- a cell outside the reference's own fields, tape and words -/
theorem mT.fr {s u pl P : Nat → Int} {T : Int → Int} {n : Int} {k : Nat} {I I' : (Nat → Int → Int)} (h : mT s u pl P T n k I) (h0 : I' 99 = I 99) (h1 : I' 100 = I 100) (h2 : I' 101 = I 101) (h3 : I' 49 = I 49) : mT s u pl P T n k I' := by
  unfold mT GX at h ⊢; rw [h0, h1, h2, h3]; exact h
theorem t158 {d : Nat} {w : Nat × Nat × Nat × Nat} {I L : Nat → Int → Int} {s u pl P : Nat → Int} {K k : Nat} {T : Int → Int} {n : Int} (hC : TC s u pl P K T n) (hm : mT s u pl P T n k I) (hk : k < K) {Q : Option am_V → am_H → Prop} (q : ∀ I', TF I I' → mT s u pl P T n (k + 1) I' → Q none (mkH w I' L)) : am_Sp (d + 2) 158 [vR (some 99)] (mkH w I L) Q := by
  obtain ⟨c1, c2, c3, c4, c5⟩ := hC
  obtain ⟨a, b, c, e, f, g⟩ := hm
  obtain ⟨p0, kd, wh, tk⟩ := c5 (k + 1) (by omega)
  have tr := tk.tr
  refine s158 (i := P (k + 1)) c a e c4.2 p0 (by rw [b]; exact tk) (fun I' t x1 x2 x3 x4 => q I' t ⟨?_, ?_, ?_, x1, x4, ?_⟩)
  · rw [t.2 6 (by decide) (by decide) (by decide) (by decide)]; exact a
  · rw [t.1 100 (by decide)]; exact b
  · unfold GX at c ⊢; rw [t.1 49 (by decide), t.1 101 (by decide)]; exact c
  · rw [x2]
    by_cases k0 : kd = 0
    · have : s (k + 1) = 0 := by
        unfold TR at tr
        rcases tr with h | h | h | h | h | h | h
        · exact h.1
        all_goals omega
      exact Or.inl ⟨this, k0⟩
    · rw [x3 k0]; exact tr
/-! pure readers: fault (0: none), the token behind or at fault, what was read -/
def nmF (s u : Nat → Int) (k : Nat) (most : Int) : Int × Nat × Int := if s k = 3 then (if u k ≤ most then (0, k + 1, u k) else (2, k, 0)) else (1, k, 0)
def sgF (s u : Nat → Int) (k : Nat) (most : Int) : Int × Nat × Int := if s k = 45 then ((nmF s u (k + 1) most).1, (nmF s u (k + 1) most).2.1, -(nmF s u (k + 1) most).2.2) else nmF s u k most
def nnF (s u : Nat → Int) (f : Int → Int) (c : Nat) (k : Nat) : Int × Nat × Int := if s k = 2 then (if px_find f (u k) c 0 < 0 then (0, k + 1, u k) else (3, k, 0)) else (1, k, 0)
def onF (s u : Nat → Int) (f : Int → Int) (c : Nat) (k : Nat) : Int × Nat × Int := if s k = 2 then (if 0 ≤ px_find f (u k) c 0 then (0, k + 1, px_find f (u k) c 0) else (4, k, 0)) else (1, k, 0)
/-! the class -/
theorem s27 {d : Nat} {w : Nat × Nat × Nat × Nat} {I L : Nat → Int → Int} {s u pl : Nat → Int} {K k : Nat} {f : Int} (hT : cT s u pl K I) (hk : k ≤ K) (hK : K ≤ 700) (Q : Option am_V → am_H → Prop) : am_Sp d 27 [vR (some 44), vI f, vI (k : Int)] (mkH w I L) Q ↔ Q (some (vI 0)) (mkH w (am_up (am_up I 44 0 f) 44 1 (pl k)) L) := by
  rw [S27]
  simp (disch := omega) only [KP, B27_5, am_up_a, (hT k hk).2.2, B27_18, GA, GR, GRc, GO, GI, GL, GV, am_w_i, am_ga, am_it, am_if, true_and, and_true, or_true, true_or, ne_eq, not_false_eq_true, not_true_eq_false, false_imp_iff, true_imp_iff, Int.reduceEq, Int.reduceLT, Int.reduceLE, Int.reduceAdd, Int.reduceSub, Int.reduceMul, Int.reduceNeg]
theorem s31 {d : Nat} {w : Nat × Nat × Nat × Nat} {I L : Nat → Int → Int} {s u pl : Nat → Int} {K k : Nat} {most : Int} (hT : cT s u pl K I) (h3 : I 44 3 = k) (hk : k ≤ K) (hK : K ≤ 700) {Q : Option am_V → am_H → Prop} (q1 : ∀ I', CS I I' → (nmF s u k most).1 = 0 → I' 44 3 = ((nmF s u k most).2.1 : Int) → Q (some (vI (nmF s u k most).2.2)) (mkH w I' L)) (q2 : ∀ I', CF I I' → (nmF s u k most).1 ≠ 0 → I' 44 0 = (nmF s u k most).1 → I' 44 1 = pl (nmF s u k most).2.1 → Q (some (vI (-1))) (mkH w I' L)) : am_Sp (d + 1) 31 [vR (some 44), vI most] (mkH w I L) Q := by
  obtain ⟨t1, t2, t3⟩ := hT k hk
  rw [S31]
  by_cases c1 : s k = 3
  · by_cases c2 : u k ≤ most
    · have e : nmF s u k most = (0, k + 1, u k) := by unfold nmF; rw [if_pos c1, if_pos c2]
      rw [e] at q1
      have z := q1 (am_up I 44 3 ((k : Int) + 1)) (CS.rf.up (by decide)) rfl (by rw [am_up_s]; rfl)
      clear q1 q2
      have ek : (k : Int) + 1 - 1 = k := by omega
      first | (simp (disch := omega) only [KP, h3, t1, t2, c1, c2, B31_41, B31_68, am_up_s, am_up_a, ek, GA, GR, GRc, GO, GI, GL, GV, am_w_i, am_ga, am_it, am_if, true_and, and_true, or_true, true_or, ne_eq, not_false_eq_true, not_true_eq_false, false_imp_iff, true_imp_iff, Int.reduceEq, Int.reduceLT, Int.reduceLE, Int.reduceAdd, Int.reduceSub, Int.reduceMul, Int.reduceNeg]; exact z) | simp (disch := omega) only [KP, h3, t1, t2, c1, c2, B31_41, B31_68, am_up_s, am_up_a, ek, z, GA, GR, GRc, GO, GI, GL, GV, am_w_i, am_ga, am_it, am_if, true_and, and_true, or_true, true_or, ne_eq, not_false_eq_true, not_true_eq_false, false_imp_iff, true_imp_iff, Int.reduceEq, Int.reduceLT, Int.reduceLE, Int.reduceAdd, Int.reduceSub, Int.reduceMul, Int.reduceNeg]
    · have e : nmF s u k most = (2, k, 0) := by unfold nmF; rw [if_pos c1, if_neg c2]
      rw [e] at q2
      dsimp only at q2
      have z := q2 (am_up (am_up I 44 0 2) 44 1 (pl k)) ((CF.rf.up (by decide)).up (by decide)) (by decide) (by rw [am_up_n _ _ _ _ (by decide), am_up_s]) (am_up_s _ _ _ _)
      clear q1 q2
      first | (simp (disch := omega) only [KP, h3, t1, t2, c1, c2, B31_41, s27 hT hk hK, GA, GR, GRc, GO, GI, GL, GV, am_w_i, am_ga, am_it, am_if, true_and, and_true, or_true, true_or, ne_eq, not_false_eq_true, not_true_eq_false, false_imp_iff, true_imp_iff, Int.reduceEq, Int.reduceLT, Int.reduceLE, Int.reduceAdd, Int.reduceSub, Int.reduceMul, Int.reduceNeg]; exact z) | simp (disch := omega) only [KP, h3, t1, t2, c1, c2, B31_41, s27 hT hk hK, z, GA, GR, GRc, GO, GI, GL, GV, am_w_i, am_ga, am_it, am_if, true_and, and_true, or_true, true_or, ne_eq, not_false_eq_true, not_true_eq_false, false_imp_iff, true_imp_iff, Int.reduceEq, Int.reduceLT, Int.reduceLE, Int.reduceAdd, Int.reduceSub, Int.reduceMul, Int.reduceNeg]
  · have e : nmF s u k most = (1, k, 0) := by unfold nmF; rw [if_neg c1]
    rw [e] at q2
    dsimp only at q2
    have z := q2 (am_up (am_up I 44 0 1) 44 1 (pl k)) ((CF.rf.up (by decide)).up (by decide)) (by decide) (by rw [am_up_n _ _ _ _ (by decide), am_up_s]) (am_up_s _ _ _ _)
    clear q1 q2
    first | (simp (disch := omega) only [KP, h3, t1, c1, B31_41, s27 hT hk hK, GA, GR, GRc, GO, GI, GL, GV, am_w_i, am_ga, am_it, am_if, true_and, and_true, or_true, true_or, ne_eq, not_false_eq_true, not_true_eq_false, false_imp_iff, true_imp_iff, Int.reduceEq, Int.reduceLT, Int.reduceLE, Int.reduceAdd, Int.reduceSub, Int.reduceMul, Int.reduceNeg]; exact z) | simp (disch := omega) only [KP, h3, t1, c1, B31_41, s27 hT hk hK, z, GA, GR, GRc, GO, GI, GL, GV, am_w_i, am_ga, am_it, am_if, true_and, and_true, or_true, true_or, ne_eq, not_false_eq_true, not_true_eq_false, false_imp_iff, true_imp_iff, Int.reduceEq, Int.reduceLT, Int.reduceLE, Int.reduceAdd, Int.reduceSub, Int.reduceMul, Int.reduceNeg]
theorem nmF_b {s u : Nat → Int} {k : Nat} {most : Int} (h : (nmF s u k most).1 = 0) : s k = 3 ∧ (nmF s u k most).2.1 = k + 1 ∧ (nmF s u k most).2.2 = u k ∧ u k ≤ most := by
  unfold nmF at h ⊢
  by_cases c1 : s k = 3
  · rw [if_pos c1] at h ⊢
    by_cases c2 : u k ≤ most
    · rw [if_pos c2]; exact ⟨c1, rfl, rfl, c2⟩
    · rw [if_neg c2] at h; simp at h
  · rw [if_neg c1] at h; simp at h
