/-! 41: the reference: laws, names, how far apart -/
def px_mr (kn pa ot nm : Int → Int) (a : Int) : Nat → Bool × (Int → Int)
  | 0 => (false, fun _ => 0)
  | m + 1 => ((px_mo (kn (a + m)) (pa (a + m)) (ot (a + m)) nm (px_mr kn pa ot nm a m)).1, px_up (px_mr kn pa ot nm a m).2 (a + m) (px_mo (kn (a + m)) (pa (a + m)) (ot (a + m)) nm (px_mr kn pa ot nm a m)).2)
def px_mval (kn pa ot nm : Int → Int) (a : Int) (m : Nat) : Int := if (px_mr kn pa ot nm a m).1 = true then mE else (px_mr kn pa ot nm a m).2 (a + m - 1)
theorem px_mk_b {k a b : Int} {e : Bool} (ha : -lT ≤ a ∧ a ≤ lT) (hb : -lT ≤ b ∧ b ≤ lT) : -lT ≤ (px_mk k a b e).2 ∧ (px_mk k a b e).2 ≤ lT := by
  have z : -lT ≤ 0 ∧ (0 : Int) ≤ lT := by unfold lT; omega
  have o : -lT ≤ 1 ∧ (1 : Int) ≤ lT := by unfold lT; omega
  have bd : ∀ v, -lT ≤ (if px_bd e v = true then 0 else v) ∧ (if px_bd e v = true then 0 else v) ≤ lT := by
    intro v; split
    · exact z
    · rename_i h
      unfold px_bd at h
      have h2 : ¬ (lT < v ∨ v < -lT) := fun q => h (by rw [decide_eq_true q]; simp)
      omega
  unfold px_mk
  split
  · dsimp only; split
    · exact z
    · split
      · exact z
      · exact o
  · split
    · dsimp only; split
      · split
        · exact z
        · exact o
      · exact o
    · split
      · exact bd _
      · split
        · exact bd _
        · split
          · dsimp only; split
            · exact z
            · rename_i h
              have hf : px_much a b = false := by cases h2 : px_much a b; rfl; exact absurd (by rw [h2]; simp) h
              by_cases a0 : a = 0
              · subst a0; rw [Int.zero_mul]; exact z
              · by_cases b0 : b = 0
                · subst b0; rw [Int.mul_zero]; exact z
                · refine px_mul_b ?_
                  unfold px_much at hf
                  have := of_decide_eq_false hf
                  exact Int.not_lt.mp (fun q => this ⟨a0, b0, q⟩)
          · split
            · dsimp only; split
              · exact z
              · exact tdiv_b ha
            · rcases px_cmp_01 k a b with h | h <;> simp only [h]
              · exact z
              · exact o
theorem px_mo_b {k p o a i : Int} {nm : Int → Int} {x : Bool × (Int → Int)} (hk : px_okk k p o a i) (hn : nmb nm) (hx : ∀ j, a ≤ j → j < i → -lT ≤ x.2 j ∧ x.2 j ≤ lT) : -lT ≤ (px_mo k p o nm x).2 ∧ (px_mo k p o nm x).2 ≤ lT := by
  obtain ⟨k1, k2, k3, k4, k5⟩ := hk
  unfold px_mo
  split
  · rename_i h; have := k2 h; unfold lT; dsimp only; omega
  · split
    · rename_i h; have q := k3 h; have := hn p q.1 q.2; unfold lT; dsimp only; omega
    · split
      · dsimp only; split <;> (unfold lT; omega)
      · have q4 := k4 (by omega); have q5 := k5 (by omega)
        exact px_mk_b (hx _ q4.1 q4.2) (hx _ q5.1 q5.2)
/-- a law of the reference -/
def MLl (I : (Nat → Int → Int)) (lw : Int → (Int → Int) → Int) (l : Int) : Prop := (I 117 l = 0 ∧ ∀ nm, lw l nm = mE) ∨ (I 117 l = 1 ∧ ∃ m : Nat, 1 ≤ m ∧ 0 ≤ I 118 l ∧ I 119 l = I 118 l + m ∧ I 119 l ≤ 64 ∧ (∀ j, I 118 l ≤ j → j < I 119 l → px_okk (I 120 j) (I 121 j) (I 122 j) (I 118 l) j) ∧ ∀ nm, nmb nm → px_mval (I 120) (I 121) (I 122) nm (I 118 l) m = lw l nm)
def ML (I : (Nat → Int → Int)) (lw : Int → (Int → Int) → Int) : Prop := ∀ l, 0 ≤ l → l < 3 → MLl I lw l
theorem s208 {d : Nat} {w : Nat × Nat × Nat × Nat} {I L : Nat → Int → Int} {m : Nat} {l : Int} {nm : Int → Int} (hl : 0 ≤ l ∧ l < 3) (h1 : 1 ≤ m) (h0 : 0 ≤ I 118 l) (hm : I 119 l = I 118 l + m) (h64 : I 119 l ≤ 64) (hr : ∀ j, I 118 l ≤ j → j < I 119 l → px_okk (I 120 j) (I 121 j) (I 122 j) (I 118 l) j) (hn : ∀ j, 0 ≤ j → j < 7 → L 125 j = nm j) (hb : nmb nm) {Q : Option am_V → am_H → Prop} (q : ∀ L', Fr (fun a => a = 126) L L' → ∀ v, (px_mr (I 120) (I 121) (I 122) nm (I 118 l) m).1 = false → v = (px_mr (I 120) (I 121) (I 122) nm (I 118 l) m).2 (I 118 l + m - 1) → (-lT ≤ v ∧ v ≤ lT) → Q (some (vL v)) (mkH w (am_up I 99 53 0) L'))
    (q2 : ∀ L', Fr (fun a => a = 126) L L' → (px_mr (I 120) (I 121) (I 122) nm (I 118 l) m).1 = true → Q (some (vL 0)) (mkH w (am_up I 99 53 1) L')) : am_Sp (d + 3) 208 [vR (some 99), vI l] (mkH w I L) Q := by
  rw [S208]
  simp (disch := omega) only [Kk, B208_5, Kl, am_up_a, GA, GR, GRc, GO, GI, GL, GV, am_w_i, am_ga, am_it, am_if, true_and, and_true, or_true, true_or, ne_eq, not_false_eq_true, not_true_eq_false, false_imp_iff, true_imp_iff, Int.reduceEq, Int.reduceLT, Int.reduceLE, Int.reduceAdd, Int.reduceSub, Int.reduceMul, Int.reduceNeg]
  have key := am_loop (α := (Nat → Int → Int)) m (fun i L1 => am_WP (d + 3) 208 12 [some (vR (some 99)), some (vI l), some (vI (I 118 l + i))] [] (mkH w (am_up I 99 53 (bi (px_mr (I 120) (I 121) (I 122) nm (I 118 l) i).1)) L1) Q) (fun i L1 => Fr (fun a => a = 126) L L1 ∧ ∀ j, I 118 l ≤ j → j < I 118 l + i → L1 126 j = (px_mr (I 120) (I 121) (I 122) nm (I 118 l) i).2 j ∧ -lT ≤ (px_mr (I 120) (I 121) (I 122) nm (I 118 l) i).2 j ∧ (px_mr (I 120) (I 121) (I 122) nm (I 118 l) i).2 j ≤ lT) ?_ ?_ 0 L (Nat.zero_le _) ⟨Fr.rf, fun j j0 j1 => by omega⟩
  · have e : bi (px_mr (I 120) (I 121) (I 122) nm (I 118 l) 0).1 = 0 := rfl
    rw [e] at key
    simpa using key
  · intro i L1 hi ⟨f1, hv⟩ ih
    have hk := hr (I 118 l + i) (by omega) (by omega)
    rw [B208_12]
    simp (disch := omega) only [Kk, Kl, Kv, am_up_a, GA, GR, GRc, GO, GI, GL, GV, am_w_i, am_ga, am_it, am_if, true_and, and_true, or_true, true_or, ne_eq, not_false_eq_true, not_true_eq_false, false_imp_iff, true_imp_iff, Int.reduceEq, Int.reduceLT, Int.reduceLE, Int.reduceAdd, Int.reduceSub, Int.reduceMul, Int.reduceNeg]
    have sp := fun Q' => s194 (d := d) (w := w) (I := am_up I 99 53 (bi (px_mr (I 120) (I 121) (I 122) nm (I 118 l) i).1)) (L := L1) (x := px_mr (I 120) (I 121) (I 122) nm (I 118 l) i) (nm := nm) (a := I 118 l) (i := I 118 l + i) h0 ⟨by omega, by omega⟩ (by rw [am_up_a _ _ _ _ (by decide), am_up_a _ _ _ _ (by decide), am_up_a _ _ _ _ (by decide)]; exact hk) hv (fun j j0 j1 => by rw [f1 125 (by decide)]; exact hn j j0 j1) (am_up_s _ _ _ _) Q'
    rw [sp]
    simp (disch := omega) only [am_up_a]
    simp (disch := omega) only [Kk, Kv, B208_33, GA, GR, GRc, GO, GI, GL, GV, am_w_i, am_ga, am_it, am_if, true_and, and_true, or_true, true_or, ne_eq, not_false_eq_true, not_true_eq_false, false_imp_iff, true_imp_iff, Int.reduceEq, Int.reduceLT, Int.reduceLE, Int.reduceAdd, Int.reduceSub, Int.reduceMul, Int.reduceNeg]
    have up2 : ∀ (J : (Nat → Int → Int)) (v v' : Int), am_up (am_up J 99 53 v) 99 53 v' = am_up J 99 53 v' := by
      intro J v v'; funext a j; unfold am_up; split <;> simp_all
    rw [up2]
    have hmo := px_mo_b (x := px_mr (I 120) (I 121) (I 122) nm (I 118 l) i) hk hb (fun j j0 j1 => (hv j j0 j1).2)
    have := ih (am_up L1 126 (I 118 l + i) (px_mo (I 120 (I 118 l + i)) (I 121 (I 118 l + i)) (I 122 (I 118 l + i)) nm (px_mr (I 120) (I 121) (I 122) nm (I 118 l) i)).2) ⟨f1.up rfl, fun j j0 j1 => ?_⟩
    · have e2 : I 118 l + ((i + 1 : Nat) : Int) = I 118 l + i + 1 := by omega
      rw [e2] at this
      exact this
    · show am_up L1 126 (I 118 l + i) _ 126 j = px_up (px_mr (I 120) (I 121) (I 122) nm (I 118 l) i).2 (I 118 l + i) _ j ∧ -lT ≤ px_up (px_mr (I 120) (I 121) (I 122) nm (I 118 l) i).2 (I 118 l + i) _ j ∧ px_up (px_mr (I 120) (I 121) (I 122) nm (I 118 l) i).2 (I 118 l + i) _ j ≤ lT
      unfold px_up
      by_cases z : j = I 118 l + i
      · subst z; rw [am_up_s, if_pos rfl]; exact ⟨rfl, hmo⟩
      · rw [am_up_n _ _ _ _ z, if_neg z]; exact hv j j0 (by omega)
  · intro L1 ⟨f1, hv⟩
    rw [B208_12]
    cases he : (px_mr (I 120) (I 121) (I 122) nm (I 118 l) m).1
    · have : bi false = 0 := rfl
      simp (disch := omega) only [Kk, Kl, Kv, am_up_a, am_up_s, this, B208_63, GA, GR, GRc, GO, GI, GL, GV, am_w_i, am_ga, am_it, am_if, true_and, and_true, or_true, true_or, ne_eq, not_false_eq_true, not_true_eq_false, false_imp_iff, true_imp_iff, Int.reduceEq, Int.reduceLT, Int.reduceLE, Int.reduceAdd, Int.reduceSub, Int.reduceMul, Int.reduceNeg]
      have vv := hv (I 118 l + m - 1) (by omega) (by omega)
      rw [hm]
      rw [vv.1]
      exact q L1 f1 _ he rfl vv.2
    · have : bi true = 1 := rfl
      simp (disch := omega) only [Kk, Kl, Kv, am_up_a, am_up_s, this, B208_63, GA, GR, GRc, GO, GI, GL, GV, am_w_i, am_ga, am_it, am_if, true_and, and_true, or_true, true_or, ne_eq, not_false_eq_true, not_true_eq_false, false_imp_iff, true_imp_iff, Int.reduceEq, Int.reduceLT, Int.reduceLE, Int.reduceAdd, Int.reduceSub, Int.reduceMul, Int.reduceNeg]
      exact q2 L1 f1 he
