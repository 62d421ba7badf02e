/-! one step, in two algebras of results at once -/
section
variable {ρ σ : Type} (Rl : ρ → σ → Prop) {b1 : ρ} {b2 : σ}
theorem am_pI_rel (hb : Rl b1 b2) {S : List am_V} {k1 : Int → List am_V → ρ} {k2 : Int → List am_V → σ} (h : ∀ x S', Rl (k1 x S') (k2 x S')) : Rl (am_pI b1 S k1) (am_pI b2 S k2) := by
  unfold am_pI; split
  · exact h _ _
  · exact hb
theorem am_pL_rel (hb : Rl b1 b2) {S : List am_V} {k1 : Int → List am_V → ρ} {k2 : Int → List am_V → σ} (h : ∀ x S', Rl (k1 x S') (k2 x S')) : Rl (am_pL b1 S k1) (am_pL b2 S k2) := by
  unfold am_pL; split
  · exact h _ _
  · exact hb
theorem am_pR_rel (hb : Rl b1 b2) {S : List am_V} {k1 : Option Nat → List am_V → ρ} {k2 : Option Nat → List am_V → σ} (h : ∀ x S', Rl (k1 x S') (k2 x S')) : Rl (am_pR b1 S k1) (am_pR b2 S k2) := by
  unfold am_pR; split
  · exact h _ _
  · exact hb
theorem am_pS_rel (hb : Rl b1 b2) {S : List am_V} {k1 : Nat → List am_V → ρ} {k2 : Nat → List am_V → σ} (h : ∀ x S', Rl (k1 x S') (k2 x S')) : Rl (am_pS b1 S k1) (am_pS b2 S k2) := by
  unfold am_pS; split
  · exact h _ _
  · exact hb
theorem am_gI_rel (hb : Rl b1 b2) {r : Option am_V} {k1 : Int → ρ} {k2 : Int → σ} (h : ∀ x, Rl (k1 x) (k2 x)) : Rl (am_gI b1 r k1) (am_gI b2 r k2) := by
  unfold am_gI; split
  · exact h _
  · exact hb
theorem am_gL_rel (hb : Rl b1 b2) {r : Option am_V} {k1 : Int → ρ} {k2 : Int → σ} (h : ∀ x, Rl (k1 x) (k2 x)) : Rl (am_gL b1 r k1) (am_gL b2 r k2) := by
  unfold am_gL; split
  · exact h _
  · exact hb
theorem am_gR_rel (hb : Rl b1 b2) {r : Option am_V} {k1 : Option Nat → ρ} {k2 : Option Nat → σ} (h : ∀ x, Rl (k1 x) (k2 x)) : Rl (am_gR b1 r k1) (am_gR b2 r k2) := by
  unfold am_gR; split
  · exact h _
  · exact hb
theorem am_gV_rel (hb : Rl b1 b2) {r : Option am_V} {k1 : ρ} {k2 : σ} (h : Rl k1 k2) : Rl (am_gV b1 r k1) (am_gV b2 r k2) := by
  unfold am_gV; split
  · exact h
  · exact hb
theorem am_op_rel (hb : Rl b1 b2) {r : Option Nat} {k1 : Nat → ρ} {k2 : Nat → σ} (h : ∀ x, Rl (k1 x) (k2 x)) : Rl (am_op b1 r k1) (am_op b2 r k2) := by
  unfold am_op; split
  · exact h _
  · exact hb
theorem am_rk_rel (hb : Rl b1 b2) {rk : Nat} {r : Option am_V} {k1 : List am_V → ρ} {k2 : List am_V → σ} (h : ∀ x, Rl (k1 x) (k2 x)) : Rl (am_rk b1 rk r k1) (am_rk b2 rk r k2) := by
  unfold am_rk; split
  · exact am_gV_rel Rl hb (h _)
  · exact am_gI_rel Rl hb (fun _ => h _)
  · exact am_gL_rel Rl hb (fun _ => h _)
  · exact am_gR_rel Rl hb (fun _ => h _)
theorem am_cond_rel (hb : Rl b1 b2) {c : Bool} {k1 : ρ} {k2 : σ} (h : Rl k1 k2) : Rl (bif c then k1 else b1) (bif c then k2 else b2) := by
  cases c
  · exact hb
  · exact h
theorem am_sw_rel {r1 : (c : Prop) → Decidable c → ρ → ρ → ρ} {r2 : (c : Prop) → Decidable c → σ → σ → σ} (hr : ∀ c dc x y x' y', Rl x y → Rl x' y' → Rl (r1 c dc x x') (r2 c dc y y')) {x : Int} {d1 : ρ} {d2 : σ} {f1 : Nat → ρ} {f2 : Nat → σ} (hd : Rl d1 d2) (hf : ∀ t, Rl (f1 t) (f2 t)) :
    ∀ (ks : List Int) (ts : List Nat), Rl (am_sw r1 x d1 f1 ks ts) (am_sw r2 x d2 f2 ks ts)
  | [], _ => by unfold am_sw; exact hd
  | _ :: _, [] => by unfold am_sw; exact hd
  | k :: ks, t :: ts => by unfold am_sw; exact hr _ _ _ _ _ _ (hf t) (am_sw_rel hr hd hf ks ts)
theorem am_bv_rel {g1 : (c : Prop) → Decidable c → ρ → ρ} {g2 : (c : Prop) → Decidable c → σ → σ} (hg : ∀ c dc x y, Rl x y → Rl (g1 c dc x) (g2 c dc y)) {ty : Nat} {v : Int} {x : ρ} {y : σ} (h : Rl x y) : Rl (am_bv g1 ty v x) (am_bv g2 ty v y) := by
  unfold am_bv; split
  · exact hg _ _ _ _ h
  · exact h
set_option maxHeartbeats 4000000 in
theorem am_st_rel {g1 : (c : Prop) → Decidable c → ρ → ρ} {g2 : (c : Prop) → Decidable c → σ → σ} {r1 : (c : Prop) → Decidable c → ρ → ρ → ρ} {r2 : (c : Prop) → Decidable c → σ → σ → σ} (hb : Rl b1 b2) (hg : ∀ c dc x y, Rl x y → Rl (g1 c dc x) (g2 c dc y)) (hr : ∀ c dc x y x' y', Rl x y → Rl x' y' → Rl (r1 c dc x x') (r2 c dc y y'))
    (e : Instr) (len : Nat) (dn : List Nat) (di : List Int) (pc : Nat) (L : List (Option am_V)) (S : List am_V) (h : am_H)
    {n1 : Nat → List (Option am_V) → List am_V → am_H → ρ} {n2 : Nat → List (Option am_V) → List am_V → am_H → σ} {t1 : Option am_V → am_H → ρ} {t2 : Option am_V → am_H → σ} {c1 : Nat → List am_V → (Option am_V → am_H → ρ) → ρ} {c2 : Nat → List am_V → (Option am_V → am_H → σ) → σ}
    (hn : ∀ pc L S h, Rl (n1 pc L S h) (n2 pc L S h)) (ht : ∀ r h, Rl (t1 r h) (t2 r h)) (hc : ∀ j as k1 k2, (∀ r h, Rl (k1 r h) (k2 r h)) → Rl (c1 j as k1) (c2 j as k2)) :
    Rl (am_st b1 g1 r1 e len dn di pc L S h n1 t1 c1) (am_st b2 g2 r2 e len dn di pc L S h n2 t2 c2) := by
  unfold am_st
  split
  all_goals repeat' (first
    | exact hb
    | exact hn _ _ _ _
    | exact ht _ _
    | refine am_pI_rel Rl hb (fun _ _ => ?_)
    | refine am_pL_rel Rl hb (fun _ _ => ?_)
    | refine am_pR_rel Rl hb (fun _ _ => ?_)
    | refine am_pS_rel Rl hb (fun _ _ => ?_)
    | refine am_gI_rel Rl hb (fun _ => ?_)
    | refine am_gL_rel Rl hb (fun _ => ?_)
    | refine am_gR_rel Rl hb (fun _ => ?_)
    | refine am_op_rel Rl hb (fun _ => ?_)
    | refine am_rk_rel Rl hb (fun _ => ?_)
    | refine am_bv_rel Rl hg ?_
    | refine hg _ _ _ _ ?_
    | refine hr _ _ _ _ _ _ ?_ ?_
    | refine am_sw_rel Rl hr ?_ (fun _ => ?_) _ _
    | refine am_cond_rel Rl hb ?_
    | refine hc _ _ _ _ (fun _ _ => ?_)
    | split)
end
theorem am_run_mono1 : ∀ (n d i pc : Nat) (L : List (Option am_V)) (S : List am_V) (h : am_H) (x : Option am_V × am_H), am_run n d i pc L S h = some x → am_run (n + 1) d i pc L S h = some x
  | 0, d, i, pc, L, S, h, x => by intro q; simp [am_run] at q
  | n + 1, d, i, pc, L, S, h, x => by
    intro hx
    have ih := am_run_mono1 n
    rw [am_run] at hx ⊢
    cases ht : am_tb i pc with
    | none => rw [ht] at hx; simp at hx
    | some q =>
      obtain ⟨e, len, dn, di⟩ := q
      rw [ht] at hx
      revert hx
      refine am_st_rel (fun (o1 o2 : Option (Option am_V × am_H)) => o1 = some x → o2 = some x) (fun q => q) ?_ ?_ e len dn di pc L S h ?_ ?_ ?_
      · intro c dc u v q w
        split at w
        · rename_i hc; rw [if_pos hc]; exact q w
        · simp at w
      · intro c dc u v u' v' q q' w
        split at w
        · rename_i hc; rw [if_pos hc]; exact q w
        · rename_i hc; rw [if_neg hc]; exact q' w
      · intro pc L S h w; exact ih _ _ _ _ _ _ _ w
      · intro r h w; exact w
      · intro j as k1 k2 q w
        cases d with
        | zero => simp at w
        | succ d =>
          dsimp only at w ⊢
          cases hr : am_run n d j 0 (am_en j as) [] h with
          | none => rw [hr] at w; simp at w
          | some z =>
            rw [hr] at w
            rw [ih _ _ _ _ _ _ _ hr]
            exact q _ _ w
theorem am_run_mono {n m : Nat} (hnm : n ≤ m) {d i pc : Nat} {L : List (Option am_V)} {S : List am_V} {h : am_H} {x : Option am_V × am_H} (hx : am_run n d i pc L S h = some x) : am_run m d i pc L S h = some x := by
  induction hnm with
  | refl => exact hx
  | step _ ih => exact am_run_mono1 _ _ _ _ _ _ _ _ ih
def am_one (d i pc : Nat) (L : List (Option am_V)) (S : List am_V) (h : am_H) (Q : Option am_V → am_H → Prop) : Prop := match am_tb i pc with
  | none => False
  | some (e, len, dn, di) => am_st False am_gd am_br e len dn di pc L S h (fun pc' L' S' h' => am_WP d i pc' L' S' h' Q) Q (fun j args k => am_ca d j args h k)
theorem am_WP_one {d i pc : Nat} {L : List (Option am_V)} {S : List am_V} {h : am_H} {Q : Option am_V → am_H → Prop} (w : am_WP d i pc L S h Q) : am_one d i pc L S h Q := by
  obtain ⟨n, r, h', hr, hq⟩ := w
  cases n with
  | zero => simp [am_run] at hr
  | succ n =>
    rw [am_run] at hr
    unfold am_one
    cases ht : am_tb i pc with
    | none => rw [ht] at hr; simp at hr
    | some q =>
      obtain ⟨e, len, dn, di⟩ := q
      rw [ht] at hr
      revert hr
      refine am_st_rel (fun (o1 : Option (Option am_V × am_H)) (P : Prop) => o1 = some (r, h') → P) (fun q => by simp at q) ?_ ?_ e len dn di pc L S h ?_ ?_ ?_
      · intro c dc u v q w
        split at w
        · rename_i hc; exact ⟨hc, q w⟩
        · simp at w
      · intro c dc u v u' v' q q' w
        split at w
        · rename_i hc; exact ⟨fun _ => q w, fun k => absurd hc k⟩
        · rename_i hc; exact ⟨fun k => absurd k hc, fun _ => q' w⟩
      · intro pc L S h w; exact ⟨n, r, h', w, hq⟩
      · intro r1 h1 w
        simp only [Option.some.injEq, Prod.mk.injEq] at w
        rw [w.1, w.2]; exact hq
      · intro j as k1 k2 q w
        cases d with
        | zero => simp at w
        | succ d =>
          dsimp only at w ⊢
          cases hr : am_run n d j 0 (am_en j as) [] h with
          | none => rw [hr] at w; simp at w
          | some z =>
            rw [hr] at w
            exact ⟨n, z.1, z.2, hr, q _ _ w⟩
theorem am_one_WP {d i pc : Nat} {L : List (Option am_V)} {S : List am_V} {h : am_H} {Q : Option am_V → am_H → Prop} (w : am_one d i pc L S h Q) : am_WP d i pc L S h Q := by
  unfold am_one at w
  cases ht : am_tb i pc with
  | none => rw [ht] at w; exact w.elim
  | some q =>
    obtain ⟨e, len, dn, di⟩ := q
    rw [ht] at w
    have key := am_st_rel (fun (P : Prop) (o : Nat → Option (Option am_V × am_H)) => (P → ∃ n x, o n = some x ∧ Q x.1 x.2) ∧ ∀ n m x, n ≤ m → o n = some x → o m = some x)
      (b1 := False) (b2 := fun _ => none) (g1 := am_gd) (g2 := fun c _ o => fun n => if c then o n else none) (r1 := am_br) (r2 := fun c _ o o' => fun n => if c then o n else o' n)
      ⟨fun q => q.elim, fun n m x _ q => by simp at q⟩
      (by
        intro c dc u v q
        refine ⟨fun w => ?_, fun n m x hnm w => ?_⟩
        · obtain ⟨n, x, a, b⟩ := q.1 w.2
          exact ⟨n, x, by simp only [if_pos w.1]; exact a, b⟩
        · by_cases hc : c
          · simp only [if_pos hc] at w ⊢; exact q.2 n m x hnm w
          · simp only [if_neg hc] at w; simp at w)
      (by
        intro c dc u v u' v' q q'
        refine ⟨fun w => ?_, fun n m x hnm w => ?_⟩
        · by_cases hc : c
          · obtain ⟨n, x, a, b⟩ := q.1 (w.1 hc)
            exact ⟨n, x, by simp only [if_pos hc]; exact a, b⟩
          · obtain ⟨n, x, a, b⟩ := q'.1 (w.2 hc)
            exact ⟨n, x, by simp only [if_neg hc]; exact a, b⟩
        · by_cases hc : c
          · simp only [if_pos hc] at w ⊢; exact q.2 n m x hnm w
          · simp only [if_neg hc] at w ⊢; exact q'.2 n m x hnm w)
      e len dn di pc L S h
      (n1 := fun pc' L' S' h' => am_WP d i pc' L' S' h' Q) (n2 := fun pc' L' S' h' => fun n => am_run n d i pc' L' S' h')
      (t1 := Q) (t2 := fun r h => fun _ => some (r, h))
      (c1 := fun j args k => am_ca d j args h k)
      (c2 := fun j args k => fun n => match d with
        | 0 => none
        | d + 1 => match am_run n d j 0 (am_en j args) [] h with
          | none => none
          | some (r, h') => k r h' n)
      (fun pc L S h => ⟨fun ⟨n, r, h', a, b⟩ => ⟨n, (r, h'), a, b⟩, fun n m x hnm w => am_run_mono hnm w⟩)
      (fun r h => ⟨fun w => ⟨0, (r, h), rfl, w⟩, fun n m x _ w => w⟩)
      (by
        intro j as k1 k2 q
        cases d with
        | zero => exact ⟨fun w => w.elim, fun n m x _ w => by simp at w⟩
        | succ d =>
          refine ⟨fun ⟨n, r, h', a, b⟩ => ?_, fun n m x hnm w => ?_⟩
          · obtain ⟨m, x, c1, c2⟩ := (q r h').1 b
            refine ⟨max n m, x, ?_, c2⟩
            dsimp only
            rw [am_run_mono (Nat.le_max_left n m) a]
            exact (q r h').2 m _ x (Nat.le_max_right n m) c1
          · dsimp only at w ⊢
            cases hr : am_run n d j 0 (am_en j as) [] h with
            | none => rw [hr] at w; simp at w
            | some z =>
              rw [hr] at w
              rw [am_run_mono hnm hr]
              exact (q _ _).2 n m x hnm w)
    obtain ⟨n, x, a, b⟩ := key.1 w
    refine ⟨n + 1, x.1, x.2, ?_, b⟩
    rw [am_run, ht]
    rw [← a]
    refine Eq.symm (am_st_rel (fun (o : Nat → Option (Option am_V × am_H)) (o' : Option (Option am_V × am_H)) => o n = o') rfl ?_ ?_ e len dn di pc L S h (fun _ _ _ _ => rfl) (fun _ _ => rfl) ?_)
    · intro c dc u v q; show (if c then u n else none) = _; rw [show u n = v from q]
    · intro c dc u v u' v' q q'; show (if c then u n else u' n) = _; rw [show u n = v from q, show u' n = v' from q']
    · intro j as k1 k2 q
      cases d with
      | zero => rfl
      | succ d =>
        dsimp only
        cases hr : am_run n d j 0 (am_en j as) [] h with
        | none => rfl
        | some z => exact q _ _
theorem am_vc_iff (cuts : List Nat) (d i : Nat) (Q : Option am_V → am_H → Prop) : ∀ (n pc : Nat) (L : List (Option am_V)) (S : List am_V) (h : am_H), am_WP d i pc L S h Q ↔ am_vc cuts d i Q n pc L S h
  | 0, pc, L, S, h => Iff.rfl
  | n + 1, pc, L, S, h => by
    refine (show am_WP d i pc L S h Q ↔ am_one d i pc L S h Q from ⟨am_WP_one, am_one_WP⟩).trans ?_
    have ih := am_vc_iff cuts d i Q n
    unfold am_one am_vc
    cases ht : am_tb i pc with
    | none => exact Iff.rfl
    | some q =>
      obtain ⟨e, len, dn, di⟩ := q
      refine am_st_rel (fun (P P' : Prop) => P ↔ P') Iff.rfl ?_ ?_ e len dn di pc L S h ?_ (fun _ _ => Iff.rfl) ?_
      · intro c dc u v q; exact and_congr_right fun _ => q
      · intro c dc u v u' v' q q'; exact and_congr (imp_congr Iff.rfl q) (imp_congr Iff.rfl q')
      · intro pc L S h
        cases cuts.any (Nat.beq pc)
        · exact ih _ _ _ _
        · exact Iff.rfl
      · intro j as k1 k2 q
        have e : k1 = k2 := funext fun r => funext fun h => propext (q r h)
        rw [e]
theorem am_WP_mono {d i pc : Nat} {L : List (Option am_V)} {S : List am_V} {h : am_H} {Q Q' : Option am_V → am_H → Prop} (w : am_WP d i pc L S h Q) (q : ∀ r h', Q r h' → Q' r h') : am_WP d i pc L S h Q' := by
  obtain ⟨n, r, h', a, b⟩ := w
  exact ⟨n, r, h', a, q _ _ b⟩
theorem am_Sp_mono {d j : Nat} {args : List am_V} {h : am_H} {Q Q' : Option am_V → am_H → Prop} (w : am_Sp d j args h Q) (q : ∀ r h', Q r h' → Q' r h') : am_Sp d j args h Q' := am_WP_mono w q
