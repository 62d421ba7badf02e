/-! b1: what the constructors leave -/
theorem cz_ctor : ∃ h1 h3 : am_H, am_run 20000 20 86 0 (am_en 86 [vR (some 0)]) [] cz_h0 = some (none, h1) ∧ h1.1 = (true, cz_sh.take 99) ∧ am_run 20000 20 150 0 (am_en 150 [vR (some 99)]) [] (am_nw h1 11 80) = some (none, h3) ∧ h3.1 = (true, cz_sh) ∧ cz_ck h3 = true := by
  obtain ⟨h1, e1, t1⟩ := cz_on_s cz_t1
  rw [Bool.and_eq_true] at t1
  obtain ⟨h3, e3, t3⟩ := cz_on_s t1.2
  rw [Bool.and_eq_true] at t3
  exact ⟨h1, h3, e1, of_decide_eq_true t1.1, e3, of_decide_eq_true t3.1, t3.2⟩
theorem cz_cv_s {h : am_H} {a : Nat} {v : Int} : ∀ {n : Nat}, cz_cv h a v n = true → ∀ j : Int, 0 ≤ j → j < n → h.2.1 a j = v
  | 0, _, j, h0, h1 => by omega
  | n + 1, e, j, h0, h1 => by
    rw [cz_cv, Bool.and_eq_true] at e
    by_cases c : j = n
    · subst c; exact of_decide_eq_true e.1
    · exact cz_cv_s e.2 j h0 (by omega)
theorem cz_cl2_s {h : am_H} {a : Nat} : ∀ {l : List Int} {k : Nat}, cz_cl2 h a l k = true → ∀ j : Nat, j < l.length → h.2.1 a ((k + j : Nat) : Int) = l.getD j 0
  | [], k, _, j, hj => by simp at hj
  | v :: t, k, e, j, hj => by
    rw [cz_cl2, Bool.and_eq_true] at e
    cases j with
    | zero => exact of_decide_eq_true e.1
    | succ j =>
      have := cz_cl2_s e.2 j (by simp at hj; omega)
      rw [show k + (j + 1) = k + 1 + j by omega]; exact this
def cz_V0 : (Nat → Int → Int) := fun _ _ => 0
def cz_l0 : (Int → (Int → Int) → Int) := fun _ _ => mE
set_option maxRecDepth 4000 in
theorem cz_gg {h : am_H} (hc : cz_ck h = true) : GG cz_w0 h.2.1 h.2.2.1 := by
  unfold cz_ck at hc
  rw [Bool.and_eq_true, Bool.and_eq_true, Bool.and_eq_true, Bool.and_eq_true, Bool.and_eq_true] at hc
  obtain ⟨⟨⟨⟨s, r⟩, w1, w2⟩, l⟩, -⟩ := hc
  generalize h.2.2.1 = L at l
  have s := fun q hq => of_decide_eq_true (List.all_eq_true.mp s q hq)
  have r := fun q hq => cz_cv_s (List.all_eq_true.mp r q hq)
  have w1 := cz_cl2_s w1
  have w2 := cz_cl2_s w2
  have l := of_decide_eq_true l
  generalize h.2.1 = I at s r w1 w2
  have S : ∀ a j v, (a, j, v) ∈ cz_sg → I a (j : Nat) = v := fun a j v hm => s (a, j, v) hm
  have R : ∀ a n v, (a, n, v) ∈ cz_rw → ∀ j : Int, 0 ≤ j → j < (n : Nat) → I a j = v := fun a n v hm => r (a, n, v) hm
  have wv : WV cz_V0 := by
    unfold WV cz_V0
    exact ⟨by decide, fun k k0 k1 => by omega, fun k k0 k1 => by omega, fun k k0 k1 => by omega, fun k _ _ => by decide, fun k _ _ => by decide, by decide⟩
  refine ⟨cz_V0, cz_l0, px_beg cz_V0, 0, 0, -1, ⟨⟨⟨Or.inl rfl, ?_, ?_, wv, ?_, ?_⟩, ?_, ?_, (WS.beg wv).mo (by decide) (by decide), NY.beg, ?_⟩, DN.beg wv, Or.inl ⟨rfl, rfl⟩, ⟨by decide, S 0 1 0 (by decide), S 99 1 0 (by decide), fun j j0 j1 => by omega⟩, ⟨S 0 2 0 (by decide), S 0 3 (-1) (by decide), S 99 4 0 (by decide), S 99 5 (-1) (by decide)⟩, ⟨?_, ?_, fun z => ?_⟩, ⟨0, by decide, S 90 0 0 (by decide), S 99 74 0 (by decide), fun i hi => by omega⟩, ⟨fun _ _ => 0, 0, -1, ⟨S 92 0 0 (by decide), S 92 1 (-1) (by decide), fun i i0 i1 => by omega⟩, ⟨S 99 70 0 (by decide), S 99 71 (-1) (by decide), fun i i0 i1 => by omega⟩, by decide, by decide, fun i i0 i1 => by omega⟩, GPl.no (S 64 0 0 (by decide)), ?_⟩⟩
  · exact ⟨⟨S 2 0 0 (by decide), S 2 5 0 (by decide), S 2 11 0 (by decide)⟩, fun k k0 k1 => absurd k1 (by show ¬ k < 0; omega), fun k k0 k1 => absurd k1 (by show ¬ k < 0; omega), fun k k0 k1 => absurd k1 (by show ¬ k < 0; omega), fun k k0 k1 => ⟨R 16 2 0 (by decide) k k0 k1, R 15 2 0 (by decide) k k0 k1⟩, fun k k0 k1 => R 6 12 0 (by decide) k k0 k1, S 2 17 0 (by decide), S 17 2 0 (by decide)⟩
  · intro l l0 l1
    exact Or.inl ⟨by have := R 19 3 (-1) (by decide) l l0 l1; show I 19 l < 0; omega, fun _ => rfl⟩
  · exact ⟨⟨S 99 12 0 (by decide), S 99 13 0 (by decide), S 99 14 0 (by decide)⟩, fun k k0 k1 => absurd k1 (by show ¬ k < 0; omega), fun k k0 k1 => absurd k1 (by show ¬ k < 0; omega), fun k k0 k1 => absurd k1 (by show ¬ k < 0; omega), fun k k0 k1 => ⟨R 116 4 0 (by decide) (2 + k) (by omega) (by omega), R 116 4 0 (by decide) k k0 (by omega)⟩, fun k k0 k1 => R 106 12 0 (by decide) k k0 k1, S 102 0 0 (by decide), S 99 15 0 (by decide)⟩
  · intro l l0 l1
    exact Or.inl ⟨R 117 3 0 (by decide) l l0 l1, fun _ => rfl⟩
  · exact ⟨fun j j0 j1 => R 52 12 0 (by decide) j j0 j1, fun j j0 j1 => R 53 2 0 (by decide) j j0 j1, fun j j0 j1 => R 54 12 0 (by decide) j j0 j1, S 51 3 0 (by decide), S 51 4 0 (by decide), S 51 8 0 (by decide)⟩
  · exact ⟨fun j j0 j1 => R 127 12 0 (by decide) (12 * 0 + j) (by omega) (by omega), fun j j0 j1 => R 128 2 0 (by decide) (2 * 0 + j) (by omega) (by omega), fun j j0 j1 => R 129 12 0 (by decide) (12 * 0 + j) (by omega) (by omega), S 131 0 0 (by decide), S 130 0 0 (by decide), l⟩
  · exact ⟨S 51 5 0 (by decide), S 51 6 0 (by decide), S 51 7 0 (by decide)⟩
  · exact (S 0 10 0 (by decide)).trans (S 99 76 0 (by decide)).symm
  · exact Or.inl (S 0 10 0 (by decide))
  · have : I 0 10 = 0 := S 0 10 0 (by decide)
    rw [this] at z; omega
  · exact ⟨fun j hj => by have := w1 j hj; rwa [Nat.zero_add] at this, fun j hj => by have := w2 j hj; rwa [Nat.zero_add] at this⟩
theorem cz_cr_s {h : am_H} {a : Nat} : ∀ {l : List Nat} {k : Nat}, cz_cr h a l k = true → ∀ q, l[q]? = some 3 → h.2.2.2 a ((k + q : Nat) : Int) = cz_R cz_w0 a ((k + q : Nat) : Int)
  | [], k, _, q, hq => by simp at hq
  | ty :: t, k, e, q, hq => by
    rw [cz_cr, Bool.and_eq_true] at e
    cases q with
    | zero =>
      simp at hq
      subst hq
      exact of_decide_eq_true e.1
    | succ q =>
      have := cz_cr_s e.2 q (by simpa using hq)
      rw [show k + (q + 1) = k + 1 + q by omega]; exact this
theorem cz_cR_s {h : am_H} : ∀ {l : List (Nat × Nat)} {k : Nat}, cz_cR h l k = true → ∀ a q, l[a]? = some q → (q.1 < 12 → ∀ z : Nat, (am_lay q.1)[z]? = some 3 → h.2.2.2 (k + a) z = cz_R cz_w0 (k + a) z) ∧ (q.1 = 16 → ∀ z : Nat, z < q.2 → h.2.2.2 (k + a) z = cz_R cz_w0 (k + a) z)
  | [], k, _, a, q, hq => by simp at hq
  | p :: t, k, e, a, q, hq => by
    rw [cz_cR, Bool.and_eq_true] at e
    cases a with
    | zero =>
      simp at hq
      subst hq
      refine ⟨fun h12 z hz => ?_, fun h16 z hz => ?_⟩
      · have e1 := e.1
        rw [show Nat.ble 12 p.1 = false by cases c : Nat.ble 12 p.1; rfl; exact absurd (Nat.le_of_ble_eq_true c) (by omega), cond_false] at e1
        have := cz_cr_s e1 z hz
        rwa [Nat.zero_add] at this
      · have e1 := e.1
        rw [h16] at e1
        have := cz_cr_s (show cz_cr h k (List.replicate p.2 3) 0 = true from e1) z (by rw [List.getElem?_replicate, if_pos hz])
        rwa [Nat.zero_add] at this
    | succ a =>
      have := cz_cR_s e.2 a q (by simpa using hq)
      rw [show k + (a + 1) = k + 1 + a by omega]; exact this
/-- from a heap with the same references to mkH -/
theorem va_P.mk {D : va_G} {cy : Nat → ClassId} {b aS : Nat} {H : Heap} {h : am_H} (hs : h.1 = (true, cz_sh)) (hc : cz_cR h cz_sh 0 = true) (hP : va_P D vwCl (am_ws cy b aS h) H) : va_P D vwCl (am_ws cy b aS (mkH cz_w0 h.2.1 h.2.2.1)) H := by
  have hs2 : h.1.2 = cz_sh := by rw [hs]
  intro a q hq
  by_cases ha : a < cz_sh.length
  · rw [am_ws_get (h := mkH cz_w0 h.2.1 h.2.2.1) ha] at hq
    cases hq
    have := hP a _ (am_ws_get (by rw [hs2]; exact ha))
    have k : am_kd (mkH cz_w0 h.2.1 h.2.2.1) a = am_kd h a := by unfold am_kd; rw [hs2]; rfl
    have kq : cz_sh[a]? = some cz_sh[a] := List.getElem?_eq_getElem ha
    have ck := cz_cR_s hc a _ kq
    rw [Nat.zero_add] at ck
    have kd : am_kd h a = (cz_sh[a]).1 := by unfold am_kd; rw [hs2, List.getD_eq_getElem?_getD, kq]; rfl
    have kl : ((mkH cz_w0 h.2.1 h.2.2.1).1.2.getD a (99, 0)).2 = (h.1.2.getD a (99, 0)).2 := by rw [hs2]; rfl
    have kn : (h.1.2.getD a (99, 0)).2 = (cz_sh[a]).2 := by rw [hs2, List.getD_eq_getElem?_getD, kq]; rfl
    unfold am_ce at this ⊢
    rw [k, kl]
    by_cases c1 : am_kd h a < 12
    · rw [if_pos c1] at this ⊢
      have e : am_fs b aS (mkH cz_w0 h.2.1 h.2.2.1) a 0 (am_lay (am_kd h a)) = am_fs b aS h a 0 (am_lay (am_kd h a)) := by
        apply List.ext_getElem?
        intro z
        rw [am_fs_get, am_fs_get]
        cases hz : (am_lay (am_kd h a))[z]? with
        | none => rfl
        | some ty =>
          have h4 := am_lay4 _ c1 ty (List.mem_of_getElem? hz)
          rw [Option.map_some, Option.map_some, Nat.zero_add]
          match ty, h4 with
          | 0, _ => rfl
          | 1, _ => rfl
          | 2, _ => rfl
          | 3, _ =>
            have := ck.1 (by rw [← kd]; exact c1) z (by rw [← kd]; exact hz)
            show some (am_cv b aS (.inr (.inr (.inl (cz_R cz_w0 a z))))) = some (am_cv b aS (.inr (.inr (.inl (h.2.2.2 a z)))))
            rw [this]
      rw [e]; exact this
    · rw [if_neg c1] at this ⊢
      by_cases c2 : am_kd h a = 14
      · rw [if_pos c2] at this ⊢; exact this
      · rw [if_neg c2] at this ⊢
        by_cases c3 : am_kd h a = 16
        · rw [if_pos c3] at this ⊢
          have e : ∀ z : Nat, z < (h.1.2.getD a (99, 0)).2 → cz_R cz_w0 a z = h.2.2.2 a z := fun z hz => (ck.2 (by rw [← kd]; exact c3) z (by rw [← kn]; exact hz)).symm
          have e2 : vp_cell (cy 16) ((h.1.2.getD a (99, 0)).2, .inr (.inr (.inr (.inr fun j => ((mkH cz_w0 h.2.1 h.2.2.1).2.2.2 a j).map (b + ·))))) = vp_cell (cy 16) ((h.1.2.getD a (99, 0)).2, .inr (.inr (.inr (.inr fun j => (h.2.2.2 a j).map (b + ·))))) := by
            rw [vp_cell_q, vp_cell_q]
            unfold arrV
            congr 2
            funext j
            show va_rf ((cz_R cz_w0 a j.val).map (b + ·)) = _
            rw [e j.val j.isLt]
          show H[b + a]? = some _
          rw [e2]; exact this
        · rw [if_neg c3] at this ⊢; exact this
  · rw [am_ws_none (h := mkH cz_w0 h.2.1 h.2.2.1) ha] at hq; cases hq
