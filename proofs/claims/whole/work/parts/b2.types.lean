/-! b2: what kind of answer a method gives -/
def am_isret : Instr → Bool
  | .ireturn => true
  | .lreturn => true
  | .return_ => true
  | _ => false
set_option maxHeartbeats 1000000 in
theorem am_st_nr {e : Instr} {len : Nat} {dn : List Nat} {di : List Int} {pc : Nat} {L : List (Option am_V)} {S : List am_V} {h : am_H} {nx : Nat → List (Option am_V) → List am_V → am_H → Prop} {rt : Option am_V → am_H → Prop} {cl : Nat → List am_V → (Option am_V → am_H → Prop) → Prop} (he : am_isret e = false) (st : am_st False am_gd am_br e len dn di pc L S h nx rt cl) : am_st False am_gd am_br e len dn di pc L S h nx (fun _ _ => False) cl := by
  cases e
  case ireturn => cases he
  case lreturn => cases he
  case return_ => cases he
  case if_icmp cond off => cases cond <;> exact st
  case ifCond cond off => cases cond <;> exact st
  all_goals exact st
def am_rt (i : Nat) (r : Option am_V) : Prop := ((am_r i = some .int ∨ am_r i = some .boolean) → ∃ x, r = some (vI x)) ∧ (am_r i = some .long → ∃ x, r = some (vL x))
theorem am_run_ty : ∀ (n d i pc : Nat) (L : List (Option am_V)) (S : List am_V) (h : am_H) (r : Option am_V) (h' : am_H), i < 281 → am_run n d i pc L S h = some (r, h') → am_okL L → (∀ v ∈ S, am_okv v) → am_okh h → am_rt i r
  | 0, d, i, pc, L, S, h, r, h', _, hr, _, _, _ => by simp [am_run] at hr
  | n + 1, d, i, pc, L, S, h, r, h', hi, hr, hL, hS, hh => by
    obtain ⟨e, len, dn, di, ht, st⟩ := am_run_st hr
    have ho := am_oki hi ht
    by_cases c : am_isret e = false
    · refine am_inv hi e len dn di ho (am_st_nr c st) hL hS hh ?_ (fun r0 _ q => q.elim) ?_
      · intro pc' L' S' h1 q g o1 o2 o3
        exact am_run_ty n d i pc' L' S' h1 r h' hi q o1 o2 o3
      · intro j as rk pc' S' o1 o2 _ hj q
        obtain ⟨d', rfl, r1, h1, q1, q2⟩ := q
        obtain ⟨a, b, c⟩ := am_run_inv n d' j 0 (am_en j as) [] h r1 h1 hj q1 (am_okL_en o1) (fun v hv => by cases hv) hh
        exact am_run_ty n (d' + 1) i pc' L (r1.toList ++ S') h1 r h' hi (am_rk_f q2) hL (am_ok_app c o2) b
    · cases e
      case ireturn =>
        obtain ⟨x, rfl, st⟩ := am_iret_f st
        have b := am_bv_f st
        have e2 := b.2
        cases e2
        have t := am_iret_x (am_oke_x ho) b.1
        exact ⟨fun _ => ⟨x, rfl⟩, fun z => (by rw [z] at t; rcases t with t | t; cases t; exact absurd t.1 (by decide))⟩
      case lreturn =>
        obtain ⟨x, rfl, st⟩ := am_lret_f st
        cases st
        have t : am_r i = some .long := of_decide_eq_true (am_oke_x ho)
        exact ⟨fun z => (by rw [t] at z; rcases z with z | z <;> cases z), fun _ => ⟨x, rfl⟩⟩
      case return_ =>
        obtain ⟨rfl, st⟩ := am_vret_f st
        cases st
        have t : am_r i = none := of_decide_eq_true (am_oke_x ho)
        exact ⟨fun z => (by rw [t] at z; rcases z with z | z <;> cases z), fun z => (by rw [t] at z; cases z)⟩
      all_goals exact absurd rfl c
