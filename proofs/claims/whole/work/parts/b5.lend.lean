/-! b5: the law: the ends of a case -/
theorem lx_in (x : Int32) : am_in x.toInt := by
  have h1 := Int32.le_toInt x
  have h2 := Int32.toInt_lt x
  unfold am_in; omega
theorem lx_b {x : Int} : (if x = 0 then (0 : Int) else 1) = 0 ∨ (if x = 0 then (0 : Int) else 1) = 1 := by split; exact Or.inl rfl; exact Or.inr rfl
theorem lx_bin {x : Int} : am_in (if x = 0 then (0 : Int) else 1) := by unfold am_in; split <;> omega
theorem lg_pair {j1 j2 : Nat} {as : List am_V} (pm : PM j1 j2 as) {w : (Nat × Nat × Nat × Nat)} {I Lg : (Nat → Int → Int)} (hG : GG w I Lg) : ∃ n1 r h1 n2 w2 I2 L2, am_run n1 20 j1 0 (am_en j1 (vR (some 0) :: as)) [] (mkH w I Lg) = some (r, h1) ∧ am_run n2 20 j2 0 (am_en j2 (vR (some 99) :: as)) [] h1 = some (r, mkH w2 I2 L2) ∧ GG w2 I2 L2 := by
  obtain ⟨n1, r, h1, e1, n2, r', h2, e2, er, -, w2, I2, L2, eh, g⟩ := pm 0 w I Lg hG
  subst er; subst eh
  exact ⟨n1, r', h1, n2, w2, I2, L2, e1, e2, g⟩
theorem am_ok0 : ∀ v ∈ ([] : List am_V), am_okv v := fun v hv => by cases hv
section
variable {p : Program} {l : Launch} {e : Env} {s : State} {m : MethodId} {below : List Frame} {meth : Method} {c : Code} {Q : State → Prop} {D : va_G} {cy : Nat → ClassId} {aS b0 L : Nat} {xs : Nat → Int32} {k pc : Nat} {S : List am_V} {h : am_H}
theorem lg_eq {x off : Int} (F : lw_fx p s m meth c D cy b0 L xs) (hd : decode code pc = .ok (.if_icmp .eq off, 3)) (ht : (pc : Int) + off = ((1805 : Nat) : Int)) (kk : lw_G p l e s m below meth c Q D cy aS b0 k 1805 S h) : lw_G p l e s m below meth c Q D cy aS b0 k pc (vI x :: vI x :: S) h := by
  intro ls H locs cells slots P
  obtain ⟨hx, hb, -⟩ := id F
  exact lv_icmp_eq (tgt := 1805) hx hb hd ht (fun _ => kk ls H locs cells slots P) (fun z => absurd rfl z)
theorem lg_eql {x off : Int} (F : lw_fx p s m meth c D cy b0 L xs) (d0 : decode code pc = .ok (.lcmp, 1)) (hd : decode code (pc + 1) = .ok (.ifCond .eq off, 3)) (ht : ((pc + 1 : Nat) : Int) + off = ((1805 : Nat) : Int)) (kk : lw_G p l e s m below meth c Q D cy aS b0 k 1805 S h) : lw_G p l e s m below meth c Q D cy aS b0 k pc (vL x :: vL x :: S) h := by
  intro ls H locs cells slots P
  obtain ⟨hx, hb, -⟩ := id F
  have e0 : lg_cmp (Int64.ofInt x) (Int64.ofInt x) = 0 := by
    unfold lg_cmp
    rw [if_neg (by simp), if_pos rfl]
  refine W.lcmp hx hb d0 ?_
  rw [e0]
  exact lv_if_eq (tgt := 1805) hx hb hd ht (fun _ => kk ls H locs cells slots P) (fun z => absurd rfl z)
theorem lg_back (F : lw_fx p s m meth c D cy b0 L xs) (hk : k + 5 < L) (kk : lw_G p l e s m below meth c Q D cy aS b0 (k + 6) 23 [] h) : lw_G p l e s m below meth c Q D cy aS b0 k 1805 [] h := by
  intro ls H locs cells slots P
  obtain ⟨hx, hb, hml, hown, hts, hK, hlk, hrt, hnst, hAO, hX, hbl, hL⟩ := id F
  obtain ⟨pl, pok, ph, pP, pS, po, pc1, pc2, pc3⟩ := P
  refine lv_iinc (v := nI (k + 6)) (lv' := [(4, .int (nI (k + 6))), (0, .ref b0), (1, .ref s.heap.size), (2, .ref (s.heap.size + 99)), (3, .ref (s.heap.size + 139))]) hx hb dl_1805 pl (k := 4) rfl ?_ (by decide) rfl (fun ls hl => ?_)
  · rw [← nI_add]; rfl
  refine lv_goto (tgt := 23) hx hb dl_1808 (by decide) ?_
  exact kk ls H locs cells slots ⟨lv_sub hl [1, 2, 3, 4, 0] rfl, pok, ph, pP, pS, po, by omega, by omega, by omega⟩
end
