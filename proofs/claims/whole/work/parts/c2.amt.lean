/-! c2: calls of the two from any frame -/
theorem am_cV {p : Program} {l : Launch} {e : Env} {R : Room} {s : State} {m : MethodId} {args : Array Value} {below : List Frame} {meth : Method} {c : Code} {Q : State → Prop} {D : va_G} {cy : Nat → ClassId} {b aS pc nL : Nat} {cc : ByteArray} {own : String} {A0 : Nat → Prop} {H : Heap} {locs : List Loc} {cells slots : Nat} {ls : Array Slot} {rest : List Value} {idx j a d n : Nat} {as : List am_V} {r : Option am_V} {h h' : am_H} (hx : p.tables.exec = Jvm.exec) (hb : c.code = cc) (hml : c.maxLocals = nL) (hown : s.vm.findClass own = some m.cls) (hts : ∀ w ∈ am_tw, w.before args s = true) (hK : va_K D vwCl (am_ty cy) s) (hnst : ∀ w ∈ am_nst, va_Nw w s) (hAO : va_AO RX6 s)
    (hd : decode cc pc = .ok (.invokevirtual idx, 3)) (hl : Cond.methodLink own idx (am_y j) ∈ am_tw) (hj : j < 281) (hkn : am_kn j = 0) (hnp : as.length = am_np j) (hka : ∃ z, cz_sh[a]? = some (am_k j, z)) (hk12 : am_k j < 12) (hcw : am_cw (vR (some a) :: as) ≤ am_mx j) (hS : (rest.map fun v => v.category).sum ≤ 8) (has : ∀ v ∈ as, am_okv v) (hR1 : d + 2 ≤ R.frames) (hR2 : 64 * (d + 2) ≤ R.locals) (hr : am_run n d j 0 (am_en j (vR (some a) :: as)) [] h = some (r, h')) (pok : am_okh h) (ph : h.1 = (false, cz_sh)) (pP : va_P D vwCl (am_ws cy b aS h) H) (pS : va_S A0 s.heap H locs) (hA0 : ∀ q, b ≤ q ∧ q < b + 139 → A0 q) (hsz : ls.size = nL) (hf : cells ≤ R.cells ∧ slots ≤ R.slots)
    (kk : ∀ (H1 : Heap) (locs1 : List Loc), va_P D vwCl (am_ws cy b aS h') H1 → va_S A0 s.heap H1 locs1 → (∀ q : Nat, q < H.size → ¬ (b ≤ q ∧ q < b + 139) → H1[q]? = H[q]?) → W p l e R s m args below meth c H1 locs1 cells slots Q (F0 m (pc + 3) ls ((r.map (am_cv b aS)).toList ++ rest))) : W p l e R s m args below meth c H locs cells slots Q (F0 m pc ls ((as.map (am_cv b aS)).reverse ++ .ref (b + a) :: rest)) := by
  obtain ⟨z, hka⟩ := hka
  have hlt : a < h.1.2.length := by rw [ph]; exact (List.getElem?_eq_some_iff.mp hka).1
  have hkd : am_kd h a = am_k j := by unfold am_kd; rw [ph, List.getD_eq_getElem?_getD, hka]; rfl
  have hasA : ∀ v ∈ vR (some a) :: as, am_okv v := am_ok1 (show am_okv (vR (some a)) from trivial) has
  obtain ⟨g1, g2, g3⟩ := am_run_inv n d j 0 (am_en j (vR (some a) :: as)) [] h r h' hj hr (am_okL_en hasA) (fun v hv => by cases hv) pok
  have g4 : h'.1 = h.1 := g1.2.2.2 (by rw [ph])
  obtain ⟨mc, ms, hM, hm1, hm2⟩ := am_sound (X := fun _ => False) (D := D) (cy := cy) (b := b) (aS := aS) (l := l) am_XX0 d n j (vR (some a) :: as) h r h' hj hr hasA pok hcw
  obtain rfl : mc = 0 := by rw [g4] at hm1; omega
  obtain rfl : ms = 0 := by rw [g4] at hm2; omega
  obtain ⟨w1, w2, w3, w4, w5, w6, w7, w8, w9, w10⟩ := am_okj hj
  have hcls : ∃ T N, vwCl[am_k j]? = some ((am_y j).cls, T, N) := by
    have key : ∀ ci, ci < 12 → (vwCl[ci]?).map (fun q => q.1) = some (am_nm ci) := by decide +kernel
    have := key (am_k j) hk12
    rw [w10] at this
    cases hv : vwCl[am_k j]? with
    | none => rw [hv] at this; cases this
    | some q => obtain ⟨C, T, N⟩ := q; rw [hv] at this; simp at this; exact ⟨T, N, by rw [this]⟩
  obtain ⟨T, N, hv⟩ := hcls
  have h139 : h.1.2.length = 139 := by rw [ph]; rfl
  have hAq : ∀ q, am_A b h.1.2.length h.1.1 q → b ≤ q ∧ q < b + 139 := fun q z => by
    refine ⟨z.1, ?_⟩
    rcases z.2 with y | y
    · rw [ph] at y; cases y
    · rw [h139] at y; exact y
  refine am_ret_call2 (A0 := A0) (va_runV (C := (am_y j).cls) (As := as.map (am_cv b aS)) (b := b + a) (n := am_np j) ⟨hx, hb, hml, hown, hts⟩ hM ⟨callB_of (am_np j) hts (am_wj_good hj) rfl rfl rfl (hts _ w2) (hts _ hl) w6 ⟨hR1, by show 8 + (am_mx j + 11) + 64 * (d + 1) ≤ R.locals; omega⟩, hts _ (w4 (by rw [hkn]; decide)), hts _ (w5 hkn)⟩ ⟨am_Pc_blind (fun _ _ _ _ h => h), va_recv hK pP hv ((am_ws_get hlt).trans (by rw [am_ce_obj hkd hk12])), fun U hU hW => ⟨rfl, by rw [hU]; exact pP, va_K.moved hW.alike hK, am_nst_warm hW hnst, va_AO.moved hW.alike hAO, fun z => by rw [ph] at z; cases z⟩⟩ rfl (by rw [List.length_map]; exact hnp) hsz rfl (lv_room hS) hd ⟨by omega, by omega⟩) pS (fun q hq => hA0 q (hAq q hq)) (fun q hq => hA0 q (hAq q hq)) fun H1 locs1 p1 p2 p3 => ?_
  exact kk H1 locs1 p1 p2 (fun q hq hn => p3 q hq (fun z => hn (hAq q z)))
theorem am_cS {p : Program} {l : Launch} {e : Env} {R : Room} {s : State} {m : MethodId} {args : Array Value} {below : List Frame} {meth : Method} {c : Code} {Q : State → Prop} {D : va_G} {cy : Nat → ClassId} {b aS pc nL : Nat} {cc : ByteArray} {own : String} {A0 : Nat → Prop} {H : Heap} {locs : List Loc} {cells slots : Nat} {ls : Array Slot} {rest : List Value} {idx j d n : Nat} {as : List am_V} {r : Option am_V} {h h' : am_H} (hx : p.tables.exec = Jvm.exec) (hb : c.code = cc) (hml : c.maxLocals = nL) (hown : s.vm.findClass own = some m.cls) (hts : ∀ w ∈ am_tw, w.before args s = true) (hK : va_K D vwCl (am_ty cy) s) (hnst : ∀ w ∈ am_nst, va_Nw w s) (hAO : va_AO RX6 s)
    (hd : decode cc pc = .ok (.invokestatic idx, 3)) (hl : Cond.methodLink own idx (am_y j) ∈ am_tw) (hj : j < 281) (hkn : am_kn j = 1) (hnp : as.length = am_np j) (hcw : am_cw as ≤ am_mx j) (hS : (rest.map fun v => v.category).sum ≤ 8) (has : ∀ v ∈ as, am_okv v) (hR1 : d + 2 ≤ R.frames) (hR2 : 64 * (d + 2) ≤ R.locals) (hr : am_run n d j 0 (am_en j as) [] h = some (r, h')) (pok : am_okh h) (ph : h.1 = (false, cz_sh)) (pP : va_P D vwCl (am_ws cy b aS h) H) (pS : va_S A0 s.heap H locs) (hA0 : ∀ q, b ≤ q ∧ q < b + 139 → A0 q) (hsz : ls.size = nL) (hf : cells ≤ R.cells ∧ slots ≤ R.slots)
    (kk : ∀ (H1 : Heap) (locs1 : List Loc), va_P D vwCl (am_ws cy b aS h') H1 → va_S A0 s.heap H1 locs1 → (∀ q : Nat, q < H.size → ¬ (b ≤ q ∧ q < b + 139) → H1[q]? = H[q]?) → W p l e R s m args below meth c H1 locs1 cells slots Q (F0 m (pc + 3) ls ((r.map (am_cv b aS)).toList ++ rest))) : W p l e R s m args below meth c H locs cells slots Q (F0 m pc ls ((as.map (am_cv b aS)).reverse ++ rest)) := by
  obtain ⟨g1, g2, g3⟩ := am_run_inv n d j 0 (am_en j as) [] h r h' hj hr (am_okL_en has) (fun v hv => by cases hv) pok
  have g4 : h'.1 = h.1 := g1.2.2.2 (by rw [ph])
  obtain ⟨mc, ms, hM, hm1, hm2⟩ := am_sound (X := fun _ => False) (D := D) (cy := cy) (b := b) (aS := aS) (l := l) am_XX0 d n j as h r h' hj hr has pok hcw
  obtain rfl : mc = 0 := by rw [g4] at hm1; omega
  obtain rfl : ms = 0 := by rw [g4] at hm2; omega
  obtain ⟨w1, w2, w3, w4, w5, w6, w7, w8, w9, w10⟩ := am_okj hj
  have h139 : h.1.2.length = 139 := by rw [ph]; rfl
  have hAq : ∀ q, am_A b h.1.2.length h.1.1 q → b ≤ q ∧ q < b + 139 := fun q z => by
    refine ⟨z.1, ?_⟩
    rcases z.2 with y | y
    · rw [ph] at y; cases y
    · rw [h139] at y; exact y
  refine am_ret_call2 (A0 := A0) (va_runS (As := as.map (am_cv b aS)) (n := am_np j) ⟨hx, hb, hml, hown, hts⟩ hM ⟨callB_of (am_np j) hts (am_wj_good hj) rfl rfl rfl (hts _ w2) (hts _ hl) w6 ⟨hR1, by show 8 + (am_mx j + 11) + 64 * (d + 1) ≤ R.locals; omega⟩, hts _ (w3 hkn)⟩ ⟨am_Pc_blind (fun _ _ _ _ h => h), fun U hU hW => ⟨rfl, by rw [hU]; exact pP, va_K.moved hW.alike hK, am_nst_warm hW hnst, va_AO.moved hW.alike hAO, fun z => by rw [ph] at z; cases z⟩⟩ rfl (by rw [List.length_map]; exact hnp) hsz rfl (lv_room hS) hd ⟨by omega, by omega⟩) pS (fun q hq => hA0 q (hAq q hq)) (fun q hq => hA0 q (hAq q hq)) fun H1 locs1 p1 p2 p3 => ?_
  exact kk H1 locs1 p1 p2 (fun q hq hn => p3 q hq (fun z => hn (hAq q z)))
