/-! c5: the law's own amount: it answers what was thrown -/
theorem ax_U_blind {D : va_G} {cy : Nat → ClassId} {b aS sa1 sa2 : Nat} {h : am_H} {av : List Value} : FrameBlind (va_Pc av (ax_U D cy b aS sa1 sa2 h)) := by
  intro a U g mk hp
  obtain ⟨e, h1, h2, h3, h4, h5⟩ := hp
  exact ⟨e, h1, va_K.moved (u := U) (U := U.calling g mk a) (Vm.Alike.refl U.vm) h2, am_nst_same (u := U) (U := U.calling g mk a) rfl h3, am_AO_same (u := U) (U := U.calling g mk a) rfl h4, h5.cg g mk a⟩
abbrev ax_hh : List (Nat × Nat × Nat × Nat) := [(0, 10, 13, 13), (0, 10, 17, 15)]
abbrev ay_w : List Cond := Cond.codeWith yL_amount cL_amount 5 (some .int) ax_hh :: am_tw
abbrev ay_rm : Room := { frames := 24, cells := 1, slots := 6, locals := 1536 }
def ay_out (cy : Nat → ClassId) (b : Nat) (f : Nat → Int64) (H : Heap) : Prop := H[b + 139]? = some (vp_cell (cy 14) (1, .inr (.inl f)))
def ay_U (D : va_G) (cy : Nat → ClassId) (b aS sa1 sa2 : Nat) (h : am_H) (U : State) : Prop := ax_U D cy b aS sa1 sa2 h U ∧ (∃ f, ay_out cy b f U.heap) ∧ va_Nc eN eI U
def ay_r (x1 x2 v : Int) (r : Int32) (f : Nat → Int64) : Prop := (r = 0 ∧ x1 ≠ 0 ∧ x2 ≠ 0 ∧ f 0 = (Int32.ofInt v).toInt64) ∨ (r = 1 ∧ x1 = 0) ∨ (r = 2 ∧ x1 ≠ 0 ∧ x2 = 0)
def ay_Q (D : va_G) (cy : Nat → ClassId) (b aS : Nat) (h : am_H) (x1 x2 v : Int) : Array Value → State → Outcome → State → Prop := va_Qi (S := Nat → Int64) (fun r f => ay_r x1 x2 v r f) (fun f t => va_P D vwCl (am_ws cy b aS h) t.heap ∧ ay_out cy b f t.heap) (fun q => b ≤ q)
theorem ay_keep {D : va_G} {cy : Nat → ClassId} {b aS : Nat} {h : am_H} {H H1 : Heap} (ph : h.1 = (false, cz_sh)) (hP : va_P D vwCl (am_ws cy b aS h) H) (hq : ∀ q : Nat, q ≠ b + 139 → H1[q]? = H[q]?) : va_P D vwCl (am_ws cy b aS h) H1 := by
  intro k q hk
  have z := hP k q hk
  have h139 : h.1.2.length = 139 := by rw [ph]; rfl
  have hlt : k < h.1.2.length := Decidable.byContradiction fun y => by rw [am_ws_none y] at hk; cases hk
  rw [am_ws_get hlt] at hk
  cases hk
  have hn : b + k ≠ b + 139 := by omega
  generalize am_ce cy b aS h k = ce at z ⊢
  cases ce with
  | inl a => show H1[b + k]? = _; rw [hq _ hn]; exact z
  | inr o =>
    obtain ⟨r, hr, cell, g1, g2⟩ := z
    exact ⟨r, hr, cell, by rw [hq _ hn]; exact g1, g2⟩
set_option maxHeartbeats 1000000 in
theorem c_amountL {l : Launch} (hfl : l.stackTraces = false) {D : va_G} {cy : Nat → ClassId} {b aS sa1 sa2 : Nat} {h : am_H} {k t x1 x2 v : Int} (hok : am_okh h) (ph : h.1 = (false, cz_sh)) (h7 : h.2.2.2 0 7 = some 51) (hk : am_in k) (ht : am_in t) (i1 : am_in x1) (i2 : am_in x2) (r1 : ∃ n, am_run n 20 93 0 (am_en 93 [vR (some 0), vI k]) [] h = some (some (vI x1), h)) (r2 : ∃ n, am_run n 20 95 0 (am_en 95 [vI t]) [] h = some (some (vI x2), h)) (r3 : x1 ≠ 0 → x2 ≠ 0 → ∃ n, am_run n 20 59 0 (am_en 59 [vR (some 51), vI k, vI t]) [] h = some (some (vI v), h)) : Met l yL_amount ay_w ay_rm (va_Pc [.ref b, .int (Int32.ofInt k), .int (Int32.ofInt t), .ref (b + 139)] (ay_U D cy b aS sa1 sa2 h)) (ay_Q D cy b aS h x1 x2 v) 1 6 (fun q => b ≤ q) := by
  refine va_MetW (cc := cL_amount) (maxL := 5) (ret := some .int) (hh := ax_hh) (by decide) rfl ?_
  intro p e s m args below meth c s₁ B hml hv
  obtain ⟨rfl, ⟨hP, hK, hnst, hAO, hX⟩, ⟨f0, hO⟩, hNc⟩ := hv
  have hx := B.exec
  have hb := B.bytes
  have hr := B.returns
  have hlk := B.notSynchronized
  have hts0 := atoms_spec (ws := ay_w) B.pre
  have htab := vx_table (x := yL_amount) B (hts0 _ List.mem_cons_self)
  have hts : ∀ w ∈ am_tw, w.before #[Value.ref b, Value.int (Int32.ofInt k), Value.int (Int32.ofInt t), Value.ref (b + 139)] s = true := fun w hw => hts0 w (List.mem_cons_of_mem _ hw)
  have hown : s.vm.findClass RL = some m.cls := findClass_of_methodNamed B.named
  have hl := lv_entry ([.ref b, .int (Int32.ofInt k), .int (Int32.ofInt t), .ref (b + 139)]) (n := 5) (Nat.le_of_ble_eq_true rfl)
  rw [lg_entry_eq]
  generalize (lg_sl ([.ref b, .int (Int32.ofInt k), .int (Int32.ofInt t), .ref (b + 139)]) ++ List.replicate (5 - (lg_sl ([.ref b, .int (Int32.ofInt k), .int (Int32.ofInt t), .ref (b + 139)])).length) Slot.unset).toArray = ls at hl ⊢
  have hl : lv_has ls 5 [(0, .ref b), (1, .int (Int32.ofInt k)), (2, .int (Int32.ofInt t)), (3, .ref (b + 139))] := hl
  have hS0 : va_S (fun q => b ≤ q) s.heap s.heap [] := va_S.rf
  have hkd : am_kd h 0 = 10 := by unfold am_kd; rw [ph]; rfl
  have hlt : 0 < h.1.2.length := by rw [ph]; decide +kernel
  have hin139 : ¬ ax_in b (b + 139) := fun z => by have := z.2; omega
  have hOs : b + 139 < s.heap.size := (Array.getElem?_eq_some_iff.mp hO).1
  refine lv_aload_n hx hb dL_amount_0 rfl (lv_at hl 3 rfl) ?_
  refine lv_iconst (v := 0) hx hb dL_amount_1 (by decide) ?_
  refine lv_aload_n hx hb dL_amount_2 rfl (lv_at hl 0 rfl) ?_
  refine lv_iload_n hx hb dL_amount_3 rfl (lv_at hl 1 rfl) ?_
  refine lv_iload_n hx hb dL_amount_4 rfl (lv_at hl 2 rfl) ?_
  have hM := c_amount (l := l) (D := D) (cy := cy) (b := b) (aS := aS) (sa1 := sa1) (sa2 := sa2) hfl hok ph h7 hk ht i1 i2 r1 r2 r3
  have hrun := vx_runV (p := p) (e := e) (R := ay_rm) (s := s) (m := m) (args := #[Value.ref b, Value.int (Int32.ofInt k), Value.int (Int32.ofInt t), Value.ref (b + 139)]) (below := below) (meth := meth) (c := c) (H := s.heap) (locs := []) (cells := 0) (slots := 0) (own := RL) (C := RX10) (index := 7) (n := 2) (b := b) (As := [.int (Int32.ofInt k), .int (Int32.ofInt t)]) (rest := [.int 0, .ref (b + 139)]) (g := F0 m 5 ls [.int (Int32.ofInt t), .int (Int32.ofInt k), .ref b, .int 0, .ref (b + 139)]) ⟨hx, hb, hml, hown, hts⟩ hM ⟨callB_of 2 hts (fun w hw => by
      rcases List.mem_cons.mp hw with rfl | hw
      · exact am_tw_good _ (am_hw_in (z := (5, 207)) (by decide +kernel))
      · exact am_tw_good _ hw) rfl rfl rfl (hts _ (am_hw_in (z := (1, 1)) (by decide +kernel))) (hts _ (am_hw_in (z := (5, 204)) (by decide +kernel))) (by decide) ⟨Nat.le_of_ble_eq_true rfl, Nat.le_of_ble_eq_true rfl⟩, hts _ (am_hw_in (z := (5, 205)) (by decide +kernel)), hts _ (am_hw_in (z := (5, 206)) (by decide +kernel))⟩ ⟨ax_U_blind, va_recv (ci := 10) hK hP rfl ((am_ws_get hlt).trans (by rw [am_ce_obj hkd (by decide)]; rfl)), fun U hU hW => ⟨rfl, by rw [hU]; exact hP, va_K.moved hW.alike hK, am_nst_warm hW hnst, va_AO.moved hW.alike hAO, hX.to hU hW hS0⟩⟩ rfl rfl hl.1 rfl (lv_room (Nat.le_of_ble_eq_true rfl)) dL_amount_5 ⟨Nat.le_of_ble_eq_true rfl, Nat.le_of_ble_eq_true rfl⟩
  refine vx_calli hrun hS0 (fun q _ hq => hq.1) (fun q hq => hq) (fun q _ hq => hq.1) ?_ ?_
  · intro E ce q9 u T H1 locs1 hT hvm _ hB hz hq hS1 hc1 hc2 hc3
    obtain ⟨hE, hP1⟩ := hB
    have hP1 : va_P D vwCl (am_ws cy b aS h) H1 := by rw [← hT]; exact hP1
    have hO1 : ay_out cy b f0 H1 := by unfold ay_out; rw [hq _ hOs hin139]; exact hO
    have fin : ∀ (pc : Nat) (v1 : Int), decode cL_amount pc = .ok (.astore 4, 2) → decode cL_amount (pc + 2) = .ok (.iconst v1, 1) → decode cL_amount (pc + 3) = .ok (.ireturn, 1) → ay_r x1 x2 v (Int32.ofInt v1) f0 → W p l e ay_rm s m #[Value.ref b, Value.int (Int32.ofInt k), Value.int (Int32.ofInt t), Value.ref (b + 139)] below meth c H1 locs1 (0 + 1) (0 + 6) (MQ below (ay_Q D cy b aS h x1 x2 v) #[Value.ref b, Value.int (Int32.ofInt k), Value.int (Int32.ofInt t), Value.ref (b + 139)] s 1 6 (fun q => b ≤ q)) (F0 m pc ls [.ref q9]) := by
      intro pc v1 d0 d2 d3 hr1
      refine lv_astore hx hb d0 hl (by decide) rfl (fun ls1 hl1 => ?_)
      refine lv_iconst (v := Int32.ofInt v1) hx hb d2 rfl ?_
      exact W.iret (v := Int32.ofInt v1) hx hb hr (fun t ht _ => ⟨⟨_, f0, rfl, hr1, by show va_P D vwCl (am_ws cy b aS h) t.heap ∧ ay_out cy b f0 t.heap; rw [ht]; exact ⟨hP1, hO1⟩⟩, by rw [ht]; exact hS1.1, fun q f1 f2 => by rw [ht]; exact hS1.2.1 q f1 f2⟩) (fun q hq => hS1.2.2 q hq) d3 hlk
    rcases hE with ⟨rfl, x10⟩ | ⟨rfl, x1n, x20⟩
    · exact vx_catch (own := RL) (name := eI) hown [] ⟨0, 10, 13, 13⟩ [⟨0, 10, 17, 15⟩] (by rw [htab]; rfl) (fun z hz => by cases hz) (by decide) (by decide) (hts _ (am_hw_in (z := (5, 202)) (by decide +kernel))) (va_Nw.use (ax_onT _ (by decide)) (hX.2.2.1 _ (by decide))) hc1 hc2 hc3 (fin 13 1 dL_amount_13 dL_amount_15 dL_amount_16 (Or.inr (Or.inl ⟨rfl, x10⟩)))
    · exact vx_catch (own := RL) (name := eN) hown [⟨0, 10, 13, 13⟩] ⟨0, 10, 17, 15⟩ [] (by rw [htab]; rfl) (fun z hz => by
        rcases List.mem_singleton.mp hz with rfl
        exact Or.inr ⟨by decide, eI, hts _ (am_hw_in (z := (5, 202)) (by decide +kernel)), hNc⟩) (by decide) (by decide) (hts _ (am_hw_in (z := (5, 203)) (by decide +kernel))) (va_Nw.use (ax_onT _ (by decide)) (hX.2.2.1 _ (by decide))) hc1 hc2 hc3 (fin 17 2 dL_amount_17 dL_amount_19 dL_amount_20 (Or.inr (Or.inr ⟨rfl, x1n, x20⟩)))
  · intro r u T H1 locs1 hT hvm hpost hB hz hq hS1
    obtain ⟨x1n, x2n, rfl⟩ := hpost
    have hP1 : va_P D vwCl (am_ws cy b aS h) H1 := by rw [← hT]; exact hB
    have hO1 : H1[b + 139]? = some (vp_cell (cy 14) (1, .inr (.inl f0))) := by rw [hq _ hOs hin139]; exact hO
    refine lv_i2l hx hb dL_amount_8 rfl ?_
    refine W.last hx hb hO1 ((hK.2 2 _ rfl).1 1 (fun j => .long (f0 j))) (fun q => by cases q) (by show ¬ ((0 : Int32) < 0 ∨ (arrV _ _ _).slots.size ≤ _); rw [arrV_size]; show ¬ ((0 : Int32) < 0 ∨ 1 ≤ Int32.toNatClampNeg 0); decide) rfl rfl dL_amount_9 fun H2 e2 z2 oq => ?_
    have hP2 := ay_keep ph hP1 oq
    have hS2 : va_S (fun q => b ≤ q) s.heap H2 (locs1 ++ [⟨b + 139, (0 : Int32).toNatClampNeg⟩]) := hS1.put z2 oq (Nat.le_add_right _ _)
    have hO2 : ay_out cy b (vp_updL f0 0 (Int32.ofInt v).toInt64) H2 := by
      unfold ay_out
      rw [e2, vp_cell_l, vp_cell_l, arrV_store]
      congr 2
      funext q
      by_cases hq : q = 0
      · subst hq; rfl
      · simp [updV, vp_updL, hq]
    show W p l e _ s m _ below meth c H2 _ _ _ _ (F0 m 10 ls [])
    refine lv_goto (tgt := 21) hx hb dL_amount_10 (by decide) ?_
    refine lv_iconst (v := 0) hx hb dL_amount_21 (by decide) ?_
    exact W.iret (v := 0) hx hb hr (fun t ht _ => ⟨⟨_, vp_updL f0 0 (Int32.ofInt v).toInt64, rfl, Or.inl ⟨rfl, x1n, x2n, rfl⟩, by show va_P D vwCl (am_ws cy b aS h) t.heap ∧ ay_out cy b _ t.heap; rw [ht]; exact ⟨hP2, hO2⟩⟩, by rw [ht]; exact hS2.1, fun q f1 f2 => by rw [ht]; exact hS2.2.1 q f1 f2⟩) (fun q hq => hS2.2.2 q hq) dL_amount_22 hlk
