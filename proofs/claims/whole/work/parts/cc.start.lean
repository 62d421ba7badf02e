/-! cc: the start of the law: classes, new, constructors -/
theorem wh_kn {args : Array Value} {s : State} (hts : ∀ w ∈ am_tw, w.before args s = true) (ci : Nat) (q : vw_C) (hq : vwCl[ci]? = some q) : ∃ (cC : ClassId) (iS : Nat → Nat), u_Kn s q.1 q.2.1 q.2.2 cC iS := by
  match ci, hq with
  | 0, hq => cases hq; exact u_known hts am_ui0 (hts (.instantiable RX0 8) (am_hw_in (z := (2, 118)) (by decide +kernel)))
  | 1, hq => cases hq; exact u_known hts am_ui1 (hts (.instantiable RX1 7) (am_hw_in (z := (1, 40)) (by decide +kernel)))
  | 2, hq => cases hq; exact u_known hts am_ui2 (hts (.instantiable RX2 2) (am_hw_in (z := (2, 200)) (by decide +kernel)))
  | 3, hq => cases hq; exact u_known hts am_ui3 (hts (.instantiable RX3 1) (am_hw_in (z := (2, 190)) (by decide +kernel)))
  | 4, hq => cases hq; exact u_known hts am_ui4 (hts (.instantiable RX4 10) (am_hw_in (z := (1, 194)) (by decide +kernel)))
  | 5, hq => cases hq; exact u_known hts am_ui5 (hts (.instantiable RX5 7) (am_hw_in (z := (2, 156)) (by decide +kernel)))
  | 6, hq => cases hq; exact u_known hts am_ui6 (hts (.instantiable RX6 9) (am_hw_in (z := (2, 67)) (by decide +kernel)))
  | 7, hq => cases hq; exact u_known hts am_ui7 (hts (.instantiable RX7 8) (am_hw_in (z := (2, 214)) (by decide +kernel)))
  | 8, hq => cases hq; exact u_known hts am_ui8 (hts (.instantiable RX8 5) (am_hw_in (z := (1, 200)) (by decide +kernel)))
  | 9, hq => cases hq; exact u_known hts am_ui9 (hts (.instantiable RX9 19) (am_hw_in (z := (1, 34)) (by decide +kernel)))
  | 10, hq => cases hq; exact u_known hts am_ui10 (hts (.instantiable RX10 16) (am_hw_in (z := (1, 26)) (by decide +kernel)))
  | 11, hq => cases hq; exact u_known hts am_ui11 (hts (.instantiable RX11 80) (am_hw_in (z := (6, 51)) (by decide +kernel)))
  | k + 12, hq => simp [vwCl] at hq
theorem wh_arr {args : Array Value} {s : State} {ty : FieldType} (h : (Cond.arrayClass ty).before args s = true) : ∃ cA : ClassId, ArrOfT s cA ty ∧ s.vm.findClass ("[" ++ ty.toString) = some cA := by
  obtain ⟨cA, kA, comp, h1, h2, h3⟩ := Cond.arrayClass_spec h
  exact ⟨cA, fun n z => ⟨fun k h => (by cases h), kA, h2, comp, h3⟩, h1⟩
theorem wh_K {args : Array Value} {s : State} (hts : ∀ w ∈ am_tw, w.before args s = true) (hAO : va_AO RX6 s) : ∃ (D : va_G) (cy : Nat → ClassId), va_K D vwCl (am_ty cy) s := by
  have h : ∀ ci : Nat, ∃ z : ClassId × (Nat → Nat), ∀ q, vwCl[ci]? = some q → u_Kn s q.1 q.2.1 q.2.2 z.1 z.2 := fun ci => by
    cases hq : vwCl[ci]? with
    | none => exact ⟨(0, fun _ => 0), fun q z => by cases z⟩
    | some q =>
      obtain ⟨cC, iS, hk⟩ := wh_kn hts ci q hq
      exact ⟨(cC, iS), fun q z => by cases z; exact hk⟩
  obtain ⟨cb, b1, b2⟩ := wh_arr (hts _ am_w_arrb)
  obtain ⟨ci, i1, i2⟩ := wh_arr (hts _ am_w_arri)
  obtain ⟨cl, l1, l2⟩ := wh_arr (hts _ am_w_arrl)
  obtain ⟨cz, z1, z2⟩ := wh_arr (hts _ am_w_arrz)
  obtain ⟨comp, co, k, o1, o2, o3, o4, o5⟩ := Cond.arrayOver_spec hAO
  refine ⟨(fun c => (h c).choose.1, fun c => (h c).choose.2), fun q => if q = 12 then cb else if q = 13 then ci else if q = 14 then cl else if q = 15 then cz else co, fun c q hq => (h c).choose_spec q hq, ?_⟩
  intro j q hq
  match j, hq with
  | 0, hq => cases hq; exact ⟨b1, b2⟩
  | 1, hq => cases hq; exact ⟨i1, i2⟩
  | 2, hq => cases hq; exact ⟨l1, l2⟩
  | 3, hq => cases hq; exact ⟨z1, z2⟩
  | 4, hq => cases hq; exact ⟨fun N z => ⟨(fun k h => by cases h), k, o3, comp, o4⟩, k, comp, o3, o4, o1, o5⟩
  | j + 5, hq => simp [am_ty] at hq
section
variable {p : Program} {l : Launch} {e : Env} {s : State} {m : MethodId} {below : List Frame} {meth : Method} {c : Code} {Q : State → Prop} {D : va_G} {cy : Nat → ClassId} {aS b0 L : Nat} {xs : Nat → Int32} {pc : Nat} {h : am_H} {ls : Array Slot} {H : Heap} {locs : List Loc} {cells slots : Nat} {rest : List Value}
/-- the heap is the start's cells and the world's -/
theorem wh_tight (hP : va_P D vwCl (am_ws cy s.heap.size aS h) H) (hS : va_S (fun q => s.heap.size ≤ q) s.heap H locs) (hz : H.size ≤ s.heap.size + h.1.2.length) : H.size = s.heap.size + h.1.2.length := by
  rcases Nat.eq_zero_or_pos h.1.2.length with z | z
  · have := hS.1; omega
  · have := (hP _ _ (am_ws_get (show h.1.2.length - 1 < h.1.2.length by omega))).lt
    have : s.heap.size + (h.1.2.length - 1) < H.size := this
    omega
theorem wh_dj : va_D (fun q => s.heap.size ≤ q) (am_ws cy s.heap.size aS h) := by
  refine ⟨fun i j p q hi hj e => ?_, fun k q hk => ?_⟩
  · by_cases ci : i < h.1.2.length
    · by_cases cj : j < h.1.2.length
      · rw [am_ws_get ci] at hi; rw [am_ws_get cj] at hj; cases hi; cases hj
        have e : s.heap.size + i = s.heap.size + j := e
        omega
      · rw [am_ws_none cj] at hj; cases hj
    · rw [am_ws_none ci] at hi; cases hi
  · by_cases ck : k < h.1.2.length
    · rw [am_ws_get ck] at hk; cases hk; exact Nat.le_add_right _ _
    · rw [am_ws_none ck] at hk; cases hk
theorem wh_new (F : lw_fx p s m meth c D cy b0 L xs) {idx ci N : Nat} {C : String} {T : u_T} (hv : vwCl[ci]? = some (C, T, N)) (hci : ci < 12) (hN : (am_lay ci).length = N) (hd : decode code pc = .ok (.new idx, 3)) (w1 : Cond.classLink RL idx C ∈ am_tw) (w2 : Cond.instantiable C N ∈ am_tw) (w3 : Cond.initialized C ∈ am_tw) (hP : va_P D vwCl (am_ws cy s.heap.size aS h) H) (hS : va_S (fun q => s.heap.size ≤ q) s.heap H locs) (hc : cells = h.1.2.length) (h1 : cells + 1 ≤ 601024) (h2 : slots + N ≤ 7293034)
    (kk : ∀ H1 : Heap, va_P D vwCl (am_ws cy s.heap.size aS (am_nw h ci N)) H1 → va_S (fun q => s.heap.size ≤ q) s.heap H1 locs → W p l e room_1 s m #[Value.ref b0] below meth c H1 locs (cells + 1) (slots + N) Q (F0 m (pc + 3) ls (.ref (s.heap.size + h.1.2.length) :: rest))) : W p l e room_1 s m #[Value.ref b0] below meth c H locs cells slots Q (F0 m pc ls rest) := by
  obtain ⟨hx, hb, hml, hown, hts, hK, hlk, hrt, hnst, hAO, hX, hbl, hL⟩ := id F
  obtain ⟨ty0, hty, hdf⟩ := am_dT hv
  refine va_new (ty := ty0) (fs := am_fs s.heap.size aS (am_nw h ci N) h.1.2.length 0 (am_lay ci)) hx hb hts (am_ui hv) hty hown (hts _ w1) (hts _ w2) (hts _ w3) hK hP wh_dj hS (fun q hq => hq) hv (fun j hj => ?_) h1 h2 hd (fun q H1 p1 p2 p3 => ?_)
  · rw [hdf j hj]
    unfold vp_V
    rw [List.getD_eq_getElem?_getD, am_fs_get, Nat.zero_add]
    have hj' : j < (am_lay ci).length := by omega
    obtain ⟨ty, hty'⟩ : ∃ ty, (am_lay ci)[j]? = some ty := ⟨_, List.getElem?_eq_getElem hj'⟩
    have h4 := am_lay4 ci hci ty (List.mem_of_getElem? hty')
    rw [hty']
    match ty, h4 with
    | 0, _ => show Value.int 0 = .int (Int32.ofInt ((am_nw h ci N).2.1 h.1.2.length j)); rw [am_nw_I]; rfl
    | 1, _ => show Value.int 0 = .int (Int32.ofInt ((am_nw h ci N).2.1 h.1.2.length j)); rw [am_nw_I]; rfl
    | 2, _ => show Value.long 0 = .long (Int64.ofInt ((am_nw h ci N).2.2.1 h.1.2.length j)); rw [am_nw_L]; rfl
    | 3, _ => show Value.null = va_rf (((am_nw h ci N).2.2.2 h.1.2.length j).map (s.heap.size + ·)); rw [am_nw_R]; rfl
  · refine am_sized fun hz => ?_
    have hlast : (am_ws cy s.heap.size aS h ++ [(q, (.inr (ci, am_fs s.heap.size aS (am_nw h ci N) h.1.2.length 0 (am_lay ci)) : va_E))])[h.1.2.length]? = some (q, .inr (ci, am_fs s.heap.size aS (am_nw h ci N) h.1.2.length 0 (am_lay ci))) := by
      rw [List.getElem?_append_right (by rw [am_ws_len]; exact Nat.le_refl _), am_ws_len, Nat.sub_self]; rfl
    have hq : q < H1.size := (p1 _ _ hlast).lt
    have hA : s.heap.size ≤ q := p2.2 _ _ hlast
    have hqe : q = s.heap.size + h.1.2.length := by
      rcases Nat.lt_or_ge q (s.heap.size + h.1.2.length) with z | z
      · exfalso
        have g1 : (am_ws cy s.heap.size aS h ++ [(q, (.inr (ci, am_fs s.heap.size aS (am_nw h ci N) h.1.2.length 0 (am_lay ci)) : va_E))])[q - s.heap.size]? = some (s.heap.size + (q - s.heap.size), am_ce cy s.heap.size aS h (q - s.heap.size)) := by
          rw [List.getElem?_append_left (by rw [am_ws_len]; omega), am_ws_get (by omega)]
        have := p2.1 _ _ _ _ g1 hlast (by show s.heap.size + (q - s.heap.size) = q; omega)
        omega
      · omega
    subst hqe
    refine kk H1 ?_ p3
    rw [am_ws_nw, am_ce_obj am_nw_kd hci]
    exact p1
theorem wh_init (F : lw_fx p s m meth c D cy b0 L xs) (hX1 : st_P s.heap.size aS s) {idx j a n : Nat} {h' : am_H} (hj : j < 281) (hkn : am_kn j = 2) (hnp : am_np j = 0) (hret : am_r j = none) (hnm : (am_y j).name = "<init>") (hmx : 1 ≤ am_mx j) (hd : decode code pc = .ok (.invokespecial idx, 3)) (hl : Cond.methodLink RL idx (am_y j) ∈ am_tw) (hr : am_run n 20 j 0 (am_en j [vR (some a)]) [] h = some (none, h')) (hok : am_okh h) (ht : h.1.1 = true) (hP : va_P D vwCl (am_ws cy s.heap.size aS h) H) (hS : va_S (fun q => s.heap.size ≤ q) s.heap H locs) (hc : cells = h.1.2.length) (hs : slots = am_sz h.1.2) (h1 : h'.1.2.length ≤ 601024) (h2 : am_sz h'.1.2 ≤ 7293034) (hsz : ls.size = 7) (hrs : (rest.map fun v => v.category).sum ≤ 8)
    (kk : ∀ (H1 : Heap) (locs1 : List Loc), am_okh h' → va_P D vwCl (am_ws cy s.heap.size aS h') H1 → va_S (fun q => s.heap.size ≤ q) s.heap H1 locs1 → W p l e room_1 s m #[Value.ref b0] below meth c H1 locs1 h'.1.2.length (am_sz h'.1.2) Q (F0 m (pc + 3) ls rest)) : W p l e room_1 s m #[Value.ref b0] below meth c H locs cells slots Q (F0 m pc ls (.ref (s.heap.size + a) :: rest)) := by
  obtain ⟨hx, hb, hml, hown, hts, hK, hlk, hrt, hnst, hAO, hX, hbl, hL⟩ := id F
  have hasA : ∀ v ∈ [vR (some a)], am_okv v := am_ok1 (show am_okv (vR (some a)) from trivial) am_ok0
  obtain ⟨g1, g2, g3⟩ := am_run_inv n 20 j 0 (am_en j [vR (some a)]) [] h none h' hj hr (am_okL_en hasA) (fun v hv => by cases hv) hok
  obtain ⟨mc, ms, hM, hm1, hm2⟩ := am_sound5 (X := st_P s.heap.size aS) (D := D) (cy := cy) (b := s.heap.size) (aS := aS) (l := l) st_XX 20 n j [vR (some a)] h none h' hj hr hasA hok hmx
  obtain ⟨w1, w2, w3, w4, w5, w6, w7, w8, w9, w10⟩ := am_okj hj
  have hwj : am_wj j = Cond.code (am_y j) (am_c j) (am_mx j) none :: am_tw := by unfold am_wj; rw [hret]
  have hXX : am_XX5 l (st_P s.heap.size aS) s.heap.size aS := st_XX
  refine am_sized fun hz => ?_
  have htt := wh_tight hP hS (by omega)
  have hrun := va_runI (p := p) (e := e) (R := room_1) (s := s) (m := m) (args := #[Value.ref b0]) (below := below) (meth := meth) (c := c) (H := H) (locs := locs) (cells := cells) (slots := slots) (own := RL) (index := idx) (b := s.heap.size + a) (As := []) (n := am_np j) (rest := rest) (g := F0 m pc ls (.ref (s.heap.size + a) :: rest)) ⟨hx, hb, hml, hown, hts⟩ hM ⟨callB_of (am_np j) hts (am_wj_good hj) hwj rfl rfl (hts _ w2) (hts _ hl) w6 ⟨by show 20 + 5 + 1 + 1 ≤ 2048; omega, by show 8 + (am_mx j + 11) + 64 * (20 + 5 + 1) ≤ 84000; omega⟩, hnm, hts _ (w4 (by rw [hkn]; decide))⟩ ⟨am_Pc_blind hXX.1, fun U hU hW => ⟨rfl, by rw [hU]; exact hP, va_K.moved hW.alike hK, am_nst_warm hW hnst, va_AO.moved hW.alike hAO, fun z => ⟨by rw [hU]; exact htt, hXX.2.1 s hX1 H locs U hS hU hW⟩⟩⟩ rfl hnp.symm hsz rfl (lv_room hrs) hd ⟨by show cells + mc ≤ 601024; omega, by show slots + ms ≤ 7293034; omega⟩
  refine am_ret_call2 (A0 := fun q => s.heap.size ≤ q) hrun hS (fun q hq => hq.1) (fun q hq => hq.1) fun H1 locs1 p1 p2 p3 => ?_
  have z := kk H1 locs1 g2 p1 p2
  rw [show cells + mc = h'.1.2.length by omega, show slots + ms = am_sz h'.1.2 by omega]
  exact z
end
