/-! ce: the law from its entry -/
def wh_e0 : am_H := ((true, []), (fun _ _ => 0), (fun _ _ => 0), (fun _ _ => none))
theorem wh_h0 : am_nw wh_e0 10 16 = cz_h0 := by
  refine Prod.ext rfl (Prod.ext ?_ (Prod.ext ?_ ?_)) <;> (funext a j; show (if _ then _ else _) = _; split <;> rfl)
theorem wh_ok0 : am_okh cz_h0 := by
  refine ⟨fun a j => ?_, fun a j => ?_, fun q hq => ?_⟩
  · show am_in 0; unfold am_in; omega
  · show am_inl 0; unfold am_inl; omega
  · rw [List.mem_singleton.mp hq]; decide
theorem wh_sz : am_sz (cz_sh.take 99) + 80 ≤ 7293034 ∧ am_sz cz_sh + 1 ≤ 20000 := by decide +kernel
set_option maxHeartbeats 1000000 in
theorem whole_start {p : Program} {e : Env} {s : State} {m : MethodId} {below : List Frame} {meth : Method} {c : Code} (l : Launch) (hflags : l.flags = flags0) {b L : Nat} {xs : Nat → Int32} (hL : L ≤ 3072) (C0 : lw_At p s m meth c b L xs) : W p l e room_1 s m #[Value.ref b] below meth c s.heap [] 0 0 (lw_Z below #[Value.ref b] s) (entryFrame m ([Value.ref b] : List Value).toArray 7) := by
  obtain ⟨hx, hb, hr, hml, hown, hts, hX, hbl, hlocks, hgv⟩ := id C0
  have hfl : l.stackTraces = false := by unfold Launch.stackTraces; rw [hflags]; decide +kernel
  have htw : ∀ w ∈ am_tw, w.before #[Value.ref b] s = true := fun w hw => hts w (List.mem_filter.mp hw).1
  have hAO : va_AO RX6 s := va_AO.of (hts _ wh_ao)
  have hnst : ∀ w ∈ am_nst, va_Nw w s := fun w hw => va_Nw.of (wh_nsT w hw) (hts w (ax_all wh_nst w hw))
  obtain ⟨D, cy, hK⟩ := wh_K htw hAO
  obtain ⟨aS, hst⟩ := wh_str hts hgv
  have hcX : s.vm.findClass RX10 = some (D.1 10) := (hK.1 10 _ rfl).2.1
  obtain ⟨sa1, sa2, hax⟩ := wh_ax hcX hts hgv
  have hNc : va_Nc eN eI s := va_Nc.of (wh_f hgv 23 wh_flat.2.2.2.2.1)
  have F : lw_fx p s m meth c D cy b L xs := ⟨hx, hb, hml, hown, htw, hK, hlocks, hr, hnst, hAO, hX, hbl, hL⟩
  obtain ⟨h1, h3, t1, s1, t3, s3, hck⟩ := cz_ctor
  have len1 : h1.1.2.length = 99 := by rw [s1]; rfl
  have len3 : h3.1.2.length = 139 := by rw [s3]; rfl
  have sz1 : am_sz h1.1.2 + 80 ≤ 7293034 := by rw [s1]; exact wh_sz.1
  have sz3 : am_sz h3.1.2 + 1 ≤ 20000 := by rw [s3]; exact wh_sz.2
  have hl := lv_entry ([.ref b]) (n := 7) (Nat.le_of_ble_eq_true rfl)
  rw [lg_entry_eq]
  generalize (lg_sl ([.ref b]) ++ List.replicate (7 - (lg_sl ([.ref b])).length) Slot.unset).toArray = ls at hl ⊢
  have hl : lv_has ls 7 [(0, .ref b)] := hl
  refine wh_new (aS := aS) (h := wh_e0) (ci := 10) (N := 16) (C := RX10) F rfl (by decide) rfl dl_0 (am_hw_in (z := (1, 25)) (by decide +kernel)) (am_hw_in (z := (1, 26)) (by decide +kernel)) (am_hw_in (z := (1, 1)) (by decide +kernel)) (fun k q hk => by rw [am_ws_none (h := wh_e0) (by show ¬ k < 0; omega)] at hk; cases hk) va_S.rf rfl (by decide) (by decide) (fun H1 p1 q1 => ?_)
  rw [wh_h0] at p1
  refine lv_dup hx hb dl_3 rfl ?_
  refine wh_init (aS := aS) (h := cz_h0) (h' := h1) (j := 86) (a := 0) (n := 20000) F hst (by decide) rfl rfl rfl rfl (by decide) dl_4 (am_hw_in (z := (1, 27)) (by decide +kernel)) t1 wh_ok0 rfl p1 q1 rfl rfl (by omega) (by omega) hl.1 (Nat.le_of_ble_eq_true rfl) (fun H2 locs2 ok2 p2 q2 => ?_)
  refine lv_astore_n hx hb dl_7 rfl hl (by decide) rfl (fun ls1 hl1 => ?_)
  have hl1 : lv_has ls1 7 [(1, .ref s.heap.size), (0, .ref b)] := hl1
  refine wh_new (aS := aS) (h := h1) (ci := 11) (N := 80) (C := RX11) F rfl (by decide) rfl dl_8 (am_hw_in (z := (6, 50)) (by decide +kernel)) (am_hw_in (z := (6, 51)) (by decide +kernel)) (am_hw_in (z := (1, 16)) (by decide +kernel)) p2 q2 rfl (by omega) sz1 (fun H3 p3 q3 => ?_)
  rw [len1]
  refine lv_dup hx hb dl_11 rfl ?_
  refine wh_init (aS := aS) (h := am_nw h1 11 80) (h' := h3) (j := 150) (a := 99) (n := 20000) F hst (by decide) rfl rfl rfl rfl (by decide) dl_12 (am_hw_in (z := (6, 52)) (by decide +kernel)) t3 (am_okh_nw ok2 (by decide)) (by show h1.1.1 = true; rw [s1]) p3 q3 (by show 99 + 1 = (h1.1.2 ++ [(11, 80)]).length; rw [List.length_append, len1]; rfl) (by show _ = am_sz (h1.1.2 ++ [(11, 80)]); rw [am_sz_app]; rfl) (by omega) (by omega) hl1.1 (Nat.le_of_ble_eq_true rfl) (fun H4 locs4 ok4 p4 q4 => ?_)
  refine lv_astore_n hx hb dl_15 rfl hl1 (by decide) rfl (fun ls2 hl2 => ?_)
  have hl2 : lv_has ls2 7 [(2, .ref (s.heap.size + 99)), (1, .ref s.heap.size), (0, .ref b)] := hl2
  refine lv_iconst (v := 1) hx hb dl_16 (by decide) ?_
  refine am_sized fun hz => ?_
  have htt := wh_tight p4 q4 hz
  rw [len3] at htt
  refine va_newaK (atype := .long) (N := 1) (h := s.heap.size + 139) hx hb (htw _ am_w_arrl) rfl dl_17 rfl (by decide) (by decide) (by decide) (by show h3.1.2.length + 1 ≤ 601024; omega) (by show am_sz h3.1.2 + 1 ≤ 7293034; omega) htt (fun H5 cA e5 z5 o5 hAr hNm => ?_)
  show W p l e room_1 s m #[Value.ref b] below meth c H5 locs4 _ _ _ (F0 m 19 ls2 [.ref (s.heap.size + 139)])
  have eA : cA = cy 14 := Option.some.inj (hNm.symm.trans (hK.2 2 _ rfl).2)
  subst eA
  refine lv_astore_n hx hb dl_19 rfl hl2 (by decide) rfl (fun ls3 hl3 => ?_)
  have hl3 : lv_has ls3 7 [(3, .ref (s.heap.size + 139)), (2, .ref (s.heap.size + 99)), (1, .ref s.heap.size), (0, .ref b)] := hl3
  refine lv_iconst (v := nI 0) hx hb dl_20 (by decide) ?_
  refine lv_istore hx hb dl_21 hl3 (by decide) rfl (fun ls4 hl4 => ?_)
  have hl4 : lv_has ls4 7 [(4, .int (nI 0)), (3, .ref (s.heap.size + 139)), (2, .ref (s.heap.size + 99)), (1, .ref s.heap.size), (0, .ref b)] := hl4
  have hcR : cz_cR h3 cz_sh 0 = true := by unfold cz_ck at hck; rw [Bool.and_eq_true] at hck; exact hck.2
  have o5' : ∀ q : Nat, q < H4.size → H5[q]? = H4[q]? := fun q hq => o5 q (by omega)
  have okm : am_okh (mkH cz_w0 h3.2.1 h3.2.2.1) := ⟨ok4.1, ok4.2.1, by have := ok4.2.2; rw [s3] at this; exact this⟩
  exact law_loop6 hfl hax hNc F (L + 1) 0 cz_w0 h3.2.1 h3.2.2.1 (by omega) (by omega) (cz_gg hck) ls4 H5 locs4 _ _ ⟨lv_sub hl4 [4, 3, 2, 1, 0] rfl, okm, rfl, ax_keep (va_P.mk s3 hcR p4) o5', ⟨by have := q4.1; omega, fun q g1 g2 => (o5' q (Nat.lt_of_lt_of_le g1 q4.1)).trans (q4.2.1 q g1 g2), q4.2.2⟩, ⟨fun _ => 0, by rw [vp_cell_l]; exact e5⟩, by omega, by omega, by omega⟩
