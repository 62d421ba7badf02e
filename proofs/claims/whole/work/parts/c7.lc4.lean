/-! c7: the law: the case of the amount; all cases; the loop -/
section
variable {p : Program} {l : Launch} {e : Env} {s : State} {m : MethodId} {below : List Frame} {meth : Method} {c : Code} {Q : State → Prop} {D : va_G} {cy : Nat → ClassId} {aS b0 L sa1 sa2 : Nat} {xs : Nat → Int32} {k pc : Nat} {S : List am_V} {h : am_H} {w : (Nat × Nat × Nat × Nat)} {I Lg : (Nat → Int → Int)}
def lw_G6 (p : Program) (l : Launch) (e : Env) (s : State) (m : MethodId) (below : List Frame) (meth : Method) (c : Code) (Q : State → Prop) (D : va_G) (cy : Nat → ClassId) (aS b0 k pc : Nat) (h : am_H) : Prop :=
  ∀ (ls : Array Slot) (H : Heap) (locs : List Loc) (cells slots : Nat), lw_pt s D cy aS b0 k h ls H locs cells slots → W p l e room_1 s m #[Value.ref b0] below meth c H locs (cells + 1) (slots + 6) Q (F0 m pc ls [])
theorem lg_back6 (F : lw_fx p s m meth c D cy b0 L xs) (hk : k + 5 < L) (kk : lw_G p l e s m below meth c Q D cy aS b0 (k + 6) 23 [] h) : lw_G6 p l e s m below meth c Q D cy aS b0 k 1805 h := by
  intro ls H locs cells slots P
  obtain ⟨hx, hb, hml, hown, hts, hK, hlk, hrt, hnst, hAO, hX, hbl, hL⟩ := id F
  obtain ⟨pl, pok, ph, pP, pS, po, pc1, pc2, pc3⟩ := P
  refine lv_iinc (v := nI (k + 6)) (lv' := [(4, .int (nI (k + 6))), (0, .ref b0), (1, .ref s.heap.size), (2, .ref (s.heap.size + 99)), (3, .ref (s.heap.size + 139))]) hx hb dl_1805 pl (k := 4) rfl ?_ (by decide) rfl (fun ls hl => ?_)
  · rw [← nI_add]; rfl
  refine lv_goto (tgt := 23) hx hb dl_1808 (by decide) ?_
  exact kk ls H locs (cells + 1) (slots + 6) ⟨lv_sub hl [1, 2, 3, 4, 0] rfl, pok, ph, pP, pS, po, by omega, by omega, by omega⟩
/-- an entry of the array of calls, from any locals -/
theorem lr_a (q : Nat) {ls : Array Slot} {H : Heap} {locs : List Loc} {cells slots : Nat} {rest : List Value} (F : lw_fx p s m meth c D cy b0 L xs) (hk : k + 5 < L) (hq : q ≤ 5) (h0 : ls[0]? = some (.val (.ref b0))) (h4 : ls[4]? = some (.val (.int (nI k)))) (pS : va_S (fun q => s.heap.size ≤ q) s.heap H locs) (d0 : decode code pc = .ok (.aload_n 0, 1)) (d1 : decode code (pc + 1) = .ok (.iload 4, 2)) (d3 : decode code (pc + 3) = .ok (.iconst (q : Int), 1)) (d4 : decode code (pc + 4) = .ok (.iadd, 1)) (d5 : decode code (pc + 5) = .ok (.iaload, 1)) (kk : W p l e room_1 s m #[Value.ref b0] below meth c H locs cells slots Q (F0 m (pc + 6) ls (.int (Int32.ofInt (xs (k + q)).toInt) :: rest))) : W p l e room_1 s m #[Value.ref b0] below meth c H locs cells slots Q (F0 m pc ls rest) := by
  obtain ⟨hx, hb, hml, hown, hts, hK, hlk, hrt, hnst, hAO, hX, hbl, hL⟩ := id F
  refine lv_aload_n hx hb d0 rfl h0 ?_
  refine lv_iload hx hb d1 h4 ?_
  refine lv_iconst (v := nI q) hx hb d3 ?_ ?_
  · rcases (show q = 0 ∨ q = 1 ∨ q = 2 ∨ q = 3 ∨ q = 4 ∨ q = 5 by omega) with rfl | rfl | rfl | rfl | rfl | rfl <;> rfl
  refine lv_iadd hx hb d4 ?_
  rw [nI_add]
  refine va_sld (A := fun q => s.heap.size ≤ q) hx hb hX hbl (Nat.not_le.mpr hbl) pS (vp_in_nI (by omega) (by omega)) d5 ?_
  rw [nI_clamp (by omega)]
  rw [am_ofI] at kk
  exact kk
theorem ay_U_blind {b : Nat} {av : List Value} : FrameBlind (va_Pc av (ay_U D cy b aS sa1 sa2 h)) := by
  intro a U g mk hp
  obtain ⟨e, h1, h2, h3⟩ := hp
  exact ⟨e, (ax_U_blind (av := av) (sa1 := sa1) (sa2 := sa2) a U g mk ⟨e, h1⟩).2, h2, va_Nc.moved (u := U) (U := U.calling g mk a) (Vm.Alike.refl U.vm) h3⟩
set_option maxHeartbeats 1000000 in
theorem lc_4 (hfl : l.stackTraces = false) (hX1 : ax_P s.heap.size sa1 sa2 s) (hNc : va_Nc eN eI s) (F : lw_fx p s m meth c D cy b0 L xs) (hk : k + 5 < L) (hG : GG w I Lg) (hok : am_okh (mkH w I Lg)) (kk : ∀ w I Lg, GG w I Lg → lw_G6 p l e s m below meth c Q D cy aS b0 k 1805 (mkH w I Lg)) : lw_G p l e s m below meth c Q D cy aS b0 k 408 [] (mkH w I Lg) := by
  obtain ⟨x1, x2, v, v2, ee, I2, i1, i2, r1, r2, r3, ⟨n4, r4⟩, ⟨n5, r5⟩, g2, hE⟩ := am_amt (k := (xs (k + 1)).toInt) (t := (xs (k + 2)).toInt) hG
  have z1 : am_in x1 := by unfold am_in; omega
  have z2 : am_in x2 := by unfold am_in; omega
  refine lg_x F dl_408 ?_
  refine lg_a 1 F hk (by decide) dl_409 dl_410 dl_412 dl_413 dl_414 ?_
  refine lg_a 2 F hk (by decide) dl_415 dl_416 dl_418 dl_419 dl_420 ?_
  intro ls H locs cells slots P
  obtain ⟨hx, hb, hml, hown, hts, hK, hlk, hrt, hnst, hAO, hX, hbl, hL⟩ := id F
  obtain ⟨pl, pok, ph, pP, pS, ⟨f0, po⟩, pc1, pc2, pc3⟩ := P
  refine lv_aload_n hx hb dl_421 rfl (lv_at pl 3 rfl) ?_
  have hM := c_amountL (l := l) (D := D) (cy := cy) (b := s.heap.size) (aS := aS) (sa1 := sa1) (sa2 := sa2) (h := mkH w I Lg) (k := (xs (k + 1)).toInt) (t := (xs (k + 2)).toInt) hfl hok rfl rfl (lx_in _) (lx_in _) z1 z2 r1 r2 r3
  have hrun := vx_runSW (p := p) (e := e) (R := room_1) (s := s) (m := m) (args := #[Value.ref b0]) (below := below) (meth := meth) (c := c) (H := H) (locs := locs) (cells := cells) (slots := slots) (own := RL) (index := 39) (n := 4) (hh := ax_hh) (bytes := cL_amount) (maxL := 5) (ret := some .int) (As := [.ref s.heap.size, .int (Int32.ofInt (xs (k + 1)).toInt), .int (Int32.ofInt (xs (k + 2)).toInt), .ref (s.heap.size + 139)]) (rest := []) (g := F0 m 422 ls [.ref (s.heap.size + 139), .int (Int32.ofInt (xs (k + 2)).toInt), .int (Int32.ofInt (xs (k + 1)).toInt), .ref s.heap.size]) ⟨hx, hb, hml, hown, hts⟩ hM ⟨⟨rfl, rfl, Nat.le_of_ble_eq_true rfl, Nat.le_of_ble_eq_true rfl, pay_in (big := am_tw) hts (fun w hw => by
      rcases List.mem_cons.mp hw with rfl | hw
      · exact am_tw_good _ (am_hw_in (z := (5, 201)) (by decide +kernel))
      · exact am_tw_good _ hw), List.mem_cons_self⟩, hts _ (am_hw_in (z := (5, 201)) (by decide +kernel)), hts _ (am_hw_in (z := (1, 0)) (by decide +kernel)), ⟨by decide, by decide⟩, fun sig hs => by
        have e9 : (parseMethodDescriptor yL_amount.desc).map (fun d => d.parameters.length) = some 4 := by decide
        rw [hs] at e9; exact (Option.some.inj e9).symm, hts _ (am_hw_in (z := (5, 199)) (by decide +kernel)), hts _ (am_hw_in (z := (5, 200)) (by decide +kernel))⟩ ⟨ay_U_blind, fun U hU hW => ⟨rfl, ⟨by rw [hU]; exact pP, va_K.moved hW.alike hK, am_nst_warm hW hnst, va_AO.moved hW.alike hAO, hX1.to hU hW pS⟩, ⟨f0, by unfold ay_out; rw [hU]; exact po⟩, va_Nc.moved hW.alike hNc⟩⟩ rfl rfl pl.1 rfl (lv_room (Nat.zero_le _)) dl_422 ⟨by show cells + 1 ≤ 601024; omega, by show slots + 6 ≤ 7293034; omega⟩
  refine va_calli hrun pS (fun q _ hq => hq) (fun q hq => hq) ?_
  intro r f T H1 locs1 hT hvm hpost hB hz hq hS1
  obtain ⟨hP1, hO1⟩ := hB
  rw [hT] at hP1 hO1
  have hO1 : H1[s.heap.size + 139]? = some (vp_cell (cy 14) (1, .inr (.inl f))) := hO1
  refine lv_istore hx hb dl_425 pl (by decide) rfl (fun ls1 hl1 => ?_)
  have hl1 : lv_has ls1 7 [(5, .int r), (0, .ref b0), (1, .ref s.heap.size), (2, .ref (s.heap.size + 99)), (3, .ref (s.heap.size + 139)), (4, .int (nI k))] := hl1
  refine lv_aload_n hx hb dl_427 rfl (lv_at hl1 3 rfl) ?_
  refine lr_a 1 F hk (by decide) (lv_at hl1 1 rfl) (lv_at hl1 5 rfl) hS1 dl_428 dl_429 dl_431 dl_432 dl_433 ?_
  refine lr_a 2 F hk (by decide) (lv_at hl1 1 rfl) (lv_at hl1 5 rfl) hS1 dl_434 dl_435 dl_437 dl_438 dl_439 ?_
  have hA0 : ∀ q, s.heap.size ≤ q ∧ q < s.heap.size + 139 → s.heap.size ≤ q := fun q hq => hq.1
  have hcap : cells + 1 ≤ room_1.cells ∧ slots + 6 ≤ room_1.slots := ⟨by show cells + 1 ≤ 601024; omega, by show slots + 6 ≤ 7293034; omega⟩
  refine am_cV (R := room_1) (D := D) (cy := cy) (b := s.heap.size) (aS := aS) (own := RL) (A0 := fun q => s.heap.size ≤ q) (rest := []) (idx := 44) (j := 222) (a := 99) (as := [vI (xs (k + 1)).toInt, vI (xs (k + 2)).toInt]) hx hb hml hown hts hK hnst hAO dl_440 (am_hw_in (z := (7, 226)) (by decide +kernel)) (by decide) rfl rfl ⟨_, rfl⟩ (by decide) (Nat.le_of_ble_eq_true rfl) (Nat.le_of_ble_eq_true rfl) (am_ok1 (lx_in _) (am_ok1 (lx_in _) am_ok0)) (Nat.le_of_ble_eq_true rfl) (Nat.le_of_ble_eq_true rfl) r4 hok rfl hP1 hS1 hA0 hl1.1 hcap (fun H2 locs2 p1 p2 p3 => ?_)
  have n139 : ¬ (s.heap.size ≤ s.heap.size + 139 ∧ s.heap.size + 139 < s.heap.size + 139) := fun z => by have := z.2; omega
  have hO2 : H2[s.heap.size + 139]? = some (vp_cell (cy 14) (1, .inr (.inl f))) := by rw [p3 _ (Array.getElem?_eq_some_iff.mp hO1).1 n139]; exact hO1
  have hok2 : am_okh (mkH w I2 Lg) := (am_run_inv n4 20 222 0 (am_en 222 [vR (some 99), vI (xs (k + 1)).toInt, vI (xs (k + 2)).toInt]) [] (mkH w I Lg) _ _ (by decide) r4 (am_okL_en (am_ok1 (show am_okv (vR (some 99)) from trivial) (am_ok1 (lx_in _) (am_ok1 (lx_in _) am_ok0)))) (fun v hv => by cases hv) hok).2.1
  refine lv_istore (x := Int32.ofInt v2) hx hb dl_443 hl1 (by decide) rfl (fun ls2 hl2 => ?_)
  have hl2 : lv_has ls2 7 [(6, .int (Int32.ofInt v2)), (5, .int r), (0, .ref b0), (1, .ref s.heap.size), (2, .ref (s.heap.size + 99)), (3, .ref (s.heap.size + 139)), (4, .int (nI k))] := hl2
  refine lv_aload_n hx hb dl_445 rfl (lv_at hl2 4 rfl) ?_
  refine am_cV (R := room_1) (D := D) (cy := cy) (b := s.heap.size) (aS := aS) (own := RL) (A0 := fun q => s.heap.size ≤ q) (rest := []) (idx := 45) (j := 151) (a := 99) (as := []) hx hb hml hown hts hK hnst hAO dl_446 (am_hw_in (z := (7, 80)) (by decide +kernel)) (by decide) rfl rfl ⟨_, rfl⟩ (by decide) (Nat.le_of_ble_eq_true rfl) (Nat.le_of_ble_eq_true rfl) am_ok0 (Nat.le_of_ble_eq_true rfl) (Nat.le_of_ble_eq_true rfl) r5 hok2 rfl p1 p2 hA0 hl2.1 hcap (fun H3 locs3 q1 q2 q3 => ?_)
  have hO3 : H3[s.heap.size + 139]? = some (vp_cell (cy 14) (1, .inr (.inl f))) := by rw [q3 _ (Array.getElem?_eq_some_iff.mp hO2).1 n139]; exact hO2
  refine lv_iload hx hb dl_449 (lv_at hl2 1 rfl) ?_
  have her : Int32.ofInt ee = r := by
    rcases hpost with ⟨a1, a2, a3, a4⟩ | ⟨a1, a2⟩ | ⟨a1, a2, a3⟩ <;> rcases hE with ⟨b1, b2, b3, b4⟩ | ⟨b1, b2⟩ | ⟨b1, b2, b3⟩ <;> first | (subst a1; subst b1; rfl) | omega
  have last : W p l e room_1 s m #[Value.ref b0] below meth c H3 locs3 (cells + 1) (slots + 6) Q (F0 m 1805 ls2 []) := kk w I2 Lg g2 ls2 H3 locs3 cells slots ⟨lv_sub hl2 [2, 3, 4, 5, 6] rfl, hok2, rfl, q1, q2, ⟨f, hO3⟩, pc1, pc2, pc3⟩
  refine lv_icmp_eq (x := Int32.ofInt ee) (tgt := 456) hx hb dl_451 (by decide) (fun _ => ?_) (fun z => absurd her (fun y => z (by first | exact y | exact y.symm)))
  refine lv_iload hx hb dl_456 (lv_at hl2 1 rfl) ?_
  refine lv_if_ne (tgt := 473) hx hb dl_458 (by decide) (fun _ => lv_goto (tgt := 1805) hx hb dl_473 (by decide) last) (fun y => ?_)
  have hf : f 0 = (Int32.ofInt v2).toInt64 := by
    rcases hpost with ⟨a1, a2, a3, a4⟩ | ⟨a1, a2⟩ | ⟨a1, a2, a3⟩
    · rcases hE with ⟨b1, b2, b3, b4⟩ | ⟨b1, b2⟩ | ⟨b1, b2, b3⟩
      · rw [a4, b4]
      · exact absurd b2 a2
      · exact absurd b3 a3
    · rw [a1] at y; cases y
    · rw [a1] at y; cases y
  refine lv_aload_n hx hb dl_461 rfl (lv_at hl2 5 rfl) ?_
  refine lv_iconst (v := 0) hx hb dl_462 (by decide) ?_
  refine va_lald (a := s.heap.size + 139) (ws := [(s.heap.size + 139, .inl (cy 14, 1, .inr (.inl f)))]) (n := 1) (f := f) hx hb hK (fun i q hi => by
    cases i with
    | zero => cases hi; exact hO3
    | succ i => cases hi) 0 2 rfl rfl (vp_in_nI (n := 0) (N := 1) (by decide) (by decide)) dl_463 ?_
  refine lv_iload hx hb dl_464 (lv_at hl2 0 rfl) ?_
  refine lv_i2l hx hb dl_466 rfl ?_
  have e0 : lg_cmp (f (Int32.toNatClampNeg 0)) (Int32.ofInt v2).toInt64 = 0 := by
    show lg_cmp (f 0) _ = 0
    rw [hf]
    unfold lg_cmp
    rw [if_neg (by simp), if_pos rfl]
  refine W.lcmp hx hb dl_467 ?_
  rw [e0]
  exact lv_if_eq (tgt := 473) hx hb dl_468 (by decide) (fun _ => lv_goto (tgt := 1805) hx hb dl_473 (by decide) last) (fun z => absurd rfl z)
theorem lc_all6 (hfl : l.stackTraces = false) (hX1 : ax_P s.heap.size sa1 sa2 s) (hNc : va_Nc eN eI s) (F : lw_fx p s m meth c D cy b0 L xs) (hk : k + 5 < L) (hG : GG w I Lg) (hok : am_okh (mkH w I Lg)) (k6 : ∀ w I Lg, GG w I Lg → lw_G6 p l e s m below meth c Q D cy aS b0 k 1805 (mkH w I Lg)) (kk : ∀ w I Lg, GG w I Lg → lw_G p l e s m below meth c Q D cy aS b0 k 1805 [] (mkH w I Lg)) : ∀ j, j < 64 → lw_G p l e s m below meth c Q D cy aS b0 k (lw_tg j) [] (mkH w I Lg)
  | 0, _ => lc_0 F hk hG hok kk
  | 1, _ => lc_1 F hk hG hok kk
  | 2, _ => lc_2 F hk hG hok kk
  | 3, _ => lc_3 F hk hG hok kk
  | 4, _ => lc_4 (sa1 := sa1) (sa2 := sa2) hfl hX1 hNc F hk hG hok k6
  | 5, _ => lc_5 F hk hG hok kk
  | 6, _ => lc_6 F hk hG hok kk
  | 7, _ => lc_7 F hk hG hok kk
  | 8, _ => lc_8 F hk hG hok kk
  | 9, _ => lc_9 F hk hG hok kk
  | 10, _ => lc_10 F hk hG hok kk
  | 11, _ => lc_11 F hk hG hok kk
  | 12, _ => lc_12 F hk hG hok kk
  | 13, _ => lc_13 F hk hG hok kk
  | 14, _ => lc_14 F hk hG hok kk
  | 15, _ => lc_15 F hk hG hok kk
  | 16, _ => lc_16 F hk hG hok kk
  | 17, _ => lc_17 F hk hG hok kk
  | 18, _ => lc_18 F hk hG hok kk
  | 19, _ => lc_19 F hk hG hok kk
  | 20, _ => lc_20 F hk hG hok kk
  | 21, _ => lc_21 F hk hG hok kk
  | 22, _ => lc_22 F hk hG hok kk
  | 23, _ => lc_23 F hk hG hok kk
  | 24, _ => lc_24 F hk hG hok kk
  | 25, _ => lc_25 F hk hG hok kk
  | 26, _ => lc_26 F hk hG hok kk
  | 27, _ => lc_27 F hk hG hok kk
  | 28, _ => lc_28 F hk hG hok kk
  | 29, _ => lc_29 F hk hG hok kk
  | 30, _ => lc_30 F hk hG hok kk
  | 31, _ => lc_31 F hk hG hok kk
  | 32, _ => lc_32 F hk hG hok kk
  | 33, _ => lc_33 F hk hG hok kk
  | 34, _ => lc_34 F hk hG hok kk
  | 35, _ => lc_35 F hk hG hok kk
  | 36, _ => lc_36 F hk hG hok kk
  | 37, _ => lc_37 F hk hG hok kk
  | 38, _ => lc_38 F hk hG hok kk
  | 39, _ => lc_39 F hk hG hok kk
  | 40, _ => lc_40 F hk hG hok kk
  | 41, _ => lc_41 F hk hG hok kk
  | 42, _ => lc_42 F hk hG hok kk
  | 43, _ => lc_43 F hk hG hok kk
  | 44, _ => lc_44 F hk hG hok kk
  | 45, _ => lc_45 F hk hG hok kk
  | 46, _ => lc_46 F hk hG hok kk
  | 47, _ => lc_47 F hk hG hok kk
  | j + 48, _ => kk w I Lg hG
theorem law_loop6 (hfl : l.stackTraces = false) (hX1 : ax_P s.heap.size sa1 sa2 s) (hNc : va_Nc eN eI s) (F : lw_fx p s m meth c D cy b0 L xs) : ∀ (n k : Nat) (w : (Nat × Nat × Nat × Nat)) (I Lg : (Nat → Int → Int)), L < k + n → k ≤ L → GG w I Lg → lw_G p l e s m below meth c (lw_Z below #[Value.ref b0] s) D cy aS b0 k 23 [] (mkH w I Lg)
  | 0, k, w, I, Lg, hn, hk0, hG => absurd hn (by omega)
  | n + 1, k, w, I, Lg, hn, hk0, hG => by
    intro ls H locs cells slots P
    have hok := P.2.1
    obtain ⟨hx, hb, hml, hown, hts, hK, hlk, hrt, hnst, hAO, hX, hbl, hL⟩ := id F
    refine lv_iload hx hb dl_23 (lv_at P.1 4 rfl) ?_
    refine lv_aload_n hx hb dl_25 rfl (lv_at P.1 0 rfl) ?_
    refine va_slen (A := fun q => s.heap.size ≤ q) hx hb hX hbl (Nat.not_le.mpr hbl) P.2.2.2.2.1 dl_26 ?_
    refine lv_bipush (v := 6) hx hb dl_27 (by decide) ?_
    refine lv_isub hx hb dl_29 ?_
    have e6 : Int32.ofNat L - 6 = Int32.ofInt ((L : Int) - 6) := by
      rw [show Int32.ofNat L = Int32.ofInt (L : Int) from lx_nI (show L < 2147483648 by omega), show (6 : Int32) = Int32.ofInt 6 from rfl, am_sub, am_w_id (by unfold am_in; omega)]
    rw [e6, lx_nI (show k < 2147483648 by omega)]
    have lt : Int32.ofInt ((L : Int) - 6) < Int32.ofInt (k : Int) ↔ (L : Int) - 6 < k := am_lt0 (by unfold am_in; omega) (by unfold am_in; omega)
    refine lv_icmp_gt (tgt := 1811) hx hb dl_30 (by decide) (fun z => ?_) (fun z => ?_)
    · refine va_forget (fun q hq => P.2.2.2.2.1.2.2 q hq) ?_
      refine lv_iconst (v := 1) hx hb dl_1811 (by decide) ?_
      refine W.widen (k := 601024) (n := 7293034) (by have := P.2.2.2.2.2.2; omega) (by have := P.2.2.2.2.2.2; omega) ?_
      exact lw_ret hx hb hrt hlk dl_1812
    · have hk : k + 5 < L := by
        have : ¬ (L : Int) - 6 < k := fun q => z (lt.mpr q)
        omega
      exact lg_tab F hk (lc_all6 hfl hX1 hNc F hk hG hok (fun w' I' L' g => lg_back6 F hk (law_loop6 hfl hX1 hNc F n (k + 6) w' I' L' (by omega) (by omega) g)) (fun w' I' L' g => lg_back F hk (law_loop6 hfl hX1 hNc F n (k + 6) w' I' L' (by omega) (by omega) g))) ls H locs cells slots P
end
