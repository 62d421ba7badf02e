/-! ca: length() and charAt() of the words, go on -/
theorem st_lc {l : Launch} {b aS aV k : Nat} (hk : k < 100) : Met l yJ1_charAt_3b067 (st_w yJ1_charAt_3b067 cJ1_charAt_3b067 2 (some .char)) (st_rm 3) (va_Pc [.ref aV, .int (Int32.ofInt (k : Int))] (st_V b aS aV)) (st_Q (some (.int (Int32.ofInt (am_str.getD k 0 : Nat))))) 0 0 st_no := by
  refine Met.ofW (cc := cJ1_charAt_3b067) (maxL := 2) (ret := some .char) (by decide) rfl ?_
  intro p e s m args below meth c s₁ B hml hv
  obtain ⟨rfl, hV⟩ := hv
  have hx := B.exec
  have hb := B.bytes
  have hr := B.returns
  have hlk := B.notSynchronized
  have hts0 := atoms_spec (ws := st_w yJ1_charAt_3b067 cJ1_charAt_3b067 2 (some .char)) B.pre
  have hts : ∀ w ∈ am_tw, w.before #[Value.ref aV, Value.int (Int32.ofInt (k : Int))] s = true := fun w hw => hts0 w (List.mem_cons_of_mem _ hw)
  have hown : s.vm.findClass RJ1 = some m.cls := findClass_of_methodNamed B.named
  have hl := lv_entry ([.ref aV, .int (Int32.ofInt (k : Int))]) (n := 2) (Nat.le_of_ble_eq_true rfl)
  rw [lg_entry_eq]
  generalize (lg_sl ([.ref aV, .int (Int32.ofInt (k : Int))]) ++ List.replicate (2 - (lg_sl ([.ref aV, .int (Int32.ofInt (k : Int))])).length) Slot.unset).toArray = ls at hl ⊢
  have hl : lv_has ls 2 [(0, .ref aV), (1, .int (Int32.ofInt (k : Int)))] := hl
  have hT := (hV.1.1 0 (by decide)).2.2.2
  have kc : (Int32.ofInt (k : Int)).toNatClampNeg = k := by rw [am_clamp (by unfold am_in; omega)]; rfl
  refine lv_iload_n hx hb dJ1_charAt_3b067_0 rfl (lv_at hl 1 rfl) ?_
  refine lv_aload_n hx hb dJ1_charAt_3b067_1 rfl (lv_at hl 0 rfl) ?_
  refine va_tlen hx hb hT va_S.rf (v := Int32.ofInt 100) (by decide) dJ1_charAt_3b067_2 ?_
  refine st_call (va_runS (n := 2) (own := RJ1) (index := 9) (As := [.int (Int32.ofInt (k : Int)), .int (Int32.ofInt 100)]) (rest := []) ⟨hx, hb, hml, hown, hts⟩ (st_ck0 (b := b) (aS := aS) (aV := aV) hk) ⟨callB_of 2 hts (st_good (am_hw_in (z := (1, 229)) (by decide +kernel))) rfl rfl rfl (hts _ (am_hw_in (z := (1, 6)) (by decide +kernel))) (hts _ (am_hw_in (z := (1, 227)) (by decide +kernel))) (by decide) ⟨by decide, by decide⟩, hts _ (am_hw_in (z := (1, 228)) (by decide +kernel))⟩ ⟨st_blind, fun U hU hW => ⟨rfl, hV.to hU hW va_S.rf⟩⟩ rfl rfl hl.1 rfl (lv_room (by decide)) dJ1_charAt_3b067_3 ⟨by decide, by decide⟩) ?_
  refine lv_aload_n hx hb dJ1_charAt_3b067_6 rfl (lv_at hl 0 rfl) ?_
  refine lv_iload_n hx hb dJ1_charAt_3b067_7 rfl (lv_at hl 1 rfl) ?_
  refine va_tb hx hb hT va_S.rf (v := .int (st_by.getD k 0)) (am_idx (by omega) (by show (k : Int) < (100 : Nat); omega) (by unfold am_in; omega)) (by rw [kc]; rfl) dJ1_charAt_3b067_8 ?_
  refine lv_sipush (v := 255) hx hb dJ1_charAt_3b067_9 (by decide) ?_
  refine lv_iand hx hb dJ1_charAt_3b067_12 ?_
  refine lv_i2c hx hb dJ1_charAt_3b067_13 (st_ch ⟨k, hk⟩).1 ?_
  exact W.zret hx hb hr (st_ch ⟨k, hk⟩).2 (fun t ht _ => ⟨rfl, ht⟩) (fun q hq => nomatch hq) dJ1_charAt_3b067_14 hlk
theorem st_l1 {l : Launch} {b aS aV : Nat} : Met l yJ0_isLatin1_aae02 (st_w yJ0_isLatin1_aae02 cJ0_isLatin1_aae02 1 (some .boolean)) (st_rm 1) (va_Pc [.ref aS] (st_V b aS aV)) (st_Q (some (.int 1))) 0 0 st_no := by
  refine Met.ofW (cc := cJ0_isLatin1_aae02) (maxL := 1) (ret := some .boolean) (by decide) rfl ?_
  intro p e s m args below meth c s₁ B hml hv
  obtain ⟨rfl, hV⟩ := hv
  have hx := B.exec
  have hb := B.bytes
  have hr := B.returns
  have hlk := B.notSynchronized
  have hts0 := atoms_spec (ws := st_w yJ0_isLatin1_aae02 cJ0_isLatin1_aae02 1 (some .boolean)) B.pre
  have hts : ∀ w ∈ am_tw, w.before #[Value.ref aS] s = true := fun w hw => hts0 w (List.mem_cons_of_mem _ hw)
  have hown : s.vm.findClass RJ0 = some m.cls := findClass_of_methodNamed B.named
  have hl := lv_entry ([.ref aS]) (n := 1) (Nat.le_of_ble_eq_true rfl)
  rw [lg_entry_eq]
  generalize (lg_sl ([.ref aS]) ++ List.replicate (1 - (lg_sl ([.ref aS])).length) Slot.unset).toArray = ls at hl ⊢
  have hl : lv_has ls 1 [(0, .ref aS)] := hl
  refine va_gets hx hb hV.2.1 va_S.rf hown (hts _ (am_hw_in (z := (1, 214)) (by decide +kernel))) (fun _ h => h) dJ0_isLatin1_aae02_0 ?_
  refine lv_if_eq (tgt := 17) hx hb dJ0_isLatin1_aae02_3 (by decide) (fun z => absurd z (by decide)) (fun _ => ?_)
  refine lv_aload_n hx hb dJ0_isLatin1_aae02_6 rfl (lv_at hl 0 rfl) ?_
  refine vk_getf hx hb (hV.1.1 0 (by decide)).2.1 va_S.rf hown (hts _ (am_hw_in (z := (9, 113)) (by decide +kernel))) (fun _ h => h) dJ0_isLatin1_aae02_7 ?_
  refine lv_if_ne (tgt := 17) hx hb dJ0_isLatin1_aae02_10 (by decide) (fun z => absurd rfl z) (fun _ => ?_)
  refine lv_iconst (v := 1) hx hb dJ0_isLatin1_aae02_13 (by decide) ?_
  refine lv_goto (tgt := 18) hx hb dJ0_isLatin1_aae02_14 (by decide) ?_
  exact W.zret hx hb hr (by decide) (fun t ht _ => ⟨rfl, ht⟩) (fun q hq => nomatch hq) dJ0_isLatin1_aae02_18 hlk
theorem st_cd {l : Launch} {b aS aV : Nat} : Met l yJ0_coder_7d493 (st_w yJ0_coder_7d493 cJ0_coder_7d493 1 (some .byte)) (st_rm 1) (va_Pc [.ref aS] (st_V b aS aV)) (st_Q (some (.int 0))) 0 0 st_no := by
  refine Met.ofW (cc := cJ0_coder_7d493) (maxL := 1) (ret := some .byte) (by decide) rfl ?_
  intro p e s m args below meth c s₁ B hml hv
  obtain ⟨rfl, hV⟩ := hv
  have hx := B.exec
  have hb := B.bytes
  have hr := B.returns
  have hlk := B.notSynchronized
  have hts0 := atoms_spec (ws := st_w yJ0_coder_7d493 cJ0_coder_7d493 1 (some .byte)) B.pre
  have hts : ∀ w ∈ am_tw, w.before #[Value.ref aS] s = true := fun w hw => hts0 w (List.mem_cons_of_mem _ hw)
  have hown : s.vm.findClass RJ0 = some m.cls := findClass_of_methodNamed B.named
  have hl := lv_entry ([.ref aS]) (n := 1) (Nat.le_of_ble_eq_true rfl)
  rw [lg_entry_eq]
  generalize (lg_sl ([.ref aS]) ++ List.replicate (1 - (lg_sl ([.ref aS])).length) Slot.unset).toArray = ls at hl ⊢
  have hl : lv_has ls 1 [(0, .ref aS)] := hl
  refine va_gets hx hb hV.2.1 va_S.rf hown (hts _ (am_hw_in (z := (1, 214)) (by decide +kernel))) (fun _ h => h) dJ0_coder_7d493_0 ?_
  refine lv_if_eq (tgt := 13) hx hb dJ0_coder_7d493_3 (by decide) (fun z => absurd z (by decide)) (fun _ => ?_)
  refine lv_aload_n hx hb dJ0_coder_7d493_6 rfl (lv_at hl 0 rfl) ?_
  refine vk_getf hx hb (hV.1.1 0 (by decide)).2.1 va_S.rf hown (hts _ (am_hw_in (z := (9, 113)) (by decide +kernel))) (fun _ h => h) dJ0_coder_7d493_7 ?_
  refine lv_goto (tgt := 14) hx hb dJ0_coder_7d493_10 (by decide) ?_
  exact W.zret hx hb hr (by decide) (fun t ht _ => ⟨rfl, ht⟩) (fun q hq => nomatch hq) dJ0_coder_7d493_14 hlk
theorem st_ln {l : Launch} {b aS aV : Nat} : Met l yJ0_length_8abf5 (st_w yJ0_length_8abf5 cJ0_length_8abf5 1 (some .int)) (st_rm 2) (va_Pc [.ref aS] (st_V b aS aV)) (st_Q (some (.int (Int32.ofInt 100)))) 0 0 st_no := by
  refine Met.ofW (cc := cJ0_length_8abf5) (maxL := 1) (ret := some .int) (by decide) rfl ?_
  intro p e s m args below meth c s₁ B hml hv
  obtain ⟨rfl, hV⟩ := hv
  have hx := B.exec
  have hb := B.bytes
  have hr := B.returns
  have hlk := B.notSynchronized
  have hts0 := atoms_spec (ws := st_w yJ0_length_8abf5 cJ0_length_8abf5 1 (some .int)) B.pre
  have hts : ∀ w ∈ am_tw, w.before #[Value.ref aS] s = true := fun w hw => hts0 w (List.mem_cons_of_mem _ hw)
  have hown : s.vm.findClass RJ0 = some m.cls := findClass_of_methodNamed B.named
  have hl := lv_entry ([.ref aS]) (n := 1) (Nat.le_of_ble_eq_true rfl)
  rw [lg_entry_eq]
  generalize (lg_sl ([.ref aS]) ++ List.replicate (1 - (lg_sl ([.ref aS])).length) Slot.unset).toArray = ls at hl ⊢
  have hl : lv_has ls 1 [(0, .ref aS)] := hl
  have hT := (hV.1.1 0 (by decide)).2.2.2
  refine lv_aload_n hx hb dJ0_length_8abf5_0 rfl (lv_at hl 0 rfl) ?_
  refine vk_getf hx hb (hV.1.1 0 (by decide)).2.2.1 va_S.rf hown (hts _ (am_hw_in (z := (9, 112)) (by decide +kernel))) (fun _ h => h) dJ0_length_8abf5_1 ?_
  refine va_tlen hx hb hT va_S.rf (v := Int32.ofInt 100) (by decide) dJ0_length_8abf5_4 ?_
  refine lv_aload_n hx hb dJ0_length_8abf5_5 rfl (lv_at hl 0 rfl) ?_
  refine st_call (va_runV (n := 0) (own := RJ0) (C := RJ0) (index := 335) (b := aS) (As := []) (rest := [.int (Int32.ofInt 100)]) ⟨hx, hb, hml, hown, hts⟩ (st_cd (b := b) (aS := aS) (aV := aV)) ⟨callB_of 0 hts (st_good (am_hw_in (z := (1, 213)) (by decide +kernel))) rfl rfl rfl (hts _ (am_hw_in (z := (1, 6)) (by decide +kernel))) (hts _ (am_hw_in (z := (1, 210)) (by decide +kernel))) (by decide) ⟨by decide, by decide⟩, hts _ (am_hw_in (z := (1, 211)) (by decide +kernel)), hts _ (am_hw_in (z := (1, 212)) (by decide +kernel))⟩ ⟨st_blind, vk_recv (i := 0) hV.1 (by decide) va_S.rf, fun U hU hW => ⟨rfl, hV.to hU hW va_S.rf⟩⟩ rfl rfl hl.1 rfl (lv_room (by decide)) dJ0_length_8abf5_6 ⟨by decide, by decide⟩) ?_
  refine lv_ishr hx hb dJ0_length_8abf5_9 ?_
  exact W.iret (v := Int32.ofInt 100) hx hb hr (fun t ht _ => ⟨rfl, ht⟩) (fun q hq => nomatch hq) dJ0_length_8abf5_10 hlk
theorem st_ca {l : Launch} {b aS aV k : Nat} (hk : k < 100) : Met l yJ0_charAt_5068e (st_w yJ0_charAt_5068e cJ0_charAt_5068e 2 (some .char)) (st_rm 4) (va_Pc [.ref aS, .int (Int32.ofInt (k : Int))] (st_V b aS aV)) (st_Q (some (.int (Int32.ofInt (am_str.getD k 0 : Nat))))) 0 0 st_no := by
  refine Met.ofW (cc := cJ0_charAt_5068e) (maxL := 2) (ret := some .char) (by decide) rfl ?_
  intro p e s m args below meth c s₁ B hml hv
  obtain ⟨rfl, hV⟩ := hv
  have hx := B.exec
  have hb := B.bytes
  have hr := B.returns
  have hlk := B.notSynchronized
  have hts0 := atoms_spec (ws := st_w yJ0_charAt_5068e cJ0_charAt_5068e 2 (some .char)) B.pre
  have hts : ∀ w ∈ am_tw, w.before #[Value.ref aS, Value.int (Int32.ofInt (k : Int))] s = true := fun w hw => hts0 w (List.mem_cons_of_mem _ hw)
  have hown : s.vm.findClass RJ0 = some m.cls := findClass_of_methodNamed B.named
  have hl := lv_entry ([.ref aS, .int (Int32.ofInt (k : Int))]) (n := 2) (Nat.le_of_ble_eq_true rfl)
  rw [lg_entry_eq]
  generalize (lg_sl ([.ref aS, .int (Int32.ofInt (k : Int))]) ++ List.replicate (2 - (lg_sl ([.ref aS, .int (Int32.ofInt (k : Int))])).length) Slot.unset).toArray = ls at hl ⊢
  have hl : lv_has ls 2 [(0, .ref aS), (1, .int (Int32.ofInt (k : Int)))] := hl
  refine lv_aload_n hx hb dJ0_charAt_5068e_0 rfl (lv_at hl 0 rfl) ?_
  refine st_call (va_runV (n := 0) (own := RJ0) (C := RJ0) (index := 492) (b := aS) (As := []) (rest := []) ⟨hx, hb, hml, hown, hts⟩ (st_l1 (b := b) (aS := aS) (aV := aV)) ⟨callB_of 0 hts (st_good (am_hw_in (z := (1, 223)) (by decide +kernel))) rfl rfl rfl (hts _ (am_hw_in (z := (1, 6)) (by decide +kernel))) (hts _ (am_hw_in (z := (1, 220)) (by decide +kernel))) (by decide) ⟨by decide, by decide⟩, hts _ (am_hw_in (z := (1, 221)) (by decide +kernel)), hts _ (am_hw_in (z := (1, 222)) (by decide +kernel))⟩ ⟨st_blind, vk_recv (i := 0) hV.1 (by decide) va_S.rf, fun U hU hW => ⟨rfl, hV.to hU hW va_S.rf⟩⟩ rfl rfl hl.1 rfl (lv_room (by decide)) dJ0_charAt_5068e_1 ⟨by decide, by decide⟩) ?_
  refine lv_if_eq (x := 1) (tgt := 16) hx hb dJ0_charAt_5068e_4 (by decide) (fun z => absurd z (by decide)) (fun _ => ?_)
  refine lv_aload_n hx hb dJ0_charAt_5068e_7 rfl (lv_at hl 0 rfl) ?_
  refine vk_getf hx hb (hV.1.1 0 (by decide)).2.2.1 va_S.rf hown (hts _ (am_hw_in (z := (9, 112)) (by decide +kernel))) (fun _ h => h) dJ0_charAt_5068e_8 ?_
  refine lv_iload_n hx hb dJ0_charAt_5068e_11 rfl (lv_at hl 1 rfl) ?_
  refine st_call (va_runS (n := 2) (own := RJ0) (index := 495) (As := [.ref aV, .int (Int32.ofInt (k : Int))]) (rest := []) ⟨hx, hb, hml, hown, hts⟩ (st_lc (b := b) (aS := aS) (aV := aV) hk) ⟨callB_of 2 hts (st_good (am_hw_in (z := (1, 226)) (by decide +kernel))) rfl rfl rfl (hts _ (am_hw_in (z := (1, 7)) (by decide +kernel))) (hts _ (am_hw_in (z := (1, 224)) (by decide +kernel))) (by decide) ⟨by decide, by decide⟩, hts _ (am_hw_in (z := (1, 225)) (by decide +kernel))⟩ ⟨st_blind, fun U hU hW => ⟨rfl, hV.to hU hW va_S.rf⟩⟩ rfl rfl hl.1 rfl (lv_room (by decide)) dJ0_charAt_5068e_12 ⟨by decide, by decide⟩) ?_
  exact W.zret (v := Int32.ofInt (am_str.getD k 0 : Nat)) hx hb hr (st_ch ⟨k, hk⟩).2 (fun t ht _ => ⟨rfl, ht⟩) (fun q hq => nomatch hq) dJ0_charAt_5068e_15 hlk
