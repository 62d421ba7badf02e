/-! c4: TwoLevel.amount, by contract -/
def ax_U (D : va_G) (cy : Nat → ClassId) (b aS sa1 sa2 : Nat) (h : am_H) (U : State) : Prop := va_P D vwCl (am_ws cy b aS h) U.heap ∧ va_K D vwCl (am_ty cy) U ∧ (∀ w ∈ am_nst, va_Nw w U) ∧ va_AO RX6 U ∧ ax_P b sa1 sa2 U
def ax_in (b : Nat) : Nat → Prop := fun q => b ≤ q ∧ q < b + 139
def ax_Q (D : va_G) (cy : Nat → ClassId) (b aS : Nat) (h : am_H) (x1 x2 v : Int) : Array Value → State → Outcome → State → Prop := va_Qi (S := Unit) (fun r _ => x1 ≠ 0 ∧ x2 ≠ 0 ∧ r = Int32.ofInt v) (fun _ t => va_P D vwCl (am_ws cy b aS h) t.heap) (ax_in b)
def ax_X (D : va_G) (cy : Nat → ClassId) (b aS : Nat) (h : am_H) (x1 x2 : Int) : String → State → State → Prop := vx_X (S := Unit) (fun _ => True) (fun E _ t => ((E = eI ∧ x1 = 0) ∨ (E = eN ∧ x1 ≠ 0 ∧ x2 = 0)) ∧ va_P D vwCl (am_ws cy b aS h) t.heap) (ax_in b)
abbrev ax_w : List Cond := Cond.code yX10_amount cX10_amount 3 (some .int) :: am_tw
abbrev ax_rm : Room := { frames := 22, cells := 1, slots := 6, locals := 1408 }
/-- the heap goes on as it was, where a world is written over by itself -/
theorem ax_keep {D : va_G} {cy : Nat → ClassId} {b aS : Nat} {h : am_H} {H H1 : Heap} (hP : va_P D vwCl (am_ws cy b aS h) H) (hq : ∀ q : Nat, q < H.size → H1[q]? = H[q]?) : va_P D vwCl (am_ws cy b aS h) H1 := by
  intro k q hk
  have z := hP k q hk
  obtain ⟨q1, q2⟩ := q
  cases q2 with
  | inl a => show H1[q1]? = _; rw [hq q1 (Array.getElem?_eq_some_iff.mp z).1]; exact z
  | inr o =>
    obtain ⟨r, hr, cell, g1, g2⟩ := z
    exact ⟨r, hr, cell, by rw [hq q1 (Array.getElem?_eq_some_iff.mp g1).1]; exact g1, g2⟩
set_option maxHeartbeats 1000000 in
theorem c_amount {l : Launch} (hfl : l.stackTraces = false) {D : va_G} {cy : Nat → ClassId} {b aS sa1 sa2 : Nat} {h : am_H} {k t x1 x2 v : Int} (hok : am_okh h) (ph : h.1 = (false, cz_sh)) (h7 : h.2.2.2 0 7 = some 51) (hk : am_in k) (ht : am_in t) (i1 : am_in x1) (i2 : am_in x2) (r1 : ∃ n, am_run n 20 93 0 (am_en 93 [vR (some 0), vI k]) [] h = some (some (vI x1), h)) (r2 : ∃ n, am_run n 20 95 0 (am_en 95 [vI t]) [] h = some (some (vI x2), h)) (r3 : x1 ≠ 0 → x2 ≠ 0 → ∃ n, am_run n 20 59 0 (am_en 59 [vR (some 51), vI k, vI t]) [] h = some (some (vI v), h)) : vx_Met l yX10_amount ax_w ax_rm (va_Pc [.ref b, .int (Int32.ofInt k), .int (Int32.ofInt t)] (ax_U D cy b aS sa1 sa2 h)) (ax_Q D cy b aS h x1 x2 v) (ax_X D cy b aS h x1 x2) 1 6 (fun q => b ≤ q) := by
  refine vx_ofW (cc := cX10_amount) (maxL := 3) (ret := some .int) (by decide) rfl ?_
  intro p e s m args below meth c s₁ B hml htab hv
  obtain ⟨rfl, hP, hK, hnst, hAO, hX⟩ := hv
  have hx := B.exec
  have hb := B.bytes
  have hr := B.returns
  have hlk := B.notSynchronized
  have hts0 := atoms_spec (ws := ax_w) B.pre
  have hts : ∀ w ∈ am_tw, w.before #[Value.ref b, Value.int (Int32.ofInt k), Value.int (Int32.ofInt t)] s = true := fun w hw => hts0 w (List.mem_cons_of_mem _ hw)
  have hown : s.vm.findClass RX10 = some m.cls := findClass_of_methodNamed B.named
  have hl := lv_entry ([.ref b, .int (Int32.ofInt k), .int (Int32.ofInt t)]) (n := 3) (Nat.le_of_ble_eq_true rfl)
  rw [lg_entry_eq]
  generalize (lg_sl ([.ref b, .int (Int32.ofInt k), .int (Int32.ofInt t)]) ++ List.replicate (3 - (lg_sl ([.ref b, .int (Int32.ofInt k), .int (Int32.ofInt t)])).length) Slot.unset).toArray = ls at hl ⊢
  have hl : lv_has ls 3 [(0, .ref b), (1, .int (Int32.ofInt k)), (2, .int (Int32.ofInt t))] := hl
  have hS0 : va_S (ax_in b) s.heap s.heap [] := va_S.rf
  have hSb : ∀ {H : Heap} {locs : List Loc}, va_S (ax_in b) s.heap H locs → va_S (fun q => b ≤ q) s.heap H locs := fun z => ⟨z.1, fun q h1 h2 => z.2.1 q h1 (fun y => h2 y.1), fun y hy => (z.2.2 y hy).1⟩
  obtain ⟨n1, r1⟩ := r1
  obtain ⟨n2, r2⟩ := r2
  refine lv_aload_n hx hb dX10_amount_0 rfl (lv_at hl 0 rfl) ?_
  refine lv_iload_n hx hb dX10_amount_1 rfl (lv_at hl 1 rfl) ?_
  have hA0 : ∀ q, b ≤ q ∧ q < b + 139 → ax_in b q := fun q hq => hq
  have hxx : ∀ {H1 : Heap} {locs1 : List Loc} {E : String}, va_P D vwCl (am_ws cy b aS h) H1 → va_S (ax_in b) s.heap H1 locs1 → ((E = eI ∧ x1 = 0) ∨ (E = eN ∧ x1 ≠ 0 ∧ x2 = 0)) → ∀ t : State, s.vm.Alike t.vm → H1.size ≤ t.heap.size → (∀ q : Nat, q < H1.size → t.heap[q]? = H1[q]?) → ax_X D cy b aS h x1 x2 E s t := fun p1 p2 hE t _ hz hq => ⟨(), trivial, ⟨hE, ax_keep p1 hq⟩, Nat.le_trans p2.1 hz, fun q g1 g2 => by rw [hq q (Nat.lt_of_lt_of_le g1 p2.1)]; exact p2.2.1 q g1 g2⟩
  refine am_cV (R := ax_rm) (D := D) (cy := cy) (b := b) (aS := aS) (own := RX10) (A0 := ax_in b) (rest := []) (idx := 137) (j := 93) (a := 0) (as := [vI k]) hx hb hml hown hts hK hnst hAO dX10_amount_2 (am_hw_in (z := (4, 15)) (by decide +kernel)) (by decide) rfl rfl ⟨_, rfl⟩ (by decide) (Nat.le_of_ble_eq_true rfl) (Nat.le_of_ble_eq_true rfl) (am_ok1 hk am_ok0) (Nat.le_of_ble_eq_true rfl) (Nat.le_of_ble_eq_true rfl) r1 hok ph hP hS0 hA0 hl.1 ⟨Nat.zero_le _, Nat.zero_le _⟩ (fun H1 locs1 p1 p2 p3 => ?_)
  have z0 : ∀ {x : Int}, am_in x → (Int32.ofInt x = 0 ↔ x = 0) := fun hi => ⟨fun z => by have := congrArg Int32.toInt z; rw [am_toI hi] at this; exact this, fun z => by rw [z]; rfl⟩
  refine lv_if_ne (x := Int32.ofInt x1) (tgt := 18) hx hb dX10_amount_5 (by decide) (fun z => ?_) (fun z => ?_)
  · have x1n : x1 ≠ 0 := fun y => z ((z0 i1).2 y)
    refine lv_iload_n hx hb dX10_amount_18 rfl (lv_at hl 2 rfl) ?_
    refine am_cS (R := ax_rm) (D := D) (cy := cy) (b := b) (aS := aS) (own := RX10) (A0 := ax_in b) (rest := []) (idx := 148) (j := 95) (as := [vI t]) hx hb hml hown hts hK hnst hAO dX10_amount_19 (am_hw_in (z := (4, 47)) (by decide +kernel)) (by decide) rfl rfl (Nat.le_of_ble_eq_true rfl) (Nat.le_of_ble_eq_true rfl) (am_ok1 ht am_ok0) (Nat.le_of_ble_eq_true rfl) (Nat.le_of_ble_eq_true rfl) r2 hok ph p1 p2 hA0 hl.1 ⟨Nat.zero_le _, Nat.zero_le _⟩ (fun H2 locs2 g1 g2 g3 => ?_)
    refine lv_if_ne (x := Int32.ofInt x2) (tgt := 35) hx hb dX10_amount_22 (by decide) (fun y => ?_) (fun y => ?_)
    · have x2n : x2 ≠ 0 := fun q => y ((z0 i2).2 q)
      obtain ⟨n3, r3⟩ := r3 x1n x2n
      have hkd : am_kd h 0 = 10 := by unfold am_kd; rw [ph]; rfl
      have hlt : 0 < h.1.2.length := by rw [ph]; decide +kernel
      refine lv_aload_n hx hb dX10_amount_35 rfl (lv_at hl 0 rfl) ?_
      refine va_get (q0 := 0) (ci := 10) (a := b) hx hb hts (am_ui (ci := 10) rfl) hown hK g1 ((am_ws_get hlt).trans (by rw [am_ce_obj hkd (by decide)]; rfl)) rfl 7 (by decide) (hts _ (am_hw_in (z := (3, 14)) (by decide +kernel))) (fun _ q => q) (v := .ref (b + 51)) ?_ dX10_amount_36 ?_
      · rw [am_fs_get]
        show some (am_cv b aS (.inr (.inr (.inl (h.2.2.2 0 7))))) = _
        rw [h7]; rfl
      refine lv_iload_n hx hb dX10_amount_39 rfl (lv_at hl 1 rfl) ?_
      refine lv_iload_n hx hb dX10_amount_40 rfl (lv_at hl 2 rfl) ?_
      refine am_cV (R := ax_rm) (D := D) (cy := cy) (b := b) (aS := aS) (own := RX10) (A0 := ax_in b) (rest := []) (idx := 156) (j := 59) (a := 51) (as := [vI k, vI t]) hx hb hml hown hts hK hnst hAO dX10_amount_41 (am_hw_in (z := (4, 144)) (by decide +kernel)) (by decide) rfl rfl ⟨_, rfl⟩ (by decide) (Nat.le_of_ble_eq_true rfl) (Nat.le_of_ble_eq_true rfl) (am_ok1 hk (am_ok1 ht am_ok0)) (Nat.le_of_ble_eq_true rfl) (Nat.le_of_ble_eq_true rfl) r3 hok ph g1 g2 hA0 hl.1 ⟨Nat.zero_le _, Nat.zero_le _⟩ (fun H3 locs3 q1 q2 q3 => ?_)
      refine vx_ret ?_
      refine W.widen (k := 1) (n := 6) (by decide) (by decide) ?_
      exact W.iret (v := Int32.ofInt v) hx hb hr (fun t ht _ => ⟨⟨_, (), rfl, ⟨x1n, x2n, rfl⟩, by show va_P D vwCl (am_ws cy b aS h) t.heap; rw [ht]; exact q1⟩, by rw [ht]; exact q2.1, fun q f1 f2 => by rw [ht]; exact q2.2.1 q f1 f2⟩) (fun q hq => (q2.2.2 q hq).1) dX10_amount_44 hlk
    · have x20 : x2 = 0 := (z0 i2).1 y
      exact ax_throwS (own := RX10) (cls := eN) (text := "no such twin") (Y0 := eR) (names := [eE]) (ik := 151) (is := 153) (ic := 155) (sa := sa2) (ix := 13) (rx := eC) (A := fun q => b ≤ q) (rest := []) hx hb hfl ax_x0.1 ax_x0.2.1 ax_x0.2.2.1 ax_x0.2.2.2 (by decide) hown (by decide) (by decide) (hts _ (am_hw_in (z := (6, 34)) (by decide +kernel))) (hts _ (am_hw_in (z := (1, 24)) (by decide +kernel))) hX.2.1 (vx_hat (fun w hw => hts w (ax_all ax_2 w hw)) (ax_all ax_4) (fun w hw => va_Nw.use (ax_onT w hw) (hX.2.2.1 w hw))) (fun w hw => List.all_eq_true.mp ax_6 w hw) hX.2.2.2.1 hX.2.2.2.2 (hSb g2) (hl.1.trans hml.symm) dX10_amount_25 dX10_amount_28 dX10_amount_29 dX10_amount_31 dX10_amount_34 (fun x hx => (htab x hx).elim) (by decide) (by decide) (by decide) (by decide) hlk (hxx g1 g2 (Or.inr ⟨rfl, x1n, x20⟩)) (fun z hz => (g2.2.2 z hz).1) (by decide) (by decide)
  · have x10 : x1 = 0 := (z0 i1).1 z
    exact vx_throwS (own := RX10) (cls := eI) (text := "no such kind") (names := [eR, eE]) (ik := 141) (is := 143) (ic := 145) (sa := sa1) (A := fun q => b ≤ q) (rest := []) hx hb hfl hown (by decide) (by decide) (hts _ (am_hw_in (z := (5, 208)) (by decide +kernel))) (hts _ (am_hw_in (z := (1, 23)) (by decide +kernel))) hX.1 (vx_hat (fun w hw => hts w (ax_all ax_1 w hw)) (ax_all ax_3) (fun w hw => va_Nw.use (ax_onT w hw) (hX.2.2.1 w hw))) (fun w hw => List.all_eq_true.mp ax_5 w hw) hX.2.2.2.1 hX.2.2.2.2 (hSb p2) (hl.1.trans hml.symm) dX10_amount_8 dX10_amount_11 dX10_amount_12 dX10_amount_14 dX10_amount_17 (fun x hx => (htab x hx).elim) (by decide) (by decide) (by decide) (by decide) hlk (hxx p1 p2 (Or.inl ⟨rfl, x10⟩)) (fun z hz => (p2.2.2 z hz).1) (by decide) (by decide)
