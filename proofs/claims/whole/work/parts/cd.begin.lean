/-! cd: what the start gives; the law from its entry -/
abbrev wh_T : Cond := Jvm.Cond.and given_1 narrow_1
abbrev wh_s : Term := .string RX8 28
abbrev wh_v : Term := .field wh_s "java/lang/String" "value" "[B"
theorem wh_f {args : Array Value} {s : State} (h : wh_T.before args s = true) (i : Nat) {w : Cond} (hi : (flatC wh_T)[i]? = some w) : w.before args s = true := flat_of_before _ h w (List.mem_of_getElem? hi)
theorem wh_el : ∀ j : Fin 100, (flatC wh_T)[41 + j.val]? = some (Cond.eq (.elem wh_v (.int (Int32.ofNat j.val))) (.int (st_by.getD j.val 0))) := by decide +kernel
theorem wh_nst : am_nst.all (fun w => decide (w ∈ lw_tbl)) = true := by decide +kernel
theorem wh_nsT : ∀ w ∈ am_nst, w.onTables = true := by decide +kernel
theorem wh_ao : Cond.arrayOver (.object RX6) ∈ lw_tbl := am_tc_in (c := 2) (List.mem_of_getElem? (i := 162) (by decide +kernel))
theorem wh_s0 : Cond.stringRef RX8 28 st_tx ∈ lw_tbl := am_tc_in (c := 1) (List.mem_of_getElem? (i := 205) (by decide +kernel))
theorem wh_s1 : Cond.stringRef RX10 143 "no such kind" ∈ lw_tbl := am_tc_in (c := 6) (List.mem_of_getElem? (i := 8) (by decide +kernel))
theorem wh_s2 : Cond.stringRef RX10 153 "no such twin" ∈ lw_tbl := am_tc_in (c := 6) (List.mem_of_getElem? (i := 43) (by decide +kernel))
theorem wh_z0 : Cond.laysStatic RJ0 "COMPACT_STRINGS" "Z" ∈ lw_tbl := am_tc_in (c := 1) (List.mem_of_getElem? (i := 215) (by decide +kernel))
theorem wh_z1 : Cond.laysStatic RJ3 "SIOOBE_FORMATTER" "Ljava/util/function/BiFunction;" ∈ lw_tbl := am_tc_in (c := 1) (List.mem_of_getElem? (i := 231) (by decide +kernel))
theorem wh_z2 : Cond.laysStatic Bundle.tN "UNASSIGNED_STACK" Bundle.steD ∈ lw_tbl := am_tc_in (c := 5) (List.mem_of_getElem? (i := 235) (by decide +kernel))
theorem wh_z3 : Cond.laysStatic Bundle.tN "SUPPRESSED_SENTINEL" Bundle.listD ∈ lw_tbl := am_tc_in (c := 5) (List.mem_of_getElem? (i := 237) (by decide +kernel))
theorem wh_i0 : Cond.initialized RJ0 ∈ lw_tbl := am_tc_in (c := 1) (List.mem_of_getElem? (i := 6) (by decide +kernel))
theorem wh_i1 : Cond.initialized RJ3 ∈ lw_tbl := am_tc_in (c := 1) (List.mem_of_getElem? (i := 8) (by decide +kernel))
theorem wh_i2 : Cond.initialized Bundle.tN ∈ lw_tbl := am_tc_in (c := 1) (List.mem_of_getElem? (i := 20) (by decide +kernel))
theorem wh_flat : (flatC wh_T)[4]? = some (Cond.eq (.static RJ0 "COMPACT_STRINGS" "Z") (.int 1)) ∧ (flatC wh_T)[5]? = some (Cond.isRef (.static RJ3 "SIOOBE_FORMATTER" "Ljava/util/function/BiFunction;")) ∧ (flatC wh_T)[9]? = some (Cond.isRef (.static Bundle.tN "UNASSIGNED_STACK" Bundle.steD)) ∧ (flatC wh_T)[10]? = some (Cond.isRef (.static Bundle.tN "SUPPRESSED_SENTINEL" Bundle.listD)) ∧ (flatC wh_T)[23]? = some (Cond.not (.castable eN eI)) ∧ (flatC wh_T)[37]? = some (Cond.exactly wh_s "java/lang/String") ∧ (flatC wh_T)[38]? = some (Cond.eq (.field wh_s "java/lang/String" "coder" "B") (.int 0)) ∧ (flatC wh_T)[39]? = some (Cond.arrayOf wh_v .byte) ∧ (flatC wh_T)[40]? = some (Cond.eq (.length wh_v) (.int (Int32.ofNat 100))) := by decide +kernel
theorem wh_str {args : Array Value} {s : State} (hts : ∀ w ∈ lw_tbl, w.before args s = true) (hg : wh_T.before args s = true) : ∃ aS, st_P s.heap.size aS s := by
  obtain ⟨f4, f5, -, -, -, f37, f38, f39, f40⟩ := wh_flat
  have hA : ∀ a : Nat, a < s.heap.size → ¬ st_A s.heap.size a := fun a ha => Nat.not_le.mpr ha
  have h0 : ∀ i : Nat, i < 1 → i = 0 := fun i hi => by omega
  obtain ⟨adK, adV, hS, he⟩ := vk_Sof (args := args) (s := s) (N := 1) (tm := fun _ => wh_s) (len := [100]) (byt := [st_by]) (A := st_A s.heap.size) (fun i hi => by rw [h0 i hi]; decide) (fun i _ => wh_f hg 37 f37) (fun i _ => wh_f hg 38 f38) (fun i _ => wh_f hg 39 f39) (fun i hi => by rw [h0 i hi]; exact wh_f hg 40 f40) (fun i hi j hj => by have e := h0 i hi; subst e; exact wh_f hg (41 + j) (wh_el ⟨j, hj⟩)) (fun i j hi hj hn => absurd ((h0 i hi).trans (h0 j hj).symm) hn) hA
  refine ⟨adK 0, vk_R.of (hts _ wh_s0) (he 0 (by decide)), adV 0, ⟨fun i hi => ?_, fun i j hi hj _ => (h0 i hi).trans (h0 j hj).symm⟩, va_Zof (hts _ wh_z0) (hts _ wh_i0) (va_eqi (wh_f hg 4 f4)) hA, va_Zqof (hts _ wh_z1) (hts _ wh_i1) (wh_f hg 5 f5) hA⟩
  have e := h0 i hi
  subst e
  exact hS.1 0 hi
theorem wh_ax {args : Array Value} {s : State} {cX : ClassId} (hX : s.vm.findClass RX10 = some cX) (hts : ∀ w ∈ lw_tbl, w.before args s = true) (hg : wh_T.before args s = true) : ∃ sa1 sa2, ax_P s.heap.size sa1 sa2 s := by
  obtain ⟨-, -, f9, f10, -⟩ := wh_flat
  have hA : ∀ a : Nat, a < s.heap.size → ¬ (fun q => s.heap.size ≤ q) a := fun a ha => Nat.not_le.mpr ha
  obtain ⟨-, -, -, sa1, -, -, -, -, -, h1⟩ := Cond.stringRef_spec hX (hts _ wh_s1)
  obtain ⟨-, -, -, sa2, -, -, -, -, -, h2⟩ := Cond.stringRef_spec hX (hts _ wh_s2)
  exact ⟨sa1, sa2, vk_R.of (hts _ wh_s1) h1, vk_R.of (hts _ wh_s2) h2, fun w hw => va_Nw.of (ax_onT w hw) (hts w (ax_all ax_7 w hw)), vx_Zqof (hts _ wh_z2) (hts _ wh_i2) (wh_f hg 9 f9) hA, vx_Zqof (hts _ wh_z3) (hts _ wh_i2) (wh_f hg 10 f10) hA⟩
