/-! c3: the words of the throws -/
abbrev eI : String := "java/lang/IndexOutOfBoundsException"
abbrev eN : String := "java/util/NoSuchElementException"
abbrev eR : String := "java/lang/RuntimeException"
abbrev eE : String := "java/lang/Exception"
abbrev eC : ByteArray := prog_29_method_4_code
def ax_B : List Cond := [.castable eI eI, .castable eN eN, .declares (Bundle.initS eR), .declares (Bundle.initS eE), .declares (Bundle.initS Bundle.tN)]
theorem ax_1 : ((vx_atS RX10 145 eI [eR, eE]).filter goodWord).all (fun w => decide (w ∈ am_tw)) = true := by decide +kernel
theorem ax_2 : ((ax_at RX10 155 eN eR 13 eC [eE]).filter goodWord).all (fun w => decide (w ∈ am_tw)) = true := by decide +kernel
theorem ax_3 : ((vx_atS RX10 145 eI [eR, eE]).filter (fun w => !goodWord w)).all (fun w => decide (w ∈ ax_B)) = true := by decide +kernel
theorem ax_4 : ((ax_at RX10 155 eN eR 13 eC [eE]).filter (fun w => !goodWord w)).all (fun w => decide (w ∈ ax_B)) = true := by decide +kernel
theorem ax_5 : (Cond.classLink RX10 141 eI :: Cond.initialized eI :: vx_atS RX10 145 eI [eR, eE]).all vx_ot = true := by decide +kernel
theorem ax_6 : (Cond.classLink RX10 151 eN :: Cond.initialized eN :: ax_at RX10 155 eN eR 13 eC [eE]).all vx_ot = true := by decide +kernel
theorem ax_7 : ax_B.all (fun w => decide (w ∈ lw_tbl)) = true := by decide +kernel
theorem ax_all {α : Type} {p : α → Prop} [DecidablePred p] {l : List α} (h : l.all (fun w => decide (p w)) = true) : ∀ w ∈ l, p w := fun w hw => of_decide_eq_true (List.all_eq_true.mp h w hw)
theorem ax_x0 : decode eC 0 = .ok (.aload_n 0, 1) ∧ decode eC 1 = .ok (.aload_n 1, 1) ∧ decode eC 2 = .ok (.invokespecial 13, 3) ∧ decode eC 5 = .ok (.return_, 1) := by decide +kernel
theorem ax_warmD {x : MethodName} {s U : State} (hW : s.WarmedH U.vm) (hZ : va_Nw (.declares x) s) : va_Nw (.declares x) U := va_tabs rfl (rfl : (s.setVm U.vm).vm = U.vm) (by rw [Cond.declares_setVm hW.alike]; exact hZ)
theorem ax_warm {s U : State} (hW : s.WarmedH U.vm) (h : ∀ w ∈ ax_B, va_Nw w s) : ∀ w ∈ ax_B, va_Nw w U := by
  intro w hw
  have hz := h w hw
  simp only [ax_B, List.mem_cons, List.not_mem_nil, or_false] at hw
  rcases hw with rfl | rfl | rfl | rfl | rfl
  · exact va_Nw.warmC hW hz
  · exact va_Nw.warmC hW hz
  · exact ax_warmD hW hz
  · exact ax_warmD hW hz
  · exact ax_warmD hW hz
theorem ax_onT : ∀ w ∈ ax_B, w.onTables = true := by decide
theorem ax_same {u U : State} (hv : u.vm = U.vm) (h : ∀ w ∈ ax_B, va_Nw w u) : ∀ w ∈ ax_B, va_Nw w U := fun w hw => va_Nw.same (ax_onT w hw) hv (h w hw)
/-- what a throw wants of the start -/
def ax_P (b sa1 sa2 : Nat) (U : State) : Prop := vk_R RX10 143 "no such kind" sa1 U ∧ vk_R RX10 153 "no such twin" sa2 U ∧ (∀ w ∈ ax_B, va_Nw w U) ∧ vx_Zq Bundle.tN "UNASSIGNED_STACK" Bundle.steD (fun q => b ≤ q) U U.heap ∧ vx_Zq Bundle.tN "SUPPRESSED_SENTINEL" Bundle.listD (fun q => b ≤ q) U U.heap
theorem ax_P.cg {b sa1 sa2 : Nat} {U : State} (h : ax_P b sa1 sa2 U) (g : JFrame) (mk : MethodId) (a : Array Value) : ax_P b sa1 sa2 (U.calling g mk a) := ⟨vk_R.same (u := U) rfl h.1, vk_R.same (u := U) rfl h.2.1, ax_same (u := U) rfl h.2.2.1, vx_Zq.moved (u := U) (Vm.Alike.refl U.vm) h.2.2.2.1, vx_Zq.moved (u := U) (Vm.Alike.refl U.vm) h.2.2.2.2⟩
theorem ax_P.to {b sa1 sa2 : Nat} {s U : State} {H : Heap} {locs : List Loc} (h : ax_P b sa1 sa2 s) (hU : U.heap = H) (hW : s.WarmedH U.vm) (hS : va_S (fun q => b ≤ q) s.heap H locs) : ax_P b sa1 sa2 U := ⟨vk_R.warm hW h.1, vk_R.warm hW h.2.1, ax_warm hW h.2.2.1, by rw [hU]; exact vx_Zq.moved hW.alike (h.2.2.2.1.kept hS.2.1), by rw [hU]; exact vx_Zq.moved hW.alike (h.2.2.2.2.kept hS.2.1)⟩
