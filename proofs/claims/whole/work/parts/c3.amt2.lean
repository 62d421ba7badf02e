/-! c3: TwoLevel.amount -/
abbrev EI : String := "java/lang/IndexOutOfBoundsException"
abbrev EN : String := "java/util/NoSuchElementException"
abbrev EX : List String := ["java/lang/RuntimeException", "java/lang/Exception"]
theorem ax_1 : ((vx_atS RX10 145 EI EX).filter goodWord).all (fun w => decide (w ∈ am_tw)) = true := by decide +kernel
theorem ax_2 : ((vx_atS RX10 155 EN EX).filter goodWord).all (fun w => decide (w ∈ am_tw)) = true := by decide +kernel
theorem ax_3 : ((vx_atS RX10 145 EI EX).filter (fun w => !goodWord w)).all (fun w => decide (w ∈ [Cond.castable EI EI])) = true := by decide +kernel
theorem ax_4 : ((vx_atS RX10 155 EN EX).filter (fun w => !goodWord w)).all (fun w => decide (w ∈ [Cond.castable EN EN])) = true := by decide +kernel
theorem ax_5 : (Cond.classLink RX10 141 EI :: Cond.initialized EI :: vx_atS RX10 145 EI EX).all vx_ot = true := by decide +kernel
theorem ax_6 : (Cond.classLink RX10 151 EN :: Cond.initialized EN :: vx_atS RX10 155 EN EX).all vx_ot = true := by decide +kernel
theorem ax_all {α : Type} {p : α → Prop} [DecidablePred p] {l : List α} (h : l.all (fun w => decide (p w)) = true) : ∀ w ∈ l, p w := fun w hw => of_decide_eq_true (List.all_eq_true.mp h w hw)
