/-! c2: amount -/
theorem ax_1 : (vx_atS RX10 145 "java/lang/IndexOutOfBoundsException" ["java/lang/RuntimeException", "java/lang/Exception"]).all (fun w => decide (w ∈ am_tw)) = true := by decide +kernel
theorem ax_2 : (vx_atS RX10 155 "java/util/NoSuchElementException" ["java/lang/RuntimeException", "java/lang/Exception"]).all goodWord = true := by decide +kernel
