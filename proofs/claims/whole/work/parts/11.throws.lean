theorem ths_1_77 : ∀ w ∈ vx_atS RX8 77 "java/lang/IllegalArgumentException" ["java/lang/RuntimeException", "java/lang/Exception"], (w ∈ wsAll ∨ w ∈ xNest) ∧ vx_ot w = true := by decide +kernel
theorem ths_2_88 : ∀ w ∈ vx_atS RX8 88 "java/lang/IllegalStateException" ["java/lang/RuntimeException", "java/lang/Exception"], (w ∈ wsAll ∨ w ∈ xNest) ∧ vx_ot w = true := by decide +kernel
theorem ths_3_135 : ∀ w ∈ vx_atS RX8 135 "java/lang/IndexOutOfBoundsException" ["java/lang/RuntimeException", "java/lang/Exception"], (w ∈ wsAll ∨ w ∈ xNest) ∧ vx_ot w = true := by decide +kernel
