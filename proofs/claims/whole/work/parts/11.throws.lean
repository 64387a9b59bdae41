theorem ths_1_79 : ∀ w ∈ vx_atS RX8 79 "java/lang/IllegalArgumentException" ["java/lang/RuntimeException", "java/lang/Exception"], (w ∈ wsAll ∨ w ∈ xNest) ∧ vx_ot w = true := by decide +kernel
theorem ths_2_90 : ∀ w ∈ vx_atS RX8 90 "java/lang/IllegalStateException" ["java/lang/RuntimeException", "java/lang/Exception"], (w ∈ wsAll ∨ w ∈ xNest) ∧ vx_ot w = true := by decide +kernel
theorem ths_3_137 : ∀ w ∈ vx_atS RX8 137 "java/lang/IndexOutOfBoundsException" ["java/lang/RuntimeException", "java/lang/Exception"], (w ∈ wsAll ∨ w ∈ xNest) ∧ vx_ot w = true := by decide +kernel
