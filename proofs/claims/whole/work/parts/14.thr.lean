/-! the words of the throws, once -/
theorem tb_S0 : ∀ w ∈ (vx_atS RX0 27 hx_IO ["java/lang/RuntimeException", "java/lang/Exception"]).filter (fun w => !goodWord w), w ∈ hx_bad := by decide +kernel
theorem to_S0 : ∀ w ∈ Cond.classLink RX0 23 hx_IO :: Cond.initialized hx_IO :: vx_atS RX0 27 hx_IO ["java/lang/RuntimeException", "java/lang/Exception"], vx_ot w = true := by decide +kernel
theorem tb_S1 : ∀ w ∈ (vx_atS RX1 111 hx_IO ["java/lang/RuntimeException", "java/lang/Exception"]).filter (fun w => !goodWord w), w ∈ hx_bad := by decide +kernel
theorem to_S1 : ∀ w ∈ Cond.classLink RX1 107 hx_IO :: Cond.initialized hx_IO :: vx_atS RX1 111 hx_IO ["java/lang/RuntimeException", "java/lang/Exception"], vx_ot w = true := by decide +kernel
theorem tb_M : ∀ w ∈ (vx_at0 RX2 34 hx_IO ["java/lang/RuntimeException", "java/lang/Exception"]).filter (fun w => !goodWord w), w ∈ hx_bad := by decide +kernel
theorem to_M : ∀ w ∈ Cond.classLink RX2 32 hx_IO :: Cond.initialized hx_IO :: vx_at0 RX2 34 hx_IO ["java/lang/RuntimeException", "java/lang/Exception"], vx_ot w = true := by decide +kernel
