theorem zz_1 : (vx_at0 RX9 50 "java/lang/IllegalArgumentException" ["java/lang/RuntimeException", "java/lang/Exception"]).all goodWord = true := by decide +kernel
theorem zz_2 : ∀ x ∈ vx_at0 RX9 50 "java/lang/IllegalArgumentException" ["java/lang/RuntimeException", "java/lang/Exception"], x ∈ lw_tbl := by decide +kernel
theorem zz_3 : ∀ x ∈ vx_at0 RX9 50 "java/lang/IllegalArgumentException" ["java/lang/RuntimeException", "java/lang/Exception"], x ∈ lw_tbl ∧ (vx_ot x = true) := by decide +kernel
