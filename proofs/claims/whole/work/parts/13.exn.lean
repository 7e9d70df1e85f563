theorem yt1 : goodWord (.native Bundle.tFill0) = true := by decide +kernel
theorem yt2 : goodWord (.castable "a" "a") = true := by decide +kernel
theorem yt3 : goodWord (.superclass Bundle.tN "java/lang/Object") = true := by decide +kernel
theorem yt4 : goodWord (.codeSync Bundle.tFill Bundle.Fill.code 1 (some (.object Bundle.tN))) = true := by decide +kernel
theorem yt5 : goodWord (.instantiable "a" 6) = true := by decide +kernel
theorem yt6 : goodWord (.selects "a" Bundle.tFill0 Bundle.tFill0) = true := by decide +kernel
theorem yt7 : goodWord (.lays "a" Bundle.tN "cause" "Ljava/lang/Throwable;") = true := by decide +kernel
theorem yt8 : goodWord (.initialized "a") = true := by decide +kernel
theorem yt9 : goodWord (.instanceMethod Bundle.tInit0) = true := by decide +kernel
theorem yt10 : goodWord (.code Bundle.tInit0 Bundle.Init0.code 1 none) = true := by decide +kernel
theorem yt11 : goodWord (.fieldLink "a" 1 "b" "c" "d") = true := by decide +kernel
theorem xt6 : ∀ w ∈ (vx_atS RX6 302 "java/lang/IllegalArgumentException" ["java/lang/RuntimeException", "java/lang/Exception"]).filter (fun w => !goodWord w), w ∈ [Cond.castable "java/lang/IllegalArgumentException" "java/lang/IllegalArgumentException", .codeSync Bundle.tFill Bundle.Fill.code 1 (some (.object Bundle.tN)), .native Bundle.tFill0, .superclass Bundle.tN "java/lang/Object"] := by decide +kernel
