theorem zw_or {L : List Cond} {ps : List Nat} (h : ps.map (fun i => tables_1[i]?) = L.map some) (g : L.all (fun w => goodWord w || decide (w ∈ zxw)) = true) : ∀ w ∈ L, w ∈ zWL ∨ w ∈ zxw := by
  intro w hw
  have h1 : some w ∈ ps.map (fun i => tables_1[i]?) := by rw [h]; exact List.mem_map.mpr ⟨w, hw, rfl⟩
  obtain ⟨i, -, hi⟩ := List.mem_map.mp h1
  have h2 := List.all_eq_true.mp g w hw
  rcases Bool.or_eq_true_iff.mp h2 with h3 | h3
  · exact Or.inl (zw_i i hi h3)
  · exact Or.inr (of_decide_eq_true h3)
set_option maxRecDepth 20000 in
theorem zat0_IllegalArgumentException : [7, 365, 374, 382, 385, 387, 366, 367, 26, 27, 368, 373, 383, 403, 355, 404, 357, 405, 359, 369, 371, 361, 399, 400, 402, 361, 390, 391, 392, 393, 347, 393, 394, 395, 396, 349, 396, 397, 398, 399, 351, 389, 344, 345, 352, 353, 354, 356, 358, 360, 364, 363, 362].map (fun i => tables_1[i]?) = (zAt RX4 54 "java/lang/IllegalArgumentException" 7 Bundle.six ["java/lang/RuntimeException", "java/lang/Exception"]).map some := by decide +kernel
set_option maxRecDepth 20000 in
theorem zat1_IllegalArgumentException : (zAt RX4 54 "java/lang/IllegalArgumentException" 7 Bundle.six ["java/lang/RuntimeException", "java/lang/Exception"]).all (fun w => goodWord w || decide (w ∈ zxw)) = true := by decide +kernel
theorem zat_IllegalArgumentException : ∀ w ∈ (zAt RX4 54 "java/lang/IllegalArgumentException" 7 Bundle.six ["java/lang/RuntimeException", "java/lang/Exception"]), w ∈ zWL ∨ w ∈ zxw := zw_or zat0_IllegalArgumentException zat1_IllegalArgumentException
set_option maxRecDepth 20000 in
theorem zat0_IllegalStateException : [7, 365, 374, 382, 385, 387, 366, 367, 26, 27, 368, 373, 383, 403, 355, 404, 357, 405, 359, 369, 371, 361, 399, 400, 402, 361, 430, 431, 432, 393, 347, 393, 394, 395, 396, 349, 396, 397, 398, 399, 351, 429, 420, 421, 422, 378, 423, 424, 425, 426, 364, 363, 427].map (fun i => tables_1[i]?) = (zAt RX4 64 "java/lang/IllegalStateException" 7 Bundle.six ["java/lang/RuntimeException", "java/lang/Exception"]).map some := by decide +kernel
set_option maxRecDepth 20000 in
theorem zat1_IllegalStateException : (zAt RX4 64 "java/lang/IllegalStateException" 7 Bundle.six ["java/lang/RuntimeException", "java/lang/Exception"]).all (fun w => goodWord w || decide (w ∈ zxw)) = true := by decide +kernel
theorem zat_IllegalStateException : ∀ w ∈ (zAt RX4 64 "java/lang/IllegalStateException" 7 Bundle.six ["java/lang/RuntimeException", "java/lang/Exception"]), w ∈ zWL ∨ w ∈ zxw := zw_or zat0_IllegalStateException zat1_IllegalStateException
set_option maxRecDepth 20000 in
theorem zat0_NoSuchElementException : [7, 365, 374, 382, 385, 387, 366, 367, 26, 27, 368, 373, 383, 403, 355, 404, 357, 405, 359, 369, 371, 361, 399, 400, 402, 361, 459, 460, 461, 393, 347, 393, 394, 395, 396, 349, 396, 397, 398, 399, 351, 458, 449, 450, 451, 381, 452, 453, 454, 455, 364, 363, 456].map (fun i => tables_1[i]?) = (zAt RX4 133 "java/util/NoSuchElementException" 13 prog_21_method_4_code ["java/lang/RuntimeException", "java/lang/Exception"]).map some := by decide +kernel
set_option maxRecDepth 20000 in
theorem zat1_NoSuchElementException : (zAt RX4 133 "java/util/NoSuchElementException" 13 prog_21_method_4_code ["java/lang/RuntimeException", "java/lang/Exception"]).all (fun w => goodWord w || decide (w ∈ zxw)) = true := by decide +kernel
theorem zat_NoSuchElementException : ∀ w ∈ (zAt RX4 133 "java/util/NoSuchElementException" 13 prog_21_method_4_code ["java/lang/RuntimeException", "java/lang/Exception"]), w ∈ zWL ∨ w ∈ zxw := zw_or zat0_NoSuchElementException zat1_NoSuchElementException
set_option maxRecDepth 20000 in
theorem zat0_UnsupportedOperationException : [7, 365, 374, 382, 385, 387, 366, 367, 26, 27, 368, 373, 383, 403, 355, 404, 357, 405, 359, 369, 371, 361, 399, 400, 402, 361, 499, 500, 501, 393, 347, 393, 394, 395, 396, 349, 396, 397, 398, 399, 351, 498, 489, 490, 491, 380, 492, 493, 494, 495, 364, 363, 496].map (fun i => tables_1[i]?) = (zAt RX4 90 "java/lang/UnsupportedOperationException" 7 Bundle.six ["java/lang/RuntimeException", "java/lang/Exception"]).map some := by decide +kernel
set_option maxRecDepth 20000 in
theorem zat1_UnsupportedOperationException : (zAt RX4 90 "java/lang/UnsupportedOperationException" 7 Bundle.six ["java/lang/RuntimeException", "java/lang/Exception"]).all (fun w => goodWord w || decide (w ∈ zxw)) = true := by decide +kernel
theorem zat_UnsupportedOperationException : ∀ w ∈ (zAt RX4 90 "java/lang/UnsupportedOperationException" 7 Bundle.six ["java/lang/RuntimeException", "java/lang/Exception"]), w ∈ zWL ∨ w ∈ zxw := zw_or zat0_UnsupportedOperationException zat1_UnsupportedOperationException
set_option maxRecDepth 20000 in
theorem zat0_IndexOutOfBoundsException : [7, 365, 374, 382, 385, 387, 366, 367, 26, 27, 368, 373, 383, 403, 355, 404, 357, 405, 359, 369, 371, 361, 399, 400, 402, 361, 517, 518, 519, 393, 347, 393, 394, 395, 396, 349, 396, 397, 398, 399, 351, 554, 545, 546, 547, 379, 548, 549, 550, 551, 364, 363, 552].map (fun i => tables_1[i]?) = (zAt RX4 210 "java/lang/IndexOutOfBoundsException" 7 Bundle.six ["java/lang/RuntimeException", "java/lang/Exception"]).map some := by decide +kernel
set_option maxRecDepth 20000 in
theorem zat1_IndexOutOfBoundsException : (zAt RX4 210 "java/lang/IndexOutOfBoundsException" 7 Bundle.six ["java/lang/RuntimeException", "java/lang/Exception"]).all (fun w => goodWord w || decide (w ∈ zxw)) = true := by decide +kernel
theorem zat_IndexOutOfBoundsException : ∀ w ∈ (zAt RX4 210 "java/lang/IndexOutOfBoundsException" 7 Bundle.six ["java/lang/RuntimeException", "java/lang/Exception"]), w ∈ zWL ∨ w ∈ zxw := zw_or zat0_IndexOutOfBoundsException zat1_IndexOutOfBoundsException
set_option maxRecDepth 20000 in
theorem zat0_ArithmeticException : [7, 365, 374, 382, 385, 387, 366, 367, 26, 27, 368, 373, 383, 403, 355, 404, 357, 405, 359, 369, 371, 361, 399, 400, 402, 361, 718, 719, 720, 393, 347, 393, 394, 395, 396, 349, 396, 397, 398, 399, 351, 736, 717, 728, 729, 376, 723, 724, 726, 722, 364, 363, 721].map (fun i => tables_1[i]?) = (zAt RX4 243 "java/lang/ArithmeticException" 7 Bundle.six ["java/lang/RuntimeException", "java/lang/Exception"]).map some := by decide +kernel
set_option maxRecDepth 20000 in
theorem zat1_ArithmeticException : (zAt RX4 243 "java/lang/ArithmeticException" 7 Bundle.six ["java/lang/RuntimeException", "java/lang/Exception"]).all (fun w => goodWord w || decide (w ∈ zxw)) = true := by decide +kernel
theorem zat_ArithmeticException : ∀ w ∈ (zAt RX4 243 "java/lang/ArithmeticException" 7 Bundle.six ["java/lang/RuntimeException", "java/lang/Exception"]), w ∈ zWL ∨ w ∈ zxw := zw_or zat0_ArithmeticException zat1_ArithmeticException
theorem zx13_0 : decode prog_21_method_4_code 0 = .ok (.aload_n 0, 1) := by decide +kernel
theorem zx13_1 : decode prog_21_method_4_code 1 = .ok (.aload_n 1, 1) := by decide +kernel
theorem zx13_2 : decode prog_21_method_4_code 2 = .ok (.invokespecial 13, 3) := by decide +kernel
theorem zx13_5 : decode prog_21_method_4_code 5 = .ok (.return_, 1) := by decide +kernel
