/-! every row of every method, by the kernel: printed by wip/whole/gen/mkcode.py -/
set_option maxRecDepth 100000 in
theorem zch_7 : ∀ n, n < 17 → zchk (134 + n) = true := by decide +kernel
set_option maxRecDepth 100000 in
theorem zch_8 : ∀ n, n < 17 → zchk (151 + n) = true := by decide +kernel
set_option maxRecDepth 100000 in
theorem zch_9 : ∀ n, n < 13 → zchk (168 + n) = true := by decide +kernel
set_option maxRecDepth 100000 in
theorem zch_10 : ∀ n, n < 25 → zchk (181 + n) = true := by decide +kernel
set_option maxRecDepth 100000 in
theorem zch_11 : ∀ n, n < 16 → zchk (206 + n) = true := by decide +kernel
set_option maxRecDepth 100000 in
theorem zch_12 : ∀ n, n < 12 → zchk (222 + n) = true := by decide +kernel
set_option maxRecDepth 100000 in
theorem zch_13 : ∀ n, n < 14 → zchk (234 + n) = true := by decide +kernel
