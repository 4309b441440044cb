/-! every row of every method, by the kernel: printed by wip/whole/gen/mkcode.py -/
set_option maxRecDepth 100000 in
theorem zch_0 : ∀ n, n < 28 → zchk (0 + n) = true := by decide +kernel
set_option maxRecDepth 100000 in
theorem zch_1 : ∀ n, n < 25 → zchk (28 + n) = true := by decide +kernel
set_option maxRecDepth 100000 in
theorem zch_2 : ∀ n, n < 19 → zchk (53 + n) = true := by decide +kernel
set_option maxRecDepth 100000 in
theorem zch_3 : ∀ n, n < 20 → zchk (72 + n) = true := by decide +kernel
set_option maxRecDepth 100000 in
theorem zch_4 : ∀ n, n < 17 → zchk (92 + n) = true := by decide +kernel
set_option maxRecDepth 100000 in
theorem zch_5 : ∀ n, n < 13 → zchk (109 + n) = true := by decide +kernel
set_option maxRecDepth 100000 in
theorem zch_6 : ∀ n, n < 12 → zchk (122 + n) = true := by decide +kernel
