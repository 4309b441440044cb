/-! every row of every method, by the kernel: printed by wip/whole/gen/mkcode.py -/
set_option maxRecDepth 100000 in
theorem zch_14 : ∀ n, n < 15 → zchk (248 + n) = true := by decide +kernel
set_option maxRecDepth 100000 in
theorem zch_15 : ∀ n, n < 11 → zchk (263 + n) = true := by decide +kernel
set_option maxRecDepth 100000 in
theorem zch_16 : ∀ n, n < 9 → zchk (274 + n) = true := by decide +kernel
set_option maxRecDepth 100000 in
theorem zch_17 : ∀ n, n < 15 → zchk (283 + n) = true := by decide +kernel
set_option maxRecDepth 100000 in
theorem zch_18 : ∀ n, n < 12 → zchk (298 + n) = true := by decide +kernel
