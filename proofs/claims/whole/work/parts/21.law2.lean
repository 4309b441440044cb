/-! every row of every method, by the kernel: printed by wip/whole/gen/mkcode.py -/
set_option maxRecDepth 100000 in
theorem zlr_12 : ((q_L_law.2.2.2.drop 480).take 40).all (zrowb code "WordWarLaw" (some .boolean)) = true := by decide +kernel
set_option maxRecDepth 100000 in
theorem zlr_13 : ((q_L_law.2.2.2.drop 520).take 40).all (zrowb code "WordWarLaw" (some .boolean)) = true := by decide +kernel
set_option maxRecDepth 100000 in
theorem zlr_14 : ((q_L_law.2.2.2.drop 560).take 40).all (zrowb code "WordWarLaw" (some .boolean)) = true := by decide +kernel
set_option maxRecDepth 100000 in
theorem zlr_15 : ((q_L_law.2.2.2.drop 600).take 40).all (zrowb code "WordWarLaw" (some .boolean)) = true := by decide +kernel
set_option maxRecDepth 100000 in
theorem zlr_16 : ((q_L_law.2.2.2.drop 640).take 40).all (zrowb code "WordWarLaw" (some .boolean)) = true := by decide +kernel
set_option maxRecDepth 100000 in
theorem zlr_17 : ((q_L_law.2.2.2.drop 680).take 40).all (zrowb code "WordWarLaw" (some .boolean)) = true := by decide +kernel
