/-! every row of every method, by the kernel: printed by wip/whole/gen/mkcode.py -/
set_option maxRecDepth 100000 in
theorem zlr_0 : ((q_L_law.2.2.2.drop 0).take 40).all (zrowb code "WordWarLaw" (some .boolean)) = true := by decide +kernel
set_option maxRecDepth 100000 in
theorem zlr_1 : ((q_L_law.2.2.2.drop 40).take 40).all (zrowb code "WordWarLaw" (some .boolean)) = true := by decide +kernel
set_option maxRecDepth 100000 in
theorem zlr_2 : ((q_L_law.2.2.2.drop 80).take 40).all (zrowb code "WordWarLaw" (some .boolean)) = true := by decide +kernel
set_option maxRecDepth 100000 in
theorem zlr_3 : ((q_L_law.2.2.2.drop 120).take 40).all (zrowb code "WordWarLaw" (some .boolean)) = true := by decide +kernel
set_option maxRecDepth 100000 in
theorem zlr_4 : ((q_L_law.2.2.2.drop 160).take 40).all (zrowb code "WordWarLaw" (some .boolean)) = true := by decide +kernel
set_option maxRecDepth 100000 in
theorem zlr_5 : ((q_L_law.2.2.2.drop 200).take 40).all (zrowb code "WordWarLaw" (some .boolean)) = true := by decide +kernel
