/-! every row of every method, by the kernel: printed by wip/whole/gen/mkcode.py -/
set_option maxRecDepth 100000 in
theorem zlr_6 : ((q_L_law.2.2.2.drop 240).take 40).all (zrowb code "WordWarLaw" (some .boolean)) = true := by decide +kernel
set_option maxRecDepth 100000 in
theorem zlr_7 : ((q_L_law.2.2.2.drop 280).take 40).all (zrowb code "WordWarLaw" (some .boolean)) = true := by decide +kernel
set_option maxRecDepth 100000 in
theorem zlr_8 : ((q_L_law.2.2.2.drop 320).take 40).all (zrowb code "WordWarLaw" (some .boolean)) = true := by decide +kernel
set_option maxRecDepth 100000 in
theorem zlr_9 : ((q_L_law.2.2.2.drop 360).take 40).all (zrowb code "WordWarLaw" (some .boolean)) = true := by decide +kernel
set_option maxRecDepth 100000 in
theorem zlr_10 : ((q_L_law.2.2.2.drop 400).take 40).all (zrowb code "WordWarLaw" (some .boolean)) = true := by decide +kernel
set_option maxRecDepth 100000 in
theorem zlr_11 : ((q_L_law.2.2.2.drop 440).take 40).all (zrowb code "WordWarLaw" (some .boolean)) = true := by decide +kernel
