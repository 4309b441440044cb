/-! every row of every method, by the kernel: printed by wip/whole/gen/mkcode.py -/
set_option maxRecDepth 100000 in
theorem zlr_18 : ((q_L_law.2.2.2.drop 720).take 40).all (zrowb code "WordWarLaw" (some .boolean)) = true := by decide +kernel
set_option maxRecDepth 100000 in
theorem zlr_19 : ((q_L_law.2.2.2.drop 760).take 40).all (zrowb code "WordWarLaw" (some .boolean)) = true := by decide +kernel
set_option maxRecDepth 100000 in
theorem zlr_20 : ((q_L_law.2.2.2.drop 800).take 40).all (zrowb code "WordWarLaw" (some .boolean)) = true := by decide +kernel
set_option maxRecDepth 100000 in
theorem zlr_21 : ((q_L_law.2.2.2.drop 840).take 40).all (zrowb code "WordWarLaw" (some .boolean)) = true := by decide +kernel
set_option maxRecDepth 100000 in
theorem zlr_22 : ((q_L_law.2.2.2.drop 880).take 40).all (zrowb code "WordWarLaw" (some .boolean)) = true := by decide +kernel
