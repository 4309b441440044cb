/-! words of the tables by their places: printed by wip/whole/gen/mkwords.py -/
def zseg (j : Nat) : List Cond := match j with
  | 0 => k2_sels lw_privs
  | 1 => tables_1_1
  | 2 => tables_1_2
  | 3 => tables_1_3
  | 4 => tables_1_4
  | 5 => tables_1_5
  | 6 => tables_1_6
  | 7 => tables_1_7
  | 8 => tables_1_8
  | _ => tables_1_9
theorem zseg_in {j : Nat} {w : Cond} (h : w ∈ zseg j) : w ∈ lw_tbl := by
  unfold zseg at h
  show w ∈ k2_sels lw_privs ++ (tables_1_1 ++ (tables_1_2 ++ (tables_1_3 ++ (tables_1_4 ++ (tables_1_5 ++ (tables_1_6 ++ (tables_1_7 ++ (tables_1_8 ++ (tables_1_9)))))))))
  split at h
  · exact List.mem_append_left _ h
  · exact List.mem_append_right _ (List.mem_append_left _ h)
  · exact List.mem_append_right _ (List.mem_append_right _ (List.mem_append_left _ h))
  · exact List.mem_append_right _ (List.mem_append_right _ (List.mem_append_right _ (List.mem_append_left _ h)))
  · exact List.mem_append_right _ (List.mem_append_right _ (List.mem_append_right _ (List.mem_append_right _ (List.mem_append_left _ h))))
  · exact List.mem_append_right _ (List.mem_append_right _ (List.mem_append_right _ (List.mem_append_right _ (List.mem_append_right _ (List.mem_append_left _ h)))))
  · exact List.mem_append_right _ (List.mem_append_right _ (List.mem_append_right _ (List.mem_append_right _ (List.mem_append_right _ (List.mem_append_right _ (List.mem_append_left _ h))))))
  · exact List.mem_append_right _ (List.mem_append_right _ (List.mem_append_right _ (List.mem_append_right _ (List.mem_append_right _ (List.mem_append_right _ (List.mem_append_right _ (List.mem_append_left _ h)))))))
  · exact List.mem_append_right _ (List.mem_append_right _ (List.mem_append_right _ (List.mem_append_right _ (List.mem_append_right _ (List.mem_append_right _ (List.mem_append_right _ (List.mem_append_right _ (List.mem_append_left _ h))))))))
  · exact List.mem_append_right _ (List.mem_append_right _ (List.mem_append_right _ (List.mem_append_right _ (List.mem_append_right _ (List.mem_append_right _ (List.mem_append_right _ (List.mem_append_right _ (List.mem_append_right _ (h)))))))))
def zwat (q : Nat × Nat × Cond) : Bool := decide ((zseg q.1)[q.2.1]? = some q.2.2)
theorem zwat_in {l : List (Nat × Nat × Cond)} (h : l.all zwat = true) : ∀ q ∈ l, q.2.2 ∈ lw_tbl := fun q hq => zseg_in (j := q.1) (List.mem_of_getElem? (i := q.2.1) (of_decide_eq_true (List.all_eq_true.mp h q hq)))
def zfpl : List (List (Nat × Nat)) := [[(1, 176), (1, 178), (1, 180), (1, 182)], [(1, 102), (1, 104), (1, 106), (1, 108), (1, 110), (1, 112), (1, 114), (1, 116)], [(1, 81), (1, 83), (1, 85)], [(1, 139), (1, 141), (1, 143), (1, 145), (1, 147), (1, 149), (1, 151), (1, 153), (1, 155)], [(2, 33), (2, 35), (2, 37), (2, 39), (2, 41), (2, 43), (2, 45), (2, 47), (2, 49), (2, 51)], [(1, 219), (1, 221), (1, 223), (1, 225), (1, 227), (1, 229), (1, 231), (1, 233), (1, 235)], [(1, 193), (1, 195)], [(2, 70), (2, 72), (2, 74), (2, 76), (2, 78), (2, 80), (2, 82), (2, 84)], [(1, 51), (1, 53), (1, 55), (1, 57), (1, 59)], [(2, 9), (2, 11), (2, 13)], [(2, 110), (2, 112), (2, 114), (2, 116), (2, 118), (2, 120), (2, 122), (2, 124), (2, 126), (2, 128), (2, 130), (2, 132), (2, 134), (2, 136), (2, 138), (2, 140), (2, 142), (2, 144), (2, 146), (2, 148)], [(6, 86), (6, 88), (6, 90), (6, 92), (6, 94), (6, 96), (6, 98), (6, 100), (6, 102), (6, 104), (6, 106), (6, 108), (6, 110), (6, 112), (6, 114), (6, 116), (6, 118), (6, 120), (6, 122), (6, 124), (6, 126), (6, 128), (6, 130), (6, 132), (6, 134), (6, 136), (6, 138), (6, 140), (6, 142), (6, 144), (6, 146), (6, 148), (6, 150), (6, 152), (6, 154), (6, 156), (6, 158), (6, 160), (6, 162), (6, 164), (6, 166), (6, 168), (6, 170), (6, 172), (6, 174), (6, 176), (6, 178), (6, 180), (6, 182), (6, 184), (6, 186), (6, 188), (6, 190), (6, 192), (6, 194), (6, 196), (6, 198), (6, 200), (6, 202), (6, 204), (6, 206), (6, 208), (6, 210), (6, 212), (6, 214), (6, 216), (6, 218), (6, 220), (6, 222), (6, 224), (6, 226), (6, 228), (6, 230), (6, 232), (6, 234), (6, 236), (6, 238), (7, 0), (7, 2), (7, 4), (7, 6), (7, 8), (7, 10), (7, 12), (7, 14), (7, 16), (7, 18), (7, 20), (7, 22), (7, 24), (7, 26), (7, 28)]]
set_option maxRecDepth 100000 in
theorem zfpl_ok : ∀ c, c < 12 → ∀ k, k < zN c → (zseg ((zfpl.getD c []).getD k (0, 0)).1)[((zfpl.getD c []).getD k (0, 0)).2]? = some (u_lay (zRc c) (zT c) k) := by decide +kernel
theorem zin_all {c : Nat} (hc : c < 12) : ∀ w ∈ u_ws (zRc c) (zT c) (zN c), w ∈ lw_g := by
  intro w hw
  unfold u_ws at hw
  obtain ⟨k, hk, rfl⟩ := List.mem_map.mp hw
  exact zg_in (zseg_in (List.mem_of_getElem? (zfpl_ok c hc k (List.mem_range.mp hk)))) (by unfold u_lay; split <;> rfl)
def zcw : List (Nat × Nat × Cond) := [(1, 163, .instantiable "WordWar$Acts" 4),
  (1, 7, .initialized "WordWar$Acts"),
  (1, 65, .instantiable "WordWar$Army" 8),
  (1, 3, .initialized "WordWar$Army"),
  (1, 71, .instantiable "WordWar$Camp" 3),
  (1, 4, .initialized "WordWar$Camp"),
  (1, 121, .instantiable "WordWar$Chooser" 9),
  (1, 5, .initialized "WordWar$Chooser"),
  (2, 17, .instantiable "WordWar$Fights" 10),
  (1, 11, .initialized "WordWar$Fights"),
  (1, 199, .instantiable "WordWar$Law" 9),
  (1, 9, .initialized "WordWar$Law"),
  (1, 186, .instantiable "WordWar$LawReader" 2),
  (1, 8, .initialized "WordWar$LawReader"),
  (2, 55, .instantiable "WordWar$Soldiers" 8),
  (1, 12, .initialized "WordWar$Soldiers"),
  (1, 31, .instantiable "WordWar$Tape" 5),
  (1, 2, .initialized "WordWar$Tape"),
  (1, 239, .instantiable "WordWar$Treaty" 3),
  (1, 10, .initialized "WordWar$Treaty"),
  (1, 23, .instantiable "WordWar" 20),
  (1, 1, .initialized "WordWar"),
  (5, 229, .instantiable "WordWarModel" 92),
  (1, 13, .initialized "WordWarModel")]
set_option maxRecDepth 100000 in
theorem zcw_ok : zcw.all zwat = true := by decide +kernel
set_option maxRecDepth 100000 in
theorem zcw_c : ∀ c, c < 12 → (zcw.getD (2 * c) (0, 0, .tt)).2.2 = .instantiable (zRc c) (zN c) ∧ (zcw.getD (2 * c + 1) (0, 0, .tt)).2.2 = .initialized (zRc c) := by decide +kernel
theorem zinst {c : Nat} (hc : c < 12) : Cond.instantiable (zRc c) (zN c) ∈ lw_g ∧ Cond.initialized (zRc c) ∈ lw_g := by
  have h := zcw_c c hc
  have hl : zcw.length = 24 := rfl
  have g : ∀ i, i < 24 → (zcw.getD i (0, 0, .tt)).2.2 ∈ lw_tbl := fun i hi => zwat_in zcw_ok _ (by rw [List.getD_eq_getElem?_getD, List.getElem?_eq_getElem (by omega)]; exact List.getElem_mem _)
  exact ⟨zg_in (by rw [← h.1]; exact g _ (by omega)) rfl, zg_in (by rw [← h.2]; exact g _ (by omega)) rfl⟩
theorem zarrw : Cond.arrayClass .int ∈ lw_g ∧ Cond.arrayClass .long ∈ lw_g ∧ Cond.arrayClass .byte ∈ lw_g ∧ Cond.arrayClass .boolean ∈ lw_g := ⟨zg_in (zseg_in (j := 1) (List.mem_of_getElem? (i := 62) (by decide +kernel))) rfl, zg_in (zseg_in (j := 1) (List.mem_of_getElem? (i := 158) (by decide +kernel))) rfl, zg_in (zseg_in (j := 3) (List.mem_of_getElem? (i := 180) (by decide +kernel))) rfl, zg_in (zseg_in (j := 7) (List.mem_of_getElem? (i := 31) (by decide +kernel))) rfl⟩
theorem zarrq : Cond.arrayOver (.object "WordWar$Army") ∈ lw_tbl ∧ Cond.arrayOver (.object "WordWar$Chooser") ∈ lw_tbl ∧ Cond.arrayOver (.object "WordWar$Camp") ∈ lw_tbl := ⟨zseg_in (j := 1) (List.mem_of_getElem? (i := 64) (by decide +kernel)), zseg_in (j := 1) (List.mem_of_getElem? (i := 120) (by decide +kernel)), zseg_in (j := 2) (List.mem_of_getElem? (i := 88) (by decide +kernel))⟩
theorem zobjw : Cond.instanceMethod Lib.objectInit ∈ lw_g ∧ Cond.code Lib.objectInit ⟨#[0xb1]⟩ 1 none ∈ lw_g := ⟨zg_in (zseg_in (j := 1) (List.mem_of_getElem? (i := 28) (by decide +kernel))) rfl, zg_in (zseg_in (j := 1) (List.mem_of_getElem? (i := 29) (by decide +kernel))) rfl⟩
theorem zcpyw : Cond.native arraycopyName ∈ lw_g ∧ Cond.static arraycopyName ∈ lw_g ∧ Cond.initialized "java/lang/System" ∈ lw_g := ⟨zg_in (zseg_in (j := 3) (List.mem_of_getElem? (i := 12) (by decide +kernel))) rfl, zg_in (zseg_in (j := 3) (List.mem_of_getElem? (i := 11) (by decide +kernel))) rfl, zg_in (zseg_in (j := 1) (List.mem_of_getElem? (i := 16) (by decide +kernel))) rfl⟩
theorem zmathw : Cond.static Lib.Math.min.name ∈ lw_g ∧ Cond.static Lib.Math.max.name ∈ lw_g ∧ Cond.static Lib.Math.abs.name ∈ lw_g ∧ Cond.static Lib.MathLoose.min_long.x ∈ lw_g ∧ Cond.initialized "java/lang/Math" ∈ lw_g ∧ Cond.code Lib.Math.min.name Lib.Math.min.code 2 (some .int) ∈ lw_g ∧ Cond.code Lib.Math.max.name Lib.Math.max.code 2 (some .int) ∈ lw_g ∧ Cond.code Lib.Math.abs.name Lib.Math.abs.code 1 (some .int) ∈ lw_g ∧ Cond.code Lib.MathLoose.min_long.x Lib.MathLoose.min_long.code 4 (some .long) ∈ lw_g := ⟨zg_in (zseg_in (j := 2) (List.mem_of_getElem? (i := 182) (by decide +kernel))) rfl, zg_in (zseg_in (j := 4) (List.mem_of_getElem? (i := 79) (by decide +kernel))) rfl, zg_in (zseg_in (j := 5) (List.mem_of_getElem? (i := 142) (by decide +kernel))) rfl, zg_in (zseg_in (j := 5) (List.mem_of_getElem? (i := 106) (by decide +kernel))) rfl, zg_in (zseg_in (j := 1) (List.mem_of_getElem? (i := 14) (by decide +kernel))) rfl, zg_in (zseg_in (j := 2) (List.mem_of_getElem? (i := 183) (by decide +kernel))) rfl, zg_in (zseg_in (j := 4) (List.mem_of_getElem? (i := 80) (by decide +kernel))) rfl, zg_in (zseg_in (j := 5) (List.mem_of_getElem? (i := 143) (by decide +kernel))) rfl, zg_in (zseg_in (j := 5) (List.mem_of_getElem? (i := 107) (by decide +kernel))) rfl⟩
