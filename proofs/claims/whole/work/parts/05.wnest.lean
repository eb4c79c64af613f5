def pc_nw : List Cond := [Cond.methodLinkNest RX3 48 yX0_init "ParityRow",
  Cond.methodLinkNest RX3 51 yX2_init "ParityRow",
  Cond.fieldLinkNest RX3 107 "ParityRow$Journal" "records" "I" "ParityRow",
  Cond.fieldLinkNest RX3 120 "ParityRow$Disk" "state" "I" "ParityRow",
  Cond.fieldLinkNest RX3 123 "ParityRow$Disk" "built" "I" "ParityRow",
  Cond.methodLinkNest RX3 129 yX0_replace "ParityRow",
  Cond.fieldLinkNest RX3 141 "ParityRow$Disk" "words" "[I" "ParityRow",
  Cond.fieldLinkNest RX3 153 "ParityRow$Disk" "sums" "[I" "ParityRow",
  Cond.fieldLinkNest RX3 156 "ParityRow$Disk" "torn" "[Z" "ParityRow",
  Cond.methodLinkNest RX3 160 yX0_isThere "ParityRow",
  Cond.fieldLinkNest RX3 163 "ParityRow$Disk" "written" "I" "ParityRow",
  Cond.methodLinkNest RX3 166 yX2_freeCells "ParityRow",
  Cond.methodLinkNest RX3 173 yX2_nextSerial "ParityRow",
  Cond.fieldLinkNest RX3 176 "ParityRow$Journal" "markCell" "I" "ParityRow",
  Cond.fieldLinkNest RX3 179 "ParityRow$Journal" "markSerial" "I" "ParityRow",
  Cond.methodLinkNest RX3 182 yX2_entry "ParityRow",
  Cond.fieldLinkNest RX3 186 "ParityRow$Entry" "stripe" "I" "ParityRow",
  Cond.fieldLinkNest RX3 191 "ParityRow$Entry" "parts" "I" "ParityRow",
  Cond.methodLinkNest RX3 197 yX1_has "ParityRow",
  Cond.fieldLinkNest RX3 200 "ParityRow$Entry" "way" "I" "ParityRow",
  Cond.methodLinkNest RX3 209 yX2_latestWith "ParityRow",
  Cond.fieldLinkNest RX3 223 "ParityRow$Entry" "words" "[I" "ParityRow",
  Cond.methodLinkNest RX3 224 yX0_forgetBuilding "ParityRow",
  Cond.methodLinkNest RX3 230 yX0_take "ParityRow",
  Cond.methodLinkNest RX3 234 yX2_free "ParityRow",
  Cond.methodLinkNest RX3 237 yX0_isOn "ParityRow",
  Cond.methodLinkNest RX3 248 yX2_made "ParityRow",
  Cond.methodLinkNest RX3 252 yX1_begin "ParityRow",
  Cond.methodLinkNest RX3 255 yX1_addDatum "ParityRow",
  Cond.methodLinkNest RX3 265 yX1_cells "ParityRow",
  Cond.methodLinkNest RX3 268 yX2_recordsToFree "ParityRow",
  Cond.methodLinkNest RX3 274 yX2_addMade "ParityRow",
  Cond.methodLinkNest RX3 288 yX1_addWords "ParityRow",
  Cond.methodLinkNest RX3 292 yX2_recordsUpTo "ParityRow",
  Cond.methodLinkNest RX2 33 yX1_init "ParityRow",
  Cond.methodLinkNest RX2 44 yX1_cells "ParityRow",
  Cond.fieldLinkNest RX2 48 "ParityRow$Entry" "stripe" "I" "ParityRow",
  Cond.methodLinkNest RX2 51 yX1_has "ParityRow"]
theorem nw_X3_48 : Cond.methodLinkNest RX3 48 yX0_init "ParityRow" ∈ pc_nw := List.mem_of_getElem? (i := 0) rfl
theorem nw_X3_51 : Cond.methodLinkNest RX3 51 yX2_init "ParityRow" ∈ pc_nw := List.mem_of_getElem? (i := 1) rfl
theorem nw_X3_107 : Cond.fieldLinkNest RX3 107 "ParityRow$Journal" "records" "I" "ParityRow" ∈ pc_nw := List.mem_of_getElem? (i := 2) rfl
theorem nw_X3_120 : Cond.fieldLinkNest RX3 120 "ParityRow$Disk" "state" "I" "ParityRow" ∈ pc_nw := List.mem_of_getElem? (i := 3) rfl
theorem nw_X3_123 : Cond.fieldLinkNest RX3 123 "ParityRow$Disk" "built" "I" "ParityRow" ∈ pc_nw := List.mem_of_getElem? (i := 4) rfl
theorem nw_X3_129 : Cond.methodLinkNest RX3 129 yX0_replace "ParityRow" ∈ pc_nw := List.mem_of_getElem? (i := 5) rfl
theorem nw_X3_141 : Cond.fieldLinkNest RX3 141 "ParityRow$Disk" "words" "[I" "ParityRow" ∈ pc_nw := List.mem_of_getElem? (i := 6) rfl
theorem nw_X3_153 : Cond.fieldLinkNest RX3 153 "ParityRow$Disk" "sums" "[I" "ParityRow" ∈ pc_nw := List.mem_of_getElem? (i := 7) rfl
theorem nw_X3_156 : Cond.fieldLinkNest RX3 156 "ParityRow$Disk" "torn" "[Z" "ParityRow" ∈ pc_nw := List.mem_of_getElem? (i := 8) rfl
theorem nw_X3_160 : Cond.methodLinkNest RX3 160 yX0_isThere "ParityRow" ∈ pc_nw := List.mem_of_getElem? (i := 9) rfl
theorem nw_X3_163 : Cond.fieldLinkNest RX3 163 "ParityRow$Disk" "written" "I" "ParityRow" ∈ pc_nw := List.mem_of_getElem? (i := 10) rfl
theorem nw_X3_166 : Cond.methodLinkNest RX3 166 yX2_freeCells "ParityRow" ∈ pc_nw := List.mem_of_getElem? (i := 11) rfl
theorem nw_X3_173 : Cond.methodLinkNest RX3 173 yX2_nextSerial "ParityRow" ∈ pc_nw := List.mem_of_getElem? (i := 12) rfl
theorem nw_X3_176 : Cond.fieldLinkNest RX3 176 "ParityRow$Journal" "markCell" "I" "ParityRow" ∈ pc_nw := List.mem_of_getElem? (i := 13) rfl
theorem nw_X3_179 : Cond.fieldLinkNest RX3 179 "ParityRow$Journal" "markSerial" "I" "ParityRow" ∈ pc_nw := List.mem_of_getElem? (i := 14) rfl
theorem nw_X3_182 : Cond.methodLinkNest RX3 182 yX2_entry "ParityRow" ∈ pc_nw := List.mem_of_getElem? (i := 15) rfl
theorem nw_X3_186 : Cond.fieldLinkNest RX3 186 "ParityRow$Entry" "stripe" "I" "ParityRow" ∈ pc_nw := List.mem_of_getElem? (i := 16) rfl
theorem nw_X3_191 : Cond.fieldLinkNest RX3 191 "ParityRow$Entry" "parts" "I" "ParityRow" ∈ pc_nw := List.mem_of_getElem? (i := 17) rfl
theorem nw_X3_197 : Cond.methodLinkNest RX3 197 yX1_has "ParityRow" ∈ pc_nw := List.mem_of_getElem? (i := 18) rfl
theorem nw_X3_200 : Cond.fieldLinkNest RX3 200 "ParityRow$Entry" "way" "I" "ParityRow" ∈ pc_nw := List.mem_of_getElem? (i := 19) rfl
theorem nw_X3_209 : Cond.methodLinkNest RX3 209 yX2_latestWith "ParityRow" ∈ pc_nw := List.mem_of_getElem? (i := 20) rfl
theorem nw_X3_223 : Cond.fieldLinkNest RX3 223 "ParityRow$Entry" "words" "[I" "ParityRow" ∈ pc_nw := List.mem_of_getElem? (i := 21) rfl
theorem nw_X3_224 : Cond.methodLinkNest RX3 224 yX0_forgetBuilding "ParityRow" ∈ pc_nw := List.mem_of_getElem? (i := 22) rfl
theorem nw_X3_230 : Cond.methodLinkNest RX3 230 yX0_take "ParityRow" ∈ pc_nw := List.mem_of_getElem? (i := 23) rfl
theorem nw_X3_234 : Cond.methodLinkNest RX3 234 yX2_free "ParityRow" ∈ pc_nw := List.mem_of_getElem? (i := 24) rfl
theorem nw_X3_237 : Cond.methodLinkNest RX3 237 yX0_isOn "ParityRow" ∈ pc_nw := List.mem_of_getElem? (i := 25) rfl
theorem nw_X3_248 : Cond.methodLinkNest RX3 248 yX2_made "ParityRow" ∈ pc_nw := List.mem_of_getElem? (i := 26) rfl
theorem nw_X3_252 : Cond.methodLinkNest RX3 252 yX1_begin "ParityRow" ∈ pc_nw := List.mem_of_getElem? (i := 27) rfl
theorem nw_X3_255 : Cond.methodLinkNest RX3 255 yX1_addDatum "ParityRow" ∈ pc_nw := List.mem_of_getElem? (i := 28) rfl
theorem nw_X3_265 : Cond.methodLinkNest RX3 265 yX1_cells "ParityRow" ∈ pc_nw := List.mem_of_getElem? (i := 29) rfl
theorem nw_X3_268 : Cond.methodLinkNest RX3 268 yX2_recordsToFree "ParityRow" ∈ pc_nw := List.mem_of_getElem? (i := 30) rfl
theorem nw_X3_274 : Cond.methodLinkNest RX3 274 yX2_addMade "ParityRow" ∈ pc_nw := List.mem_of_getElem? (i := 31) rfl
theorem nw_X3_288 : Cond.methodLinkNest RX3 288 yX1_addWords "ParityRow" ∈ pc_nw := List.mem_of_getElem? (i := 32) rfl
theorem nw_X3_292 : Cond.methodLinkNest RX3 292 yX2_recordsUpTo "ParityRow" ∈ pc_nw := List.mem_of_getElem? (i := 33) rfl
theorem nw_X2_33 : Cond.methodLinkNest RX2 33 yX1_init "ParityRow" ∈ pc_nw := List.mem_of_getElem? (i := 34) rfl
theorem nw_X2_44 : Cond.methodLinkNest RX2 44 yX1_cells "ParityRow" ∈ pc_nw := List.mem_of_getElem? (i := 35) rfl
theorem nw_X2_48 : Cond.fieldLinkNest RX2 48 "ParityRow$Entry" "stripe" "I" "ParityRow" ∈ pc_nw := List.mem_of_getElem? (i := 36) rfl
theorem nw_X2_51 : Cond.methodLinkNest RX2 51 yX1_has "ParityRow" ∈ pc_nw := List.mem_of_getElem? (i := 37) rfl
theorem pc_nw_nf : ∀ w ∈ pc_nw, vv_nf w := by
  intro w hw
  simp only [pc_nw, List.mem_cons, List.not_mem_nil, or_false] at hw
  rcases hw with rfl | rfl | rfl | rfl | rfl | rfl | rfl | rfl | rfl | rfl | rfl | rfl | rfl | rfl | rfl | rfl | rfl | rfl | rfl | rfl | rfl | rfl | rfl | rfl | rfl | rfl | rfl | rfl | rfl | rfl | rfl | rfl | rfl | rfl | rfl | rfl | rfl | rfl <;> first | exact Or.inl ⟨_, _, _, _, _, _, rfl⟩ | exact Or.inr ⟨_, _, _, _, rfl⟩
