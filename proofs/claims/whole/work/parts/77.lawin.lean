/-! the words of the law among the tables, by chunks -/
def lw_ck (k : Nat) : List Cond := match k with
  | 0 => k2_sels lw_privs_1
  | 1 => k2_sels lw_privs_2
  | 2 => k2_sels lw_privs_3
  | 3 => k2_sels lw_privs_4
  | 4 => k2_sels lw_privs_5
  | 5 => k2_sels lw_privs_6
  | 6 => tables_1_1
  | 7 => tables_1_2
  | 8 => tables_1_3
  | _ => tables_1_4
theorem lw_ck_s {ps : List (MethodName × Nat)} (hp : ∀ q ∈ ps, q ∈ lw_privs) {w : Cond} (h : w ∈ k2_sels ps) : w ∈ lw_tbl := by
  obtain ⟨q, hq, e⟩ := List.mem_map.mp h
  exact List.mem_append_left _ (List.mem_map.mpr ⟨q, hp q hq, e⟩)
theorem lw_ck_in : ∀ (k : Nat) (w : Cond), w ∈ lw_ck k → w ∈ lw_tbl
  | 0, w, h => lw_ck_s (fun q hq => List.mem_append_left _ hq) h
  | 1, w, h => lw_ck_s (fun q hq => List.mem_append_right _ (List.mem_append_left _ hq)) h
  | 2, w, h => lw_ck_s (fun q hq => List.mem_append_right _ (List.mem_append_right _ (List.mem_append_left _ hq))) h
  | 3, w, h => lw_ck_s (fun q hq => List.mem_append_right _ (List.mem_append_right _ (List.mem_append_right _ (List.mem_append_left _ hq)))) h
  | 4, w, h => lw_ck_s (fun q hq => List.mem_append_right _ (List.mem_append_right _ (List.mem_append_right _ (List.mem_append_right _ (List.mem_append_left _ hq))))) h
  | 5, w, h => lw_ck_s (fun q hq => List.mem_append_right _ (List.mem_append_right _ (List.mem_append_right _ (List.mem_append_right _ (List.mem_append_right _ (hq)))))) h
  | 6, w, h => List.mem_append_right _ (List.mem_append_left _ h)
  | 7, w, h => List.mem_append_right _ (List.mem_append_right _ (List.mem_append_left _ h))
  | 8, w, h => List.mem_append_right _ (List.mem_append_right _ (List.mem_append_right _ (List.mem_append_left _ h)))
  | _ + 9, w, h => List.mem_append_right _ (List.mem_append_right _ (List.mem_append_right _ (List.mem_append_right _ (h))))
theorem lw_mem_c (ws : List Cond) (ps : List (Nat × Nat)) (hp : ws = ps.filterMap (fun q => (lw_ck q.1)[q.2]?)) : ∀ w ∈ ws, w ∈ lw_tbl := by
  intro w hw
  rw [hp] at hw
  obtain ⟨q, -, hq⟩ := List.mem_filterMap.mp hw
  exact lw_ck_in _ _ (List.mem_of_getElem? hq)
set_option maxRecDepth 20000 in
theorem lw_in_0 : ∀ w ∈ wsL_law0_r1, w ∈ lw_tbl := lw_mem_c _ [(6, 13), (6, 14), (6, 1), (8, 70), (8, 71), (6, 6), (9, 119), (7, 210), (7, 211), (6, 0), (7, 212), (6, 15), (6, 16), (6, 17), (6, 18), (6, 19), (6, 20), (6, 56), (6, 115), (6, 116), (6, 117), (6, 118), (6, 119), (6, 120)] rfl
set_option maxRecDepth 20000 in
theorem lw_in_1 : ∀ w ∈ wsL_law0_r2, w ∈ lw_tbl := lw_mem_c _ [(6, 111), (6, 112), (6, 24), (6, 113), (6, 26), (6, 3), (6, 58), (6, 59), (6, 4), (6, 114), (6, 21), (6, 22), (6, 2), (6, 23), (6, 28), (6, 29), (6, 30), (6, 31), (6, 33), (6, 57), (6, 35), (6, 37), (6, 39), (6, 41)] rfl
set_option maxRecDepth 20000 in
theorem lw_in_2 : ∀ w ∈ wsL_law0_r3, w ∈ lw_tbl := lw_mem_c _ [(6, 61), (6, 62), (6, 63), (6, 64), (6, 89), (6, 90), (6, 91), (6, 93), (6, 94), (6, 96), (6, 66), (6, 5), (6, 68), (6, 69), (6, 70), (6, 73), (6, 76), (6, 78), (6, 71), (8, 72), (8, 73), (8, 74), (8, 75), (8, 78)] rfl
set_option maxRecDepth 20000 in
theorem lw_in_3 : ∀ w ∈ wsL_law0_r4, w ∈ lw_tbl := lw_mem_c _ [(8, 79), (8, 80), (8, 81), (8, 82), (8, 83), (8, 85), (8, 86), (8, 87), (8, 88), (8, 89), (8, 90), (8, 92), (8, 93), (8, 95), (8, 98), (8, 99), (8, 100), (8, 77), (6, 142), (6, 143), (6, 144), (6, 145), (8, 152), (8, 153)] rfl
set_option maxRecDepth 20000 in
theorem lw_in_4 : ∀ w ∈ wsL_law0_r5, w ∈ lw_tbl := lw_mem_c _ [(8, 154), (8, 155), (6, 146), (6, 147), (6, 148), (6, 149), (6, 150), (6, 152), (0, 0), (6, 153), (6, 154), (6, 156), (0, 1), (6, 157), (6, 158), (6, 160), (0, 2), (6, 161), (8, 156), (8, 157), (8, 158), (8, 159), (8, 160), (8, 162)] rfl
set_option maxRecDepth 20000 in
theorem lw_in_5 : ∀ w ∈ wsL_law0_r6, w ∈ lw_tbl := lw_mem_c _ [(3, 5), (8, 163), (8, 164), (8, 165), (8, 166), (8, 167), (8, 168), (8, 170), (3, 6), (8, 171), (8, 172), (8, 174), (3, 7), (8, 175), (6, 162), (6, 163), (6, 164), (6, 165), (6, 166), (6, 167), (6, 2), (6, 168), (6, 169), (6, 170)] rfl
set_option maxRecDepth 20000 in
theorem lw_in_6 : ∀ w ∈ wsL_law0_r7, w ∈ lw_tbl := lw_mem_c _ [(6, 171), (6, 172), (6, 174), (0, 3), (6, 175), (6, 178), (0, 4), (6, 179), (6, 180), (6, 182), (0, 5), (6, 183), (6, 186), (0, 6), (6, 187), (6, 190), (0, 7), (6, 191), (6, 192), (6, 194), (0, 8), (6, 195), (6, 196), (6, 198)] rfl
set_option maxRecDepth 20000 in
theorem lw_in_7 : ∀ w ∈ wsL_law0_r8, w ∈ lw_tbl := lw_mem_c _ [(0, 9), (6, 199), (6, 202), (0, 10), (6, 203), (6, 204), (6, 206), (0, 11), (6, 207), (6, 208), (6, 210), (0, 12), (6, 211), (6, 212), (6, 214), (0, 13), (6, 215), (6, 218), (0, 14), (6, 219), (6, 222), (0, 15), (6, 223), (6, 226)] rfl
set_option maxRecDepth 20000 in
theorem lw_in_8 : ∀ w ∈ wsL_law0_r9, w ∈ lw_tbl := lw_mem_c _ [(1, 0), (6, 227), (6, 228), (6, 229), (6, 230), (6, 231), (6, 232), (6, 233), (6, 7), (6, 234), (6, 235), (6, 236), (6, 237), (6, 238), (7, 0), (1, 1), (7, 1), (7, 2), (7, 4), (1, 2), (7, 5), (7, 7), (7, 9), (1, 3)] rfl
set_option maxRecDepth 20000 in
theorem lw_in_9 : ∀ w ∈ wsL_law0_r10, w ∈ lw_tbl := lw_mem_c _ [(7, 10), (7, 11), (7, 13), (1, 4), (7, 14), (7, 17), (1, 5), (7, 18), (7, 21), (1, 6), (7, 22), (7, 23), (7, 26), (1, 7), (7, 27), (7, 28), (7, 30), (1, 8), (7, 31), (7, 33), (7, 35), (1, 9), (7, 36), (7, 38)] rfl
set_option maxRecDepth 20000 in
theorem lw_in_10 : ∀ w ∈ wsL_law0_r11, w ∈ lw_tbl := lw_mem_c _ [(7, 40), (1, 10), (7, 41), (7, 42), (7, 44), (1, 11), (7, 45), (7, 46), (7, 48), (1, 12), (7, 49), (7, 52), (1, 13), (7, 53), (7, 56), (1, 14), (7, 57), (7, 58), (7, 60), (1, 15), (7, 61), (7, 64), (2, 0), (7, 65)] rfl
set_option maxRecDepth 20000 in
theorem lw_in_11 : ∀ w ∈ wsL_law0_r12, w ∈ lw_tbl := lw_mem_c _ [(7, 66), (7, 68), (2, 1), (7, 69), (7, 72), (2, 2), (7, 73), (7, 74), (8, 176), (8, 177), (8, 178), (8, 179), (8, 94), (8, 180), (8, 182), (3, 8), (8, 183), (8, 84), (8, 184), (8, 186), (3, 9), (8, 187), (8, 188), (8, 190)] rfl
set_option maxRecDepth 20000 in
theorem lw_in_12 : ∀ w ∈ wsL_law0_r13, w ∈ lw_tbl := lw_mem_c _ [(3, 10), (8, 191), (8, 192), (8, 194), (3, 11), (8, 195), (8, 196), (8, 198), (3, 12), (8, 199), (8, 200), (8, 202), (3, 13), (8, 203), (8, 204), (8, 206), (3, 14), (8, 207), (8, 208), (8, 210), (3, 15), (8, 211), (8, 212), (8, 214)] rfl
set_option maxRecDepth 20000 in
theorem lw_in_13 : ∀ w ∈ wsL_law0_r14, w ∈ lw_tbl := lw_mem_c _ [(4, 0), (8, 215), (8, 216), (8, 218), (4, 1), (8, 219), (8, 220), (8, 222), (4, 2), (8, 223), (8, 224), (8, 226), (4, 3), (8, 227), (8, 228), (8, 230), (4, 4), (8, 231), (8, 232), (8, 234), (4, 5), (8, 235), (8, 236), (8, 238)] rfl
set_option maxRecDepth 20000 in
theorem lw_in_14 : ∀ w ∈ wsL_law0_r15, w ∈ lw_tbl := lw_mem_c _ [(4, 6), (8, 239), (8, 91), (9, 0), (9, 2), (4, 7), (9, 3), (9, 4), (9, 6), (4, 8), (9, 7), (9, 8), (9, 10), (4, 9), (9, 11), (8, 96), (9, 12), (9, 14), (4, 10), (9, 15), (8, 97), (9, 16), (9, 18), (4, 11)] rfl
set_option maxRecDepth 20000 in
theorem lw_in_15 : ∀ w ∈ wsL_law0_r16, w ∈ lw_tbl := lw_mem_c _ [(9, 19), (7, 75), (7, 76), (7, 77), (7, 78), (7, 79), (7, 81), (2, 3), (7, 82), (7, 83), (7, 85), (2, 4), (7, 86), (7, 87), (7, 89), (2, 5), (7, 90), (9, 20), (9, 21), (9, 22), (9, 23), (9, 24), (9, 26), (4, 12)] rfl
set_option maxRecDepth 20000 in
theorem lw_in_16 : ∀ w ∈ wsL_law0_r17, w ∈ lw_tbl := lw_mem_c _ [(9, 27), (9, 28), (9, 30), (4, 13), (9, 31), (7, 213), (7, 214), (7, 215), (7, 216), (7, 217), (7, 218), (7, 219), (7, 220), (7, 221), (7, 222), (6, 11), (8, 49), (6, 12), (7, 135), (7, 137), (2, 13), (7, 138), (9, 32), (9, 33)] rfl
set_option maxRecDepth 20000 in
theorem lw_in_17 : ∀ w ∈ wsL_law0_r18, w ∈ lw_tbl := lw_mem_c _ [(9, 34), (9, 35), (9, 36), (8, 76), (9, 37), (9, 39), (4, 14), (9, 40), (8, 66), (8, 67), (8, 68), (8, 69), (7, 91), (7, 92), (7, 93), (7, 94), (9, 41), (9, 42), (9, 43), (9, 44), (9, 45), (7, 95), (7, 96), (7, 97)] rfl
set_option maxRecDepth 20000 in
theorem lw_in_18 : ∀ w ∈ wsL_law0_r19, w ∈ lw_tbl := lw_mem_c _ [(7, 98), (7, 99), (7, 101), (2, 6), (7, 102), (7, 103), (7, 105), (2, 7), (7, 106), (7, 107), (7, 109), (2, 8), (7, 110), (9, 46), (9, 47), (9, 48), (9, 49), (9, 50), (9, 52), (4, 15), (9, 53), (7, 111), (7, 112), (7, 113)] rfl
set_option maxRecDepth 20000 in
theorem lw_in_19 : ∀ w ∈ wsL_law0_r20, w ∈ lw_tbl := lw_mem_c _ [(7, 114), (7, 117), (2, 9), (7, 118), (9, 54), (9, 55), (9, 56), (9, 57), (7, 119), (7, 120), (7, 121), (7, 122), (7, 123), (7, 125), (2, 10), (7, 126), (7, 129), (2, 11), (7, 130), (7, 131), (7, 133), (2, 12), (7, 134), (9, 58)] rfl
set_option maxRecDepth 20000 in
theorem lw_in_20 : ∀ w ∈ wsL_law0_r21, w ∈ lw_tbl := lw_mem_c _ [(9, 59), (9, 60), (9, 61), (9, 62), (9, 64), (5, 0), (9, 65), (9, 66), (9, 68), (5, 1), (9, 69), (7, 139), (7, 140), (7, 141), (7, 142), (7, 143), (7, 145), (2, 14), (7, 146), (7, 147), (7, 149), (2, 15), (7, 150), (7, 151)] rfl
set_option maxRecDepth 20000 in
theorem lw_in_21 : ∀ w ∈ wsL_law0_r22, w ∈ lw_tbl := lw_mem_c _ [(7, 153), (3, 0), (7, 154), (9, 70), (9, 71), (9, 72), (9, 73), (9, 74), (9, 76), (5, 2), (9, 77), (7, 155), (7, 156), (7, 157), (7, 158), (7, 159), (7, 160), (7, 161), (9, 78), (9, 79), (9, 80), (9, 81), (9, 82), (7, 162)] rfl
set_option maxRecDepth 20000 in
theorem lw_in_22 : ∀ w ∈ wsL_law0_r23, w ∈ lw_tbl := lw_mem_c _ [(7, 163), (7, 164), (7, 165), (7, 166), (7, 167), (7, 168), (9, 83), (9, 84), (9, 85), (9, 86), (9, 87), (9, 88), (9, 89), (7, 169), (7, 170), (7, 171), (7, 172), (7, 173), (7, 175), (3, 1), (7, 176), (9, 90), (9, 91), (9, 92)] rfl
set_option maxRecDepth 20000 in
theorem lw_in_23 : ∀ w ∈ wsL_law0_r24, w ∈ lw_tbl := lw_mem_c _ [(9, 93), (7, 177), (7, 178), (7, 179), (7, 180), (9, 94), (9, 95), (9, 96), (9, 97), (7, 181), (7, 182), (7, 183), (7, 184), (9, 98), (9, 99), (9, 100), (9, 101), (7, 185), (7, 186), (7, 187), (7, 188), (7, 190), (7, 192), (3, 2)] rfl
set_option maxRecDepth 20000 in
theorem lw_in_24 : ∀ w ∈ wsL_law0_r25, w ∈ lw_tbl := lw_mem_c _ [(7, 193), (7, 196), (3, 3), (7, 197), (9, 102), (9, 103), (9, 104), (9, 105), (7, 198), (7, 199), (7, 200), (7, 201), (9, 106), (9, 107), (9, 108), (9, 109), (7, 202), (7, 203), (7, 204), (7, 205), (9, 110), (9, 111), (9, 112), (9, 113)] rfl
set_option maxRecDepth 20000 in
theorem lw_in_25 : ∀ w ∈ wsL_law0_r26, w ∈ lw_tbl := lw_mem_c _ [(9, 114), (7, 206), (7, 207), (7, 208), (7, 209), (9, 115), (9, 116), (9, 117), (9, 118)] rfl
set_option maxRecDepth 20000 in
theorem lw_in_26 : ∀ w ∈ wsX30, w ∈ lw_tbl := lw_mem_c _ [(6, 121), (6, 123), (6, 125), (6, 127), (6, 129), (6, 131), (6, 133), (6, 135), (6, 137), (6, 139)] rfl
set_option maxRecDepth 20000 in
theorem lw_in_27 : ∀ w ∈ wsX40, w ∈ lw_tbl := lw_mem_c _ [(8, 101), (8, 103), (8, 105), (8, 107), (8, 109), (8, 111), (8, 113), (8, 115), (8, 117), (8, 119), (8, 121), (8, 123), (8, 125), (8, 127), (8, 129), (8, 131), (8, 133), (8, 135), (8, 137), (8, 139), (8, 141), (8, 143), (8, 145), (8, 147), (8, 149)] rfl
set_option maxRecDepth 20000 in
theorem lw_in_28 : ∀ w ∈ wsX00, w ∈ lw_tbl := lw_mem_c _ [(6, 43), (6, 45), (6, 47), (6, 49), (6, 51), (6, 53)] rfl
set_option maxRecDepth 20000 in
theorem lw_in_29 : ∀ w ∈ wsX20, w ∈ lw_tbl := lw_mem_c _ [(6, 98), (6, 100), (6, 102), (6, 104), (6, 106), (6, 108)] rfl
set_option maxRecDepth 20000 in
theorem lw_in_30 : ∀ w ∈ wsX10, w ∈ lw_tbl := lw_mem_c _ [(6, 80), (6, 82), (6, 84), (6, 86)] rfl
theorem lw_in_r : ∀ w ∈ wsL_law0_r1 ++ (wsL_law0_r2 ++ (wsL_law0_r3 ++ (wsL_law0_r4 ++ (wsL_law0_r5 ++ (wsL_law0_r6 ++ (wsL_law0_r7 ++ (wsL_law0_r8 ++ (wsL_law0_r9 ++ (wsL_law0_r10 ++ (wsL_law0_r11 ++ (wsL_law0_r12 ++ (wsL_law0_r13 ++ (wsL_law0_r14 ++ (wsL_law0_r15 ++ (wsL_law0_r16 ++ (wsL_law0_r17 ++ (wsL_law0_r18 ++ (wsL_law0_r19 ++ (wsL_law0_r20 ++ (wsL_law0_r21 ++ (wsL_law0_r22 ++ (wsL_law0_r23 ++ (wsL_law0_r24 ++ (wsL_law0_r25 ++ wsL_law0_r26)))))))))))))))))))))))), w ∈ lw_tbl := List.forall_mem_append.mpr ⟨lw_in_0, List.forall_mem_append.mpr ⟨lw_in_1, List.forall_mem_append.mpr ⟨lw_in_2, List.forall_mem_append.mpr ⟨lw_in_3, List.forall_mem_append.mpr ⟨lw_in_4, List.forall_mem_append.mpr ⟨lw_in_5, List.forall_mem_append.mpr ⟨lw_in_6, List.forall_mem_append.mpr ⟨lw_in_7, List.forall_mem_append.mpr ⟨lw_in_8, List.forall_mem_append.mpr ⟨lw_in_9, List.forall_mem_append.mpr ⟨lw_in_10, List.forall_mem_append.mpr ⟨lw_in_11, List.forall_mem_append.mpr ⟨lw_in_12, List.forall_mem_append.mpr ⟨lw_in_13, List.forall_mem_append.mpr ⟨lw_in_14, List.forall_mem_append.mpr ⟨lw_in_15, List.forall_mem_append.mpr ⟨lw_in_16, List.forall_mem_append.mpr ⟨lw_in_17, List.forall_mem_append.mpr ⟨lw_in_18, List.forall_mem_append.mpr ⟨lw_in_19, List.forall_mem_append.mpr ⟨lw_in_20, List.forall_mem_append.mpr ⟨lw_in_21, List.forall_mem_append.mpr ⟨lw_in_22, List.forall_mem_append.mpr ⟨lw_in_23, List.forall_mem_append.mpr ⟨lw_in_24, lw_in_25⟩⟩⟩⟩⟩⟩⟩⟩⟩⟩⟩⟩⟩⟩⟩⟩⟩⟩⟩⟩⟩⟩⟩⟩⟩
theorem wsL_law_in0 : ∀ w ∈ wsL_law0, w ∈ lw_tbl := List.forall_mem_append.mpr ⟨List.forall_mem_append.mpr ⟨List.forall_mem_append.mpr ⟨List.forall_mem_append.mpr ⟨List.forall_mem_append.mpr ⟨List.forall_mem_append.mpr ⟨lw_in_r, lw_in_26⟩, lw_in_27⟩, lw_in_28⟩, lw_in_29⟩, lw_in_30⟩, fun _ h => absurd h List.not_mem_nil⟩
theorem wsL_law_x0 : ∀ w ∈ (vx_atS RX3 86 "java/lang/IndexOutOfBoundsException" ["java/lang/RuntimeException", "java/lang/Exception"]).filter goodWord, w ∈ lw_tbl := by decide +kernel
theorem wsL_law_x1 : ∀ w ∈ (vx_atS RX3 93 "java/lang/IllegalStateException" ["java/lang/RuntimeException", "java/lang/Exception"]).filter goodWord, w ∈ lw_tbl := by decide +kernel
theorem wsL_law_in : ∀ w ∈ wsL_law, w ∈ lw_tbl := fun w h => (List.mem_append.mp h).elim (fun h => (List.mem_append.mp h).elim (fun h => wsL_law_in0 w h) (fun h => wsL_law_x0 w h)) (fun h => wsL_law_x1 w h)
theorem inlX0 : ∀ w ∈ wsX00, w ∈ wsL_law := fun _ h => List.mem_append_left _ (List.mem_append_left _ (List.mem_append_left _ (List.mem_append_left _ (List.mem_append_left _ (List.mem_append_right _ h)))))
theorem inlX1 : ∀ w ∈ wsX10, w ∈ wsL_law := fun _ h => List.mem_append_left _ (List.mem_append_left _ (List.mem_append_left _ (List.mem_append_right _ h)))
theorem inlX2 : ∀ w ∈ wsX20, w ∈ wsL_law := fun _ h => List.mem_append_left _ (List.mem_append_left _ (List.mem_append_left _ (List.mem_append_left _ (List.mem_append_right _ h))))
theorem inlX3 : ∀ w ∈ wsX30, w ∈ wsL_law := fun _ h => List.mem_append_left _ (List.mem_append_left _ (List.mem_append_left _ (List.mem_append_left _ (List.mem_append_left _ (List.mem_append_left _ (List.mem_append_left _ (List.mem_append_right _ h)))))))
theorem inlX4 : ∀ w ∈ wsX40, w ∈ wsL_law := fun _ h => List.mem_append_left _ (List.mem_append_left _ (List.mem_append_left _ (List.mem_append_left _ (List.mem_append_left _ (List.mem_append_left _ (List.mem_append_right _ h))))))
