theorem pc_cnt_le {σ : vv_S} {s : Nat} : ∀ {n : Nat}, pc_cnt σ s n ≤ n
  | 0 => Nat.le_refl 0
  | n + 1 => by have := pc_cnt_le (σ := σ) (s := s) (n := n); unfold pc_cnt; split <;> omega
set_option maxRecDepth 100000 in
set_option maxHeartbeats 4000000 in
theorem cm_X3_isCut (l : Launch) (Y : vv_Y) (n : Nat) (hY : pc_sys Y n) (σ : vv_S) (b : Int32) : vv_M l Y yX3_isCut wsX3_isCut { frames := 0, cells := 0, slots := 0, locals := 0 } [.int (b)] σ (vv_R (.int (vv_B (¬ b < -1 ∧ ¬ nI 1000 < b))) σ) := by
  refine vv_M.of (cc := cX3_isCut) (maxL := 1) (ret := (some .boolean)) hY.ok (by decide) rfl (Nat.le_of_ble_eq_true rfl) ?_
  intro Z hl hp hC
  subst hl
  have hlo := hY.lo
  have hhi := hY.hi
  refine vv_loc (L' := [(0, .int (b))]) rfl ?_
  refine vv_iload_n (q := 1) hC dX3_isCut_0 (x := b) rfl rfl ?_
  refine vv_iconst (q := 2) hC ((-1)) dX3_isCut_1 (by decide) rfl ?_
  refine vv_icmp_lt (x := b) (y := (-1)) (q := 5) (tgt := 16) hC dX3_isCut_2 (by decide) rfl (fun c_2 => ?_) (fun c_2 => ?_)
  · refine vv_iconst (q := 17) hC (nI 0) dX3_isCut_16 (by decide) rfl ?_
    refine vv_zret (v := nI (0)) hC (by first | rfl | decide) dX3_isCut_17 ?_
    rw [hp]
    exact ⟨congrArg (fun z => some (Value.int z)) (vv_B0 (by grind)).symm, rfl⟩
  · refine vv_iload_n (q := 6) hC dX3_isCut_5 (x := b) rfl rfl ?_
    refine vv_sipush (q := 9) hC (nI 1000) dX3_isCut_6 (by decide) rfl ?_
    refine vv_icmp_gt (x := b) (y := nI (1000)) (q := 12) (tgt := 16) hC dX3_isCut_9 (by decide) rfl (fun c_9 => ?_) (fun c_9 => ?_)
    · refine vv_iconst (q := 17) hC (nI 0) dX3_isCut_16 (by decide) rfl ?_
      refine vv_zret (v := nI (0)) hC (by first | rfl | decide) dX3_isCut_17 ?_
      rw [hp]
      exact ⟨congrArg (fun z => some (Value.int z)) (vv_B0 (by grind)).symm, rfl⟩
    · refine vv_iconst (q := 13) hC (nI 1) dX3_isCut_12 (by decide) rfl ?_
      refine vv_goto (tgt := 17) hC dX3_isCut_13 (by decide) ?_
      refine vv_zret (v := nI (1)) hC (by first | rfl | decide) dX3_isCut_17 ?_
      rw [hp]
      exact ⟨congrArg (fun z => some (Value.int z)) (vv_B1 (by grind)).symm, rfl⟩
set_option maxRecDepth 100000 in
set_option maxHeartbeats 4000000 in
theorem cm_X3_allData (l : Launch) (Y : vv_Y) (n : Nat) (hY : pc_sys Y n) (σ : vv_S) : vv_M l Y yX3_allData wsX3_allData { frames := 0, cells := 0, slots := 0, locals := 0 } [.ref (Y.2.1 (0))] σ (vv_R (.int (pc_all n)) σ) := by
  refine vv_M.of (cc := cX3_allData) (maxL := 1) (ret := (some .int)) hY.ok (by decide) rfl (Nat.le_of_ble_eq_true rfl) ?_
  intro Z hl hp hC
  subst hl
  have hi_X3 : ∀ w ∈ u_ws RX3 TX3 10, w ∈ wsX3_allData := by decide +kernel
  have hf_data : Cond.fieldLink RX3 39 "ParityRow" (TX3 1).2.1 (TX3 1).2.2.1 ∈ wsX3_allData := by decide +kernel
  have hlo := hY.lo
  have hhi := hY.hi
  refine vv_loc (L' := [(0, .ref (Y.2.1 (0)))]) rfl ?_
  refine vv_iconst (q := 1) hC (nI 1) dX3_allData_0 (by decide) rfl ?_
  refine vv_aload_n (q := 2) hC dX3_allData_1 (x := Y.2.1 (0)) rfl rfl ?_
  refine pc_gP (q := 5) hY hC 1 hi_X3 hf_data (by decide) rfl (v := .int (nI (n - 1))) rfl dX3_allData_2 rfl ?_
  refine vv_ishl (x := nI (1)) (y := nI (n - 1)) (q := 6) hC dX3_allData_5 rfl ?_
  refine vv_iconst (q := 7) hC (nI 1) dX3_allData_6 (by decide) rfl ?_
  refine vv_isub (x := (nI (1)) <<< ((nI (n - 1)) &&& 31)) (y := nI (1)) (q := 8) hC dX3_allData_7 rfl ?_
  refine vv_iret (v := ((nI (1)) <<< ((nI (n - 1)) &&& 31)) - (nI (1))) hC dX3_allData_8 ?_
  rw [hp]
  exact ⟨rfl, rfl⟩
set_option maxRecDepth 100000 in
set_option maxHeartbeats 4000000 in
theorem cm_X3_recordsKnown (l : Launch) (Y : vv_Y) (n : Nat) (hY : pc_sys Y n) (σ : vv_S) : vv_M l Y yX3_recordsKnown wsX3_recordsKnown { frames := 0, cells := 0, slots := 0, locals := 0 } [.ref (Y.2.1 (0))] σ (vv_R (.int (if σ 0 6 = 0 then σ 2 2 else nI 0)) σ) := by
  refine vv_M.of (cc := cX3_recordsKnown) (maxL := 1) (ret := (some .int)) hY.ok (by decide) rfl (Nat.le_of_ble_eq_true rfl) ?_
  intro Z hl hp hC
  subst hl
  have hi_X2 : ∀ w ∈ u_ws RX2 TX2 6, w ∈ wsX3_recordsKnown := by decide +kernel
  have hi_X3 : ∀ w ∈ u_ws RX3 TX3 10, w ∈ wsX3_recordsKnown := by decide +kernel
  have hf_down : Cond.fieldLink RX3 16 "ParityRow" (TX3 6).2.1 (TX3 6).2.2.1 ∈ wsX3_recordsKnown := by decide +kernel
  have hf_log : Cond.fieldLink RX3 54 "ParityRow" (TX3 3).2.1 (TX3 3).2.2.1 ∈ wsX3_recordsKnown := by decide +kernel
  have hlo := hY.lo
  have hhi := hY.hi
  refine vv_loc (L' := [(0, .ref (Y.2.1 (0)))]) rfl ?_
  refine vv_aload_n (q := 1) hC dX3_recordsKnown_0 (x := Y.2.1 (0)) rfl rfl ?_
  refine pc_gP (q := 4) hY hC 6 hi_X3 hf_down (by decide) rfl (v := .int (σ 0 6)) rfl dX3_recordsKnown_1 rfl ?_
  refine vv_if_eq (x := σ 0 6) (q := 7) (tgt := 11) hC dX3_recordsKnown_4 (by decide) rfl (fun c_4 => ?_) (fun c_4 => ?_)
  · refine vv_aload_n (q := 12) hC dX3_recordsKnown_11 (x := Y.2.1 (0)) rfl rfl ?_
    refine pc_gP (q := 15) hY hC 3 hi_X3 hf_log (by decide) rfl (v := .ref (Y.2.1 (2))) rfl dX3_recordsKnown_12 rfl ?_
    refine pc_gJN (q := 18) hY hC 2 hi_X2 nw_X3_107 (by decide) rfl (v := .int (σ 2 2)) rfl dX3_recordsKnown_15 rfl ?_
    refine vv_iret (v := σ 2 2) hC dX3_recordsKnown_18 ?_
    rw [hp]
    first | exact ⟨by rw [if_pos c_4], rfl⟩ | exact ⟨by rw [if_neg c_4], rfl⟩
  · refine vv_iconst (q := 8) hC (nI 0) dX3_recordsKnown_7 (by decide) rfl ?_
    refine vv_goto (tgt := 18) hC dX3_recordsKnown_8 (by decide) ?_
    refine vv_iret (v := nI (0)) hC dX3_recordsKnown_18 ?_
    rw [hp]
    first | exact ⟨by rw [if_pos c_4], rfl⟩ | exact ⟨by rw [if_neg c_4], rfl⟩
set_option maxRecDepth 100000 in
set_option maxHeartbeats 4000000 in
theorem cm_X3_memberThat (l : Launch) (Y : vv_Y) (n : Nat) (hY : pc_sys Y n) (σ : vv_S) (x : Int32) : vv_M l Y yX3_memberThat wsX3_memberThat { frames := 0, cells := 0, slots := 0, locals := 0 } [.ref (Y.2.1 (0)), .int (x)] σ (vv_R (.int (pc_mt σ x n 0)) σ) := by
  refine vv_M.of (cc := cX3_memberThat) (maxL := 3) (ret := (some .int)) hY.ok (by decide) rfl (Nat.le_of_ble_eq_true rfl) ?_
  intro Z hl hp hC
  subst hl
  have hi_X0 : ∀ w ∈ u_ws RX0 TX0 6, w ∈ wsX3_memberThat := by decide +kernel
  have hi_X3 : ∀ w ∈ u_ws RX3 TX3 10, w ∈ wsX3_memberThat := by decide +kernel
  have hf_width : Cond.fieldLink RX3 36 "ParityRow" (TX3 0).2.1 (TX3 0).2.2.1 ∈ wsX3_memberThat := by decide +kernel
  have hf_disks : Cond.fieldLink RX3 44 "ParityRow" (TX3 2).2.1 (TX3 2).2.2.1 ∈ wsX3_memberThat := by decide +kernel
  have hlo := hY.lo
  have hhi := hY.hi
  refine vv_loc (L' := [(0, .ref (Y.2.1 (0))), (1, .int (x))]) rfl ?_
  refine vv_iconst (q := 1) hC (nI 0) dX3_memberThat_0 (by decide) rfl ?_
  refine vv_istore_n (L' := [(0, .ref (Y.2.1 (0))), (1, .int (x)), (2, .int (nI (0)))]) (q := 2) hC dX3_memberThat_1 (by decide) rfl rfl rfl ?_
  have lp_2 : ∀ m : Nat, (m ≤ n) → (pc_mt σ x n 0 = pc_mt σ x (n - m) m) → vv_V Y 3 Z σ 2 [(0, .ref (Y.2.1 (0))), (1, .int (x)), (2, .int (nI (m)))] [] := by
    refine vv_ind (fun m => n - m) (fun m ih_2 => ?_)
    intro hm hv
    refine vv_iload_n (q := 3) hC dX3_memberThat_2 (x := nI (m)) rfl rfl ?_
    refine vv_aload_n (q := 4) hC dX3_memberThat_3 (x := Y.2.1 (0)) rfl rfl ?_
    refine pc_gP (q := 7) hY hC 0 hi_X3 hf_width (by decide) rfl (v := .int (nI (n))) rfl dX3_memberThat_4 rfl ?_
    refine vv_icmpN_ge (x := m) (y := n) (q := 10) (tgt := 31) hC dX3_memberThat_7 (by decide) (by omega) (by omega) rfl (fun c_7 => ?_) (fun c_7 => ?_)
    · refine vv_iconst (q := 32) hC ((-1)) dX3_memberThat_31 (by decide) rfl ?_
      refine vv_iret (v := (-1)) hC dX3_memberThat_32 ?_
      rw [hp]
      rw [hv, show n - m = 0 by omega]
      exact ⟨rfl, rfl⟩
    · refine vv_aload_n (q := 11) hC dX3_memberThat_10 (x := Y.2.1 (0)) rfl rfl ?_
      refine pc_gP (q := 14) hY hC 2 hi_X3 hf_disks (by decide) rfl (v := .ref (Y.2.1 (1))) rfl dX3_memberThat_11 rfl ?_
      refine vv_iload_n (q := 15) hC dX3_memberThat_14 (x := nI (m)) rfl rfl ?_
      refine pc_ld_disks (q := 16) (m := m) hY hC (by omega) dX3_memberThat_15 rfl ?_
      refine pc_gDN (q := 19) hY hC (by omega) 3 hi_X0 nw_X3_120 (by decide) rfl (v := .int (σ (pc_d m) 3)) rfl dX3_memberThat_16 rfl ?_
      refine vv_iload_n (q := 20) hC dX3_memberThat_19 (x := x) rfl rfl ?_
      refine vv_icmp_ne (x := σ (pc_d m) 3) (y := x) (q := 23) (tgt := 25) hC dX3_memberThat_20 (by decide) rfl (fun c_20 => ?_) (fun c_20 => ?_)
      · refine vv_iincN (x := m) (L' := [(0, .ref (Y.2.1 (0))), (1, .int (x)), (2, .int (nI (m + 1)))]) (q := 28) hC dX3_memberThat_25 rfl (by decide) rfl rfl rfl ?_
        refine vv_goto (tgt := 2) hC dX3_memberThat_28 (by decide) ?_
        exact ih_2 (m + 1) (by first | omega | (dsimp only; omega))  (by omega) (by rw [hv, show n - m = (n - (m + 1)) + 1 by omega]; exact if_neg c_20)
      · refine vv_iload_n (q := 24) hC dX3_memberThat_23 (x := nI (m)) rfl rfl ?_
        refine vv_iret (v := nI (m)) hC dX3_memberThat_24 ?_
        rw [hp]
        rw [hv, show n - m = (n - (m + 1)) + 1 by omega]
        exact ⟨by rw [show pc_mt σ x (n - (m + 1) + 1) m = nI m from if_pos c_20], rfl⟩
  exact lp_2 0 (by omega) rfl
set_option maxRecDepth 100000 in
set_option maxHeartbeats 4000000 in
theorem cm_X3_allOn (l : Launch) (Y : vv_Y) (n : Nat) (hY : pc_sys Y n) (σ : vv_S) : vv_M l Y yX3_allOn wsX3_allOn { frames := 1, cells := 0, slots := 0, locals := 22 } [.ref (Y.2.1 (0))] σ (vv_R (.int (vv_B (pc_mt σ (nI 1) n 0 = -1 ∧ pc_mt σ (nI 2) n 0 = -1))) σ) := by
  refine vv_M.of (cc := cX3_allOn) (maxL := 1) (ret := (some .boolean)) hY.ok (by decide) rfl (Nat.le_of_ble_eq_true rfl) ?_
  intro Z hl hp hC
  subst hl
  have hlo := hY.lo
  have hhi := hY.hi
  refine vv_loc (L' := [(0, .ref (Y.2.1 (0)))]) rfl ?_
  refine vv_aload_n (q := 1) hC dX3_allOn_0 (x := Y.2.1 (0)) rfl rfl ?_
  refine vv_iconst (q := 2) hC (nI 1) dX3_allOn_1 (by decide) rfl ?_
  refine vv_callV (n := 1) (k := 0) (As := [.int (nI (1))]) (st := []) (q := 5) hC (hY.k (by decide)) (hY.P _) (by rw [hY.cl]; rfl) (cm_X3_memberThat _ Y n hY σ (nI (1)) ) gX3_allOn_X3_memberThat rfl (by decide +kernel) dX3_allOn_2 rfl rfl rfl (vv_kR ?_)
  refine vv_iconst (q := 6) hC ((-1)) dX3_allOn_5 (by decide) rfl ?_
  refine vv_icmp_ne (x := pc_mt σ (nI (1)) n 0) (y := (-1)) (q := 9) (tgt := 22) hC dX3_allOn_6 (by decide) rfl (fun c_6 => ?_) (fun c_6 => ?_)
  · refine vv_iconst (q := 23) hC (nI 0) dX3_allOn_22 (by decide) rfl ?_
    refine vv_zret (v := nI (0)) hC (by first | rfl | decide) dX3_allOn_23 ?_
    rw [hp]
    exact ⟨congrArg (fun z => some (Value.int z)) (vv_B0 (by grind)).symm, rfl⟩
  · refine vv_aload_n (q := 10) hC dX3_allOn_9 (x := Y.2.1 (0)) rfl rfl ?_
    refine vv_iconst (q := 11) hC (nI 2) dX3_allOn_10 (by decide) rfl ?_
    refine vv_callV (n := 1) (k := 0) (As := [.int (nI (2))]) (st := []) (q := 14) hC (hY.k (by decide)) (hY.P _) (by rw [hY.cl]; rfl) (cm_X3_memberThat _ Y n hY σ (nI (2)) ) gX3_allOn_X3_memberThat rfl (by decide +kernel) dX3_allOn_11 rfl rfl rfl (vv_kR ?_)
    refine vv_iconst (q := 15) hC ((-1)) dX3_allOn_14 (by decide) rfl ?_
    refine vv_icmp_ne (x := pc_mt σ (nI (2)) n 0) (y := (-1)) (q := 18) (tgt := 22) hC dX3_allOn_15 (by decide) rfl (fun c_15 => ?_) (fun c_15 => ?_)
    · refine vv_iconst (q := 23) hC (nI 0) dX3_allOn_22 (by decide) rfl ?_
      refine vv_zret (v := nI (0)) hC (by first | rfl | decide) dX3_allOn_23 ?_
      rw [hp]
      exact ⟨congrArg (fun z => some (Value.int z)) (vv_B0 (by grind)).symm, rfl⟩
    · refine vv_iconst (q := 19) hC (nI 1) dX3_allOn_18 (by decide) rfl ?_
      refine vv_goto (tgt := 23) hC dX3_allOn_19 (by decide) ?_
      refine vv_zret (v := nI (1)) hC (by first | rfl | decide) dX3_allOn_23 ?_
      rw [hp]
      exact ⟨congrArg (fun z => some (Value.int z)) (vv_B1 (by grind)).symm, rfl⟩
set_option maxRecDepth 100000 in
set_option maxHeartbeats 4000000 in
theorem cm_X3_countNotThere (l : Launch) (Y : vv_Y) (n : Nat) (hY : pc_sys Y n) (σ : vv_S) (s : Nat) (hs : s < 24) : vv_M l Y yX3_countNotThere wsX3_countNotThere { frames := 2, cells := 0, slots := 0, locals := 44 } [.ref (Y.2.1 (0)), .int (nI (s))] σ (vv_R (.int (nI (pc_cnt σ s n))) σ) := by
  refine vv_M.of (cc := cX3_countNotThere) (maxL := 4) (ret := (some .int)) hY.ok (by decide) rfl (Nat.le_of_ble_eq_true rfl) ?_
  intro Z hl hp hC
  subst hl
  have hi_X3 : ∀ w ∈ u_ws RX3 TX3 10, w ∈ wsX3_countNotThere := by decide +kernel
  have hf_width : Cond.fieldLink RX3 36 "ParityRow" (TX3 0).2.1 (TX3 0).2.2.1 ∈ wsX3_countNotThere := by decide +kernel
  have hf_disks : Cond.fieldLink RX3 44 "ParityRow" (TX3 2).2.1 (TX3 2).2.2.1 ∈ wsX3_countNotThere := by decide +kernel
  have hlo := hY.lo
  have hhi := hY.hi
  refine vv_loc (L' := [(0, .ref (Y.2.1 (0))), (1, .int (nI (s)))]) rfl ?_
  refine vv_iconst (q := 1) hC (nI 0) dX3_countNotThere_0 (by decide) rfl ?_
  refine vv_istore_n (L' := [(0, .ref (Y.2.1 (0))), (1, .int (nI (s))), (2, .int (nI (0)))]) (q := 2) hC dX3_countNotThere_1 (by decide) rfl rfl rfl ?_
  refine vv_iconst (q := 3) hC (nI 0) dX3_countNotThere_2 (by decide) rfl ?_
  refine vv_istore_n (L' := [(0, .ref (Y.2.1 (0))), (1, .int (nI (s))), (2, .int (nI (0))), (3, .int (nI (0)))]) (q := 4) hC dX3_countNotThere_3 (by decide) rfl rfl rfl ?_
  have lp_4 : ∀ m : Nat, (m ≤ n) → vv_V Y 4 Z σ 4 [(0, .ref (Y.2.1 (0))), (1, .int (nI (s))), (2, .int (nI (pc_cnt σ s m))), (3, .int (nI (m)))] [] := by
    refine vv_ind (fun m => n - m) (fun m ih_4 => ?_)
    intro hm
    refine vv_iload_n (q := 5) hC dX3_countNotThere_4 (x := nI (m)) rfl rfl ?_
    refine vv_aload_n (q := 6) hC dX3_countNotThere_5 (x := Y.2.1 (0)) rfl rfl ?_
    refine pc_gP (q := 9) hY hC 0 hi_X3 hf_width (by decide) rfl (v := .int (nI (n))) rfl dX3_countNotThere_6 rfl ?_
    refine vv_icmpN_ge (x := m) (y := n) (q := 12) (tgt := 34) hC dX3_countNotThere_9 (by decide) (by omega) (by omega) rfl (fun c_9 => ?_) (fun c_9 => ?_)
    · refine vv_iload_n (q := 35) hC dX3_countNotThere_34 (x := nI (pc_cnt σ s m)) rfl rfl ?_
      refine vv_iret (v := nI (pc_cnt σ s m)) hC dX3_countNotThere_35 ?_
      rw [hp]
      have em : m = n := by omega
      subst em
      exact ⟨rfl, rfl⟩
    · refine vv_aload_n (q := 13) hC dX3_countNotThere_12 (x := Y.2.1 (0)) rfl rfl ?_
      refine pc_gP (q := 16) hY hC 2 hi_X3 hf_disks (by decide) rfl (v := .ref (Y.2.1 (1))) rfl dX3_countNotThere_13 rfl ?_
      refine vv_iload_n (q := 17) hC dX3_countNotThere_16 (x := nI (m)) rfl rfl ?_
      refine pc_ld_disks (q := 18) (m := m) hY hC (by omega) dX3_countNotThere_17 rfl ?_
      refine vv_iload_n (q := 19) hC dX3_countNotThere_18 (x := nI (s)) rfl rfl ?_
      refine vv_callVN (n := 1) (k := pc_d m) (As := [.int (nI (s))]) (st := []) (q := 22) hC (hY.kd (j := 0) (by omega) (by decide)) (hY.D _) (by rw [hY.cl]; rfl) (cm_X0_isThere _ Y n hY σ m s (by omega) (by omega)) gX3_countNotThere_X0_isThere_n160 rfl (hY.nw nw_X3_160) (by decide +kernel) (by decide +kernel) (by decide +kernel) (by decide +kernel) dX3_countNotThere_19 rfl rfl rfl (vv_kR ?_)
      refine vv_ifB_ne (b := pc_there σ m s) (q := 25) (tgt := 28) hC dX3_countNotThere_22 (by decide) rfl (fun c_22 => ?_) (fun c_22 => ?_)
      · refine vv_iincN (x := m) (L' := [(0, .ref (Y.2.1 (0))), (1, .int (nI (s))), (2, .int (nI (pc_cnt σ s m))), (3, .int (nI (m + 1)))]) (q := 31) hC dX3_countNotThere_28 rfl (by decide) rfl rfl rfl ?_
        refine vv_goto (tgt := 4) hC dX3_countNotThere_31 (by decide) ?_
        refine vv_loc (L' := [(0, .ref (Y.2.1 (0))), (1, .int (nI (s))), (2, .int (nI (pc_cnt σ s (m + 1)))), (3, .int (nI ((m + 1))))]) (by rw [show pc_cnt σ s (m + 1) = _ from by first | exact if_pos c_22 | exact if_neg c_22]) ?_
        exact ih_4 (m + 1) (by first | omega | (dsimp only; omega))  (by omega)
      · refine vv_iincN (x := pc_cnt σ s m) (L' := [(0, .ref (Y.2.1 (0))), (1, .int (nI (s))), (2, .int (nI ((pc_cnt σ s m) + 1))), (3, .int (nI (m)))]) (q := 28) hC dX3_countNotThere_25 rfl (by decide) rfl rfl rfl ?_
        refine vv_iincN (x := m) (L' := [(0, .ref (Y.2.1 (0))), (1, .int (nI (s))), (2, .int (nI ((pc_cnt σ s m) + 1))), (3, .int (nI (m + 1)))]) (q := 31) hC dX3_countNotThere_28 rfl (by decide) rfl rfl rfl ?_
        refine vv_goto (tgt := 4) hC dX3_countNotThere_31 (by decide) ?_
        refine vv_loc (L' := [(0, .ref (Y.2.1 (0))), (1, .int (nI (s))), (2, .int (nI (pc_cnt σ s (m + 1)))), (3, .int (nI ((m + 1))))]) (by rw [show pc_cnt σ s (m + 1) = _ from by first | exact if_pos c_22 | exact if_neg c_22]) ?_
        exact ih_4 (m + 1) (by first | omega | (dsimp only; omega))  (by omega)
  exact lp_4 0 (by omega)
set_option maxRecDepth 100000 in
set_option maxHeartbeats 4000000 in
theorem cm_X3_othersThere (l : Launch) (Y : vv_Y) (n : Nat) (hY : pc_sys Y n) (σ : vv_S) (m : Nat) (s : Nat) (hm : m < n) (hs : s < 24) : vv_M l Y yX3_othersThere wsX3_othersThere { frames := 3, cells := 0, slots := 0, locals := 67 } [.ref (Y.2.1 (0)), .int (nI (m)), .int (nI (s))] σ (vv_R (.int (vv_B (pc_oth σ n m s))) σ) := by
  refine vv_M.of (cc := cX3_othersThere) (maxL := 3) (ret := (some .boolean)) hY.ok (by decide) rfl (Nat.le_of_ble_eq_true rfl) ?_
  intro Z hl hp hC
  subst hl
  have hi_X3 : ∀ w ∈ u_ws RX3 TX3 10, w ∈ wsX3_othersThere := by decide +kernel
  have hf_disks : Cond.fieldLink RX3 44 "ParityRow" (TX3 2).2.1 (TX3 2).2.2.1 ∈ wsX3_othersThere := by decide +kernel
  have hlo := hY.lo
  have hhi := hY.hi
  have hcn : pc_cnt σ s n ≤ n := pc_cnt_le
  refine vv_loc (L' := [(0, .ref (Y.2.1 (0))), (1, .int (nI (m))), (2, .int (nI (s)))]) rfl ?_
  refine vv_aload_n (q := 1) hC dX3_othersThere_0 (x := Y.2.1 (0)) rfl rfl ?_
  refine vv_iload_n (q := 2) hC dX3_othersThere_1 (x := nI (s)) rfl rfl ?_
  refine vv_callV (n := 1) (k := 0) (As := [.int (nI (s))]) (st := []) (q := 5) hC (hY.k (by decide)) (hY.P _) (by rw [hY.cl]; rfl) (cm_X3_countNotThere _ Y n hY σ s (by omega)) gX3_othersThere_X3_countNotThere rfl (by decide +kernel) dX3_othersThere_2 rfl rfl rfl (vv_kR ?_)
  refine vv_aload_n (q := 6) hC dX3_othersThere_5 (x := Y.2.1 (0)) rfl rfl ?_
  refine pc_gP (q := 9) hY hC 2 hi_X3 hf_disks (by decide) rfl (v := .ref (Y.2.1 (1))) rfl dX3_othersThere_6 rfl ?_
  refine vv_iload_n (q := 10) hC dX3_othersThere_9 (x := nI (m)) rfl rfl ?_
  refine pc_ld_disks (q := 11) (m := m) hY hC (by omega) dX3_othersThere_10 rfl ?_
  refine vv_iload_n (q := 12) hC dX3_othersThere_11 (x := nI (s)) rfl rfl ?_
  refine vv_callVN (n := 1) (k := pc_d m) (As := [.int (nI (s))]) (st := [.int (nI (pc_cnt σ s n))]) (q := 15) hC (hY.kd (j := 0) (by omega) (by decide)) (hY.D _) (by rw [hY.cl]; rfl) (cm_X0_isThere _ Y n hY σ m s (by omega) (by omega)) gX3_othersThere_X0_isThere_n160 rfl (hY.nw nw_X3_160) (by decide +kernel) (by decide +kernel) (by decide +kernel) (by decide +kernel) dX3_othersThere_12 rfl rfl rfl (vv_kR ?_)
  refine vv_ifB_eq (b := pc_there σ m s) (q := 18) (tgt := 22) hC dX3_othersThere_15 (by decide) rfl (fun c_15 => ?_) (fun c_15 => ?_)
  · refine vv_iconst (q := 23) hC (nI 1) dX3_othersThere_22 (by decide) rfl ?_
    refine vv_icmpN_ne (x := pc_cnt σ s n) (y := 1) (q := 26) (tgt := 30) hC dX3_othersThere_23 (by decide) (by omega) (by omega) rfl (fun c_23 => ?_) (fun c_23 => ?_)
    · refine vv_iconst (q := 31) hC (nI 0) dX3_othersThere_30 (by decide) rfl ?_
      refine vv_zret (v := nI (0)) hC (by first | rfl | decide) dX3_othersThere_31 ?_
      rw [hp]
      first
        | exact ⟨congrArg (fun z => some (Value.int z)) (vv_B1 (by unfold pc_oth; first | (rw [if_pos c_15]; exact c_23) | (rw [if_neg c_15]; exact c_23))).symm, rfl⟩
        | exact ⟨congrArg (fun z => some (Value.int z)) (vv_B0 (by unfold pc_oth; first | (rw [if_pos c_15]; exact c_23) | (rw [if_neg c_15]; exact c_23))).symm, rfl⟩
    · refine vv_iconst (q := 27) hC (nI 1) dX3_othersThere_26 (by decide) rfl ?_
      refine vv_goto (tgt := 31) hC dX3_othersThere_27 (by decide) ?_
      refine vv_zret (v := nI (1)) hC (by first | rfl | decide) dX3_othersThere_31 ?_
      rw [hp]
      first
        | exact ⟨congrArg (fun z => some (Value.int z)) (vv_B1 (by unfold pc_oth; first | (rw [if_pos c_15]; exact c_23) | (rw [if_neg c_15]; exact c_23))).symm, rfl⟩
        | exact ⟨congrArg (fun z => some (Value.int z)) (vv_B0 (by unfold pc_oth; first | (rw [if_pos c_15]; exact c_23) | (rw [if_neg c_15]; exact c_23))).symm, rfl⟩
  · refine vv_iconst (q := 19) hC (nI 0) dX3_othersThere_18 (by decide) rfl ?_
    refine vv_goto (tgt := 23) hC dX3_othersThere_19 (by decide) ?_
    refine vv_icmpN_ne (x := pc_cnt σ s n) (y := 0) (q := 26) (tgt := 30) hC dX3_othersThere_23 (by decide) (by omega) (by omega) rfl (fun c_23 => ?_) (fun c_23 => ?_)
    · refine vv_iconst (q := 31) hC (nI 0) dX3_othersThere_30 (by decide) rfl ?_
      refine vv_zret (v := nI (0)) hC (by first | rfl | decide) dX3_othersThere_31 ?_
      rw [hp]
      first
        | exact ⟨congrArg (fun z => some (Value.int z)) (vv_B1 (by unfold pc_oth; first | (rw [if_pos c_15]; exact c_23) | (rw [if_neg c_15]; exact c_23))).symm, rfl⟩
        | exact ⟨congrArg (fun z => some (Value.int z)) (vv_B0 (by unfold pc_oth; first | (rw [if_pos c_15]; exact c_23) | (rw [if_neg c_15]; exact c_23))).symm, rfl⟩
    · refine vv_iconst (q := 27) hC (nI 1) dX3_othersThere_26 (by decide) rfl ?_
      refine vv_goto (tgt := 31) hC dX3_othersThere_27 (by decide) ?_
      refine vv_zret (v := nI (1)) hC (by first | rfl | decide) dX3_othersThere_31 ?_
      rw [hp]
      first
        | exact ⟨congrArg (fun z => some (Value.int z)) (vv_B1 (by unfold pc_oth; first | (rw [if_pos c_15]; exact c_23) | (rw [if_neg c_15]; exact c_23))).symm, rfl⟩
        | exact ⟨congrArg (fun z => some (Value.int z)) (vv_B0 (by unfold pc_oth; first | (rw [if_pos c_15]; exact c_23) | (rw [if_neg c_15]; exact c_23))).symm, rfl⟩
set_option maxRecDepth 100000 in
set_option maxHeartbeats 4000000 in
theorem cm_X3_sourceOf (l : Launch) (Y : vv_Y) (n : Nat) (hY : pc_sys Y n) (σ : vv_S) (o : Nat) (r : Nat) (s : Nat) (p : Nat) (ho : σ 2 1 = nI o) (ho11 : o < 11) (hr : σ 2 2 = nI r) (hr10 : r ≤ 10) (hs : s < 24) (hp9 : p < n) : vv_M l Y yX3_sourceOf wsX3_sourceOf { frames := 4, cells := 0, slots := 0, locals := 89 } [.ref (Y.2.1 (0)), .int (nI (s)), .int (nI (p))] σ (vv_R (.int (nI (pc_src σ n o r s p))) σ) := by
  refine vv_M.of (cc := cX3_sourceOf) (maxL := 4) (ret := (some .int)) hY.ok (by decide) rfl (Nat.le_of_ble_eq_true rfl) ?_
  intro Z hl hp hC
  subst hl
  have hi_X3 : ∀ w ∈ u_ws RX3 TX3 10, w ∈ wsX3_sourceOf := by decide +kernel
  have hf_log : Cond.fieldLink RX3 54 "ParityRow" (TX3 3).2.1 (TX3 3).2.2.1 ∈ wsX3_sourceOf := by decide +kernel
  have hf_disks : Cond.fieldLink RX3 44 "ParityRow" (TX3 2).2.1 (TX3 2).2.2.1 ∈ wsX3_sourceOf := by decide +kernel
  have hlo := hY.lo
  have hhi := hY.hi
  refine vv_loc (L' := [(0, .ref (Y.2.1 (0))), (1, .int (nI (s))), (2, .int (nI (p)))]) rfl ?_
  refine vv_aload_n (q := 1) hC dX3_sourceOf_0 (x := Y.2.1 (0)) rfl rfl ?_
  refine pc_gP (q := 4) hY hC 3 hi_X3 hf_log (by decide) rfl (v := .ref (Y.2.1 (2))) rfl dX3_sourceOf_1 rfl ?_
  refine vv_iload_n (q := 5) hC dX3_sourceOf_4 (x := nI (s)) rfl rfl ?_
  refine vv_iload_n (q := 6) hC dX3_sourceOf_5 (x := nI (p)) rfl rfl ?_
  refine vv_callVN (n := 2) (k := 2) (As := [.int (nI (s)), .int (nI (p))]) (st := []) (q := 9) hC (hY.k (by decide)) (hY.J _) (by rw [hY.cl]; rfl) (cm_X2_latestWith _ Y n hY σ o r s p ho ho11 hr hr10) gX3_sourceOf_X2_latestWith_n209 rfl (hY.nw nw_X3_209) (by decide +kernel) (by decide +kernel) (by decide +kernel) (by decide +kernel) dX3_sourceOf_6 rfl rfl rfl (vv_kR ?_)
  rcases hlat_6 : pc_lat σ o s p r with _ | e
  · refine vv_stk (st' := [.null]) rfl ?_
    refine vv_ifnullN (tgt := 14) hC dX3_sourceOf_9 (by decide) ?_
    refine vv_aload_n (q := 15) hC dX3_sourceOf_14 (x := Y.2.1 (0)) rfl rfl ?_
    refine vv_iload_n (q := 16) hC dX3_sourceOf_15 (x := nI (s)) rfl rfl ?_
    refine vv_iload_n (q := 17) hC dX3_sourceOf_16 (x := nI (p)) rfl rfl ?_
    refine vv_callV (n := 2) (k := 0) (As := [.int (nI (s)), .int (nI (p))]) (st := []) (q := 20) hC (hY.k (by decide)) (hY.P _) (by rw [hY.cl]; rfl) (cm_X3_memberOf _ Y n hY σ s p (by omega) (by omega)) gX3_sourceOf_X3_memberOf rfl (by decide +kernel) dX3_sourceOf_17 rfl rfl rfl (vv_kR ?_)
    refine vv_istore_n (L' := [(0, .ref (Y.2.1 (0))), (1, .int (nI (s))), (2, .int (nI (p))), (3, .int (nI (pc_mo n s p)))]) (q := 21) hC dX3_sourceOf_20 (by decide) rfl rfl rfl ?_
    refine vv_aload_n (q := 22) hC dX3_sourceOf_21 (x := Y.2.1 (0)) rfl rfl ?_
    refine pc_gP (q := 25) hY hC 2 hi_X3 hf_disks (by decide) rfl (v := .ref (Y.2.1 (1))) rfl dX3_sourceOf_22 rfl ?_
    refine vv_iload_n (q := 26) hC dX3_sourceOf_25 (x := nI (pc_mo n s p)) rfl rfl ?_
    refine pc_ld_disks (q := 27) (m := pc_mo n s p) hY hC (pc_mo_lt hlo) dX3_sourceOf_26 rfl ?_
    refine vv_iload_n (q := 28) hC dX3_sourceOf_27 (x := nI (s)) rfl rfl ?_
    refine vv_callVN (n := 1) (k := pc_d (pc_mo n s p)) (As := [.int (nI (s))]) (st := []) (q := 31) hC (hY.kd (j := 0) (pc_mo_lt hlo) (by decide)) (hY.D _) (by rw [hY.cl]; rfl) (cm_X0_isThere _ Y n hY σ (pc_mo n s p) s (pc_mo_lt hlo) (by omega)) gX3_sourceOf_X0_isThere_n160 rfl (hY.nw nw_X3_160) (by decide +kernel) (by decide +kernel) (by decide +kernel) (by decide +kernel) dX3_sourceOf_28 rfl rfl rfl (vv_kR ?_)
    refine vv_ifB_eq (b := pc_there σ (pc_mo n s p) s) (q := 34) (tgt := 36) hC dX3_sourceOf_31 (by decide) rfl (fun c_31 => ?_) (fun c_31 => ?_)
    · refine vv_aload_n (q := 37) hC dX3_sourceOf_36 (x := Y.2.1 (0)) rfl rfl ?_
      refine vv_iload_n (q := 38) hC dX3_sourceOf_37 (x := nI (pc_mo n s p)) rfl rfl ?_
      refine vv_iload_n (q := 39) hC dX3_sourceOf_38 (x := nI (s)) rfl rfl ?_
      refine vv_callV (n := 2) (k := 0) (As := [.int (nI (pc_mo n s p)), .int (nI (s))]) (st := []) (q := 42) hC (hY.k (by decide)) (hY.P _) (by rw [hY.cl]; rfl) (cm_X3_othersThere _ Y n hY σ (pc_mo n s p) s (pc_mo_lt hlo) (by omega)) gX3_sourceOf_X3_othersThere rfl (by decide +kernel) dX3_sourceOf_39 rfl rfl rfl (vv_kR ?_)
      refine vv_ifB_eq (b := pc_oth σ n (pc_mo n s p) s) (q := 45) (tgt := 49) hC dX3_sourceOf_42 (by decide) rfl (fun c_42 => ?_) (fun c_42 => ?_)
      · refine vv_iconst (q := 50) hC (nI 3) dX3_sourceOf_49 (by decide) rfl ?_
        refine vv_iret (v := nI (3)) hC dX3_sourceOf_50 ?_
        rw [hp]
        unfold pc_src
        first
          | (rw [if_neg (by rw [hlat_6]; exact fun h => by cases h)]; exact ⟨rfl, rfl⟩)
          | (rw [if_pos hlat_6, if_pos c_31]; exact ⟨rfl, rfl⟩)
          | (rw [if_pos hlat_6, if_neg c_31, if_pos c_42]; exact ⟨rfl, rfl⟩)
          | (rw [if_pos hlat_6, if_neg c_31, if_neg c_42]; exact ⟨rfl, rfl⟩)
      · refine vv_iconst (q := 46) hC (nI 2) dX3_sourceOf_45 (by decide) rfl ?_
        refine vv_goto (tgt := 50) hC dX3_sourceOf_46 (by decide) ?_
        refine vv_iret (v := nI (2)) hC dX3_sourceOf_50 ?_
        rw [hp]
        unfold pc_src
        first
          | (rw [if_neg (by rw [hlat_6]; exact fun h => by cases h)]; exact ⟨rfl, rfl⟩)
          | (rw [if_pos hlat_6, if_pos c_31]; exact ⟨rfl, rfl⟩)
          | (rw [if_pos hlat_6, if_neg c_31, if_pos c_42]; exact ⟨rfl, rfl⟩)
          | (rw [if_pos hlat_6, if_neg c_31, if_neg c_42]; exact ⟨rfl, rfl⟩)
    · refine vv_iconst (q := 35) hC (nI 0) dX3_sourceOf_34 (by decide) rfl ?_
      refine vv_iret (v := nI (0)) hC dX3_sourceOf_35 ?_
      rw [hp]
      unfold pc_src
      first
        | (rw [if_neg (by rw [hlat_6]; exact fun h => by cases h)]; exact ⟨rfl, rfl⟩)
        | (rw [if_pos hlat_6, if_pos c_31]; exact ⟨rfl, rfl⟩)
        | (rw [if_pos hlat_6, if_neg c_31, if_pos c_42]; exact ⟨rfl, rfl⟩)
        | (rw [if_pos hlat_6, if_neg c_31, if_neg c_42]; exact ⟨rfl, rfl⟩)
  · have he_e : e < 11 := pc_lat_lt hlat_6
    refine vv_stk (st' := [.ref (Y.2.1 (pc_e e))]) rfl ?_
    refine vv_ifnull (q := 12) hC dX3_sourceOf_9 rfl ?_
    refine vv_iconst (q := 13) hC (nI 1) dX3_sourceOf_12 (by decide) rfl ?_
    refine vv_iret (v := nI (1)) hC dX3_sourceOf_13 ?_
    rw [hp]
    unfold pc_src
    first
      | (rw [if_neg (by rw [hlat_6]; exact fun h => by cases h)]; exact ⟨rfl, rfl⟩)
      | (rw [if_pos hlat_6, if_pos c_31]; exact ⟨rfl, rfl⟩)
      | (rw [if_pos hlat_6, if_neg c_31, if_pos c_42]; exact ⟨rfl, rfl⟩)
      | (rw [if_pos hlat_6, if_neg c_31, if_neg c_42]; exact ⟨rfl, rfl⟩)
set_option maxRecDepth 100000 in
set_option maxHeartbeats 4000000 in
theorem cm_X3_isNewestNone (l : Launch) (Y : vv_Y) (n : Nat) (hY : pc_sys Y n) (σ : vv_S) (o : Nat) (r : Nat) (s : Nat) (p : Nat) (ho : σ 2 1 = nI o) (ho11 : o < 11) (hr : σ 2 2 = nI r) (hr10 : r ≤ 10) (hs : s < 24) (hp9 : p < n) : vv_M l Y yX3_isNewestNone wsX3_isNewestNone { frames := 2, cells := 0, slots := 0, locals := 45 } [.ref (Y.2.1 (0)), .int (nI (s)), .int (nI (p))] σ (vv_R (.int (vv_B (pc_nn σ n o r s p))) σ) := by
  refine vv_M.of (cc := cX3_isNewestNone) (maxL := 3) (ret := (some .boolean)) hY.ok (by decide) rfl (Nat.le_of_ble_eq_true rfl) ?_
  intro Z hl hp hC
  subst hl
  have hi_X3 : ∀ w ∈ u_ws RX3 TX3 10, w ∈ wsX3_isNewestNone := by decide +kernel
  have hf_log : Cond.fieldLink RX3 54 "ParityRow" (TX3 3).2.1 (TX3 3).2.2.1 ∈ wsX3_isNewestNone := by decide +kernel
  have hf_disks : Cond.fieldLink RX3 44 "ParityRow" (TX3 2).2.1 (TX3 2).2.2.1 ∈ wsX3_isNewestNone := by decide +kernel
  have hlo := hY.lo
  have hhi := hY.hi
  refine vv_loc (L' := [(0, .ref (Y.2.1 (0))), (1, .int (nI (s))), (2, .int (nI (p)))]) rfl ?_
  refine vv_aload_n (q := 1) hC dX3_isNewestNone_0 (x := Y.2.1 (0)) rfl rfl ?_
  refine pc_gP (q := 4) hY hC 3 hi_X3 hf_log (by decide) rfl (v := .ref (Y.2.1 (2))) rfl dX3_isNewestNone_1 rfl ?_
  refine vv_iload_n (q := 5) hC dX3_isNewestNone_4 (x := nI (s)) rfl rfl ?_
  refine vv_iload_n (q := 6) hC dX3_isNewestNone_5 (x := nI (p)) rfl rfl ?_
  refine vv_callVN (n := 2) (k := 2) (As := [.int (nI (s)), .int (nI (p))]) (st := []) (q := 9) hC (hY.k (by decide)) (hY.J _) (by rw [hY.cl]; rfl) (cm_X2_latestWith _ Y n hY σ o r s p ho ho11 hr hr10) gX3_isNewestNone_X2_latestWith_n209 rfl (hY.nw nw_X3_209) (by decide +kernel) (by decide +kernel) (by decide +kernel) (by decide +kernel) dX3_isNewestNone_6 rfl rfl rfl (vv_kR ?_)
  rcases hlat_6 : pc_lat σ o s p r with _ | e
  · refine vv_stk (st' := [.null]) rfl ?_
    refine vv_ifnonnullN (q := 12) hC dX3_isNewestNone_9 rfl ?_
    refine vv_aload_n (q := 13) hC dX3_isNewestNone_12 (x := Y.2.1 (0)) rfl rfl ?_
    refine pc_gP (q := 16) hY hC 2 hi_X3 hf_disks (by decide) rfl (v := .ref (Y.2.1 (1))) rfl dX3_isNewestNone_13 rfl ?_
    refine vv_aload_n (q := 17) hC dX3_isNewestNone_16 (x := Y.2.1 (0)) rfl rfl ?_
    refine vv_iload_n (q := 18) hC dX3_isNewestNone_17 (x := nI (s)) rfl rfl ?_
    refine vv_iload_n (q := 19) hC dX3_isNewestNone_18 (x := nI (p)) rfl rfl ?_
    refine vv_callV (n := 2) (k := 0) (As := [.int (nI (s)), .int (nI (p))]) (st := [.ref (Y.2.1 (1))]) (q := 22) hC (hY.k (by decide)) (hY.P _) (by rw [hY.cl]; rfl) (cm_X3_memberOf _ Y n hY σ s p (by omega) (by omega)) gX3_isNewestNone_X3_memberOf rfl (by decide +kernel) dX3_isNewestNone_19 rfl rfl rfl (vv_kR ?_)
    refine pc_ld_disks (q := 23) (m := pc_mo n s p) hY hC (pc_mo_lt hlo) dX3_isNewestNone_22 rfl ?_
    refine vv_iload_n (q := 24) hC dX3_isNewestNone_23 (x := nI (s)) rfl rfl ?_
    refine vv_callVN (n := 1) (k := pc_d (pc_mo n s p)) (As := [.int (nI (s))]) (st := []) (q := 27) hC (hY.kd (j := 0) (pc_mo_lt hlo) (by decide)) (hY.D _) (by rw [hY.cl]; rfl) (cm_X0_isThere _ Y n hY σ (pc_mo n s p) s (pc_mo_lt hlo) (by omega)) gX3_isNewestNone_X0_isThere_n160 rfl (hY.nw nw_X3_160) (by decide +kernel) (by decide +kernel) (by decide +kernel) (by decide +kernel) dX3_isNewestNone_24 rfl rfl rfl (vv_kR ?_)
    refine vv_ifB_ne (b := pc_there σ (pc_mo n s p) s) (q := 30) (tgt := 34) hC dX3_isNewestNone_27 (by decide) rfl (fun c_27 => ?_) (fun c_27 => ?_)
    · refine vv_iconst (q := 35) hC (nI 0) dX3_isNewestNone_34 (by decide) rfl ?_
      refine vv_zret (v := nI (0)) hC (by first | rfl | decide) dX3_isNewestNone_35 ?_
      rw [hp]
      exact ⟨congrArg (fun z => some (Value.int z)) (vv_B0 (fun h => h.2 c_27)).symm, rfl⟩
    · refine vv_iconst (q := 31) hC (nI 1) dX3_isNewestNone_30 (by decide) rfl ?_
      refine vv_goto (tgt := 35) hC dX3_isNewestNone_31 (by decide) ?_
      refine vv_zret (v := nI (1)) hC (by first | rfl | decide) dX3_isNewestNone_35 ?_
      rw [hp]
      exact ⟨congrArg (fun z => some (Value.int z)) (vv_B1 ⟨hlat_6, c_27⟩).symm, rfl⟩
  · have he_e : e < 11 := pc_lat_lt hlat_6
    refine vv_stk (st' := [.ref (Y.2.1 (pc_e e))]) rfl ?_
    refine vv_ifnonnull (tgt := 34) hC dX3_isNewestNone_9 (by decide) ?_
    refine vv_iconst (q := 35) hC (nI 0) dX3_isNewestNone_34 (by decide) rfl ?_
    refine vv_zret (v := nI (0)) hC (by first | rfl | decide) dX3_isNewestNone_35 ?_
    rw [hp]
    exact ⟨congrArg (fun z => some (Value.int z)) (vv_B0 (fun h => by cases hlat_6.symm.trans h.1)).symm, rfl⟩
set_option maxRecDepth 100000 in
set_option maxHeartbeats 4000000 in
theorem cm_X3_haveNewest (l : Launch) (Y : vv_Y) (n : Nat) (hY : pc_sys Y n) (σ : vv_S) (o : Nat) (r : Nat) (s : Nat) (x : Int32) (ho : σ 2 1 = nI o) (ho11 : o < 11) (hr : σ 2 2 = nI r) (hr10 : r ≤ 10) (hs : s < 24) : vv_M l Y yX3_haveNewest wsX3_haveNewest { frames := 3, cells := 0, slots := 0, locals := 67 } [.ref (Y.2.1 (0)), .int (nI (s)), .int (x)] σ (vv_R (.int (vv_B (∀ p, p < n → pc_bit x p → ¬ pc_nn σ n o r s p))) σ) := by
  refine vv_M.of (cc := cX3_haveNewest) (maxL := 5) (ret := (some .boolean)) hY.ok (by decide) rfl (Nat.le_of_ble_eq_true rfl) ?_
  intro Z hl hp hC
  subst hl
  have hi_X3 : ∀ w ∈ u_ws RX3 TX3 10, w ∈ wsX3_haveNewest := by decide +kernel
  have hf_width : Cond.fieldLink RX3 36 "ParityRow" (TX3 0).2.1 (TX3 0).2.2.1 ∈ wsX3_haveNewest := by decide +kernel
  have hlo := hY.lo
  have hhi := hY.hi
  refine vv_loc (L' := [(0, .ref (Y.2.1 (0))), (1, .int (nI (s))), (2, .int (x))]) rfl ?_
  refine vv_iconst (q := 1) hC (nI 0) dX3_haveNewest_0 (by decide) rfl ?_
  refine vv_istore_n (L' := [(0, .ref (Y.2.1 (0))), (1, .int (nI (s))), (2, .int (x)), (3, .int (nI (0)))]) (q := 2) hC dX3_haveNewest_1 (by decide) rfl rfl rfl ?_
  have lp_2 : ∀ p : Nat, (p ≤ n) → (∀ i, i < p → pc_bit x i → ¬ pc_nn σ n o r s i) → vv_V Y 5 Z σ 2 [(0, .ref (Y.2.1 (0))), (1, .int (nI (s))), (2, .int (x)), (3, .int (nI (p)))] [] := by
    refine vv_ind (fun p => n - p) (fun p ih_2 => ?_)
    intro hpn hall
    refine vv_iload_n (q := 3) hC dX3_haveNewest_2 (x := nI (p)) rfl rfl ?_
    refine vv_aload_n (q := 4) hC dX3_haveNewest_3 (x := Y.2.1 (0)) rfl rfl ?_
    refine pc_gP (q := 7) hY hC 0 hi_X3 hf_width (by decide) rfl (v := .int (nI (n))) rfl dX3_haveNewest_4 rfl ?_
    refine vv_icmpN_ge (x := p) (y := n) (q := 10) (tgt := 48) hC dX3_haveNewest_7 (by decide) (by omega) (by omega) rfl (fun c_7 => ?_) (fun c_7 => ?_)
    · refine vv_iconst (q := 49) hC (nI 1) dX3_haveNewest_48 (by decide) rfl ?_
      refine vv_zret (v := nI (1)) hC (by first | rfl | decide) dX3_haveNewest_49 ?_
      rw [hp]
      exact ⟨congrArg (fun z => some (Value.int z)) (vv_B1 (fun i hi => hall i (by omega))).symm, rfl⟩
    · refine vv_iload_n (q := 11) hC dX3_haveNewest_10 (x := x) rfl rfl ?_
      refine vv_iload_n (q := 12) hC dX3_haveNewest_11 (x := nI (p)) rfl rfl ?_
      refine vv_ishr (x := x) (y := nI (p)) (q := 13) hC dX3_haveNewest_12 rfl ?_
      refine vv_iconst (q := 14) hC (nI 1) dX3_haveNewest_13 (by decide) rfl ?_
      refine vv_iand (x := x >>> ((nI (p)) &&& 31)) (y := nI (1)) (q := 15) hC dX3_haveNewest_14 rfl ?_
      refine vv_iconst (q := 16) hC (nI 1) dX3_haveNewest_15 (by decide) rfl ?_
      refine vv_icmp_ne (x := (x >>> ((nI (p)) &&& 31)) &&& (nI (1))) (y := nI (1)) (q := 19) (tgt := 23) hC dX3_haveNewest_16 (by decide) rfl (fun c_16 => ?_) (fun c_16 => ?_)
      · refine vv_iconst (q := 24) hC (nI 0) dX3_haveNewest_23 (by decide) rfl ?_
        refine vv_istore (L' := [(0, .ref (Y.2.1 (0))), (1, .int (nI (s))), (2, .int (x)), (3, .int (nI (p))), (4, .int (nI (0)))]) (q := 26) hC dX3_haveNewest_24 (by decide) rfl rfl rfl ?_
        refine vv_iload (q := 28) hC dX3_haveNewest_26 (x := nI (0)) rfl rfl ?_
        refine vv_if_eq (x := nI (0)) (q := 31) (tgt := 42) hC dX3_haveNewest_28 (by decide) rfl (fun c_28 => ?_) (fun c_28 => absurd c_28 (by decide))
        refine vv_iincN (x := p) (L' := [(0, .ref (Y.2.1 (0))), (1, .int (nI (s))), (2, .int (x)), (3, .int (nI (p + 1))), (4, .int (nI (0)))]) (q := 45) hC dX3_haveNewest_42 rfl (by decide) rfl rfl rfl ?_
        refine vv_goto (tgt := 2) hC dX3_haveNewest_45 (by decide) ?_
        refine vv_sub (L' := [(0, .ref (Y.2.1 (0))), (1, .int (nI (s))), (2, .int (x)), (3, .int (nI (p + 1)))]) (by simp) ?_
        exact ih_2 (p + 1) (by first | omega | (dsimp only; omega))  (by omega) (lt_s hall (fun hb => by first | exact absurd hb c_16 | exact c_37))
      · refine vv_iconst (q := 20) hC (nI 1) dX3_haveNewest_19 (by decide) rfl ?_
        refine vv_goto (tgt := 24) hC dX3_haveNewest_20 (by decide) ?_
        refine vv_istore (L' := [(0, .ref (Y.2.1 (0))), (1, .int (nI (s))), (2, .int (x)), (3, .int (nI (p))), (4, .int (nI (1)))]) (q := 26) hC dX3_haveNewest_24 (by decide) rfl rfl rfl ?_
        refine vv_iload (q := 28) hC dX3_haveNewest_26 (x := nI (1)) rfl rfl ?_
        refine vv_if_eq (x := nI (1)) (q := 31) (tgt := 42) hC dX3_haveNewest_28 (by decide) rfl (fun c_28 => absurd c_28 (by decide)) (fun c_28 => ?_)
        refine vv_aload_n (q := 32) hC dX3_haveNewest_31 (x := Y.2.1 (0)) rfl rfl ?_
        refine vv_iload_n (q := 33) hC dX3_haveNewest_32 (x := nI (s)) rfl rfl ?_
        refine vv_iload_n (q := 34) hC dX3_haveNewest_33 (x := nI (p)) rfl rfl ?_
        refine vv_callV (n := 2) (k := 0) (As := [.int (nI (s)), .int (nI (p))]) (st := []) (q := 37) hC (hY.k (by decide)) (hY.P _) (by rw [hY.cl]; rfl) (cm_X3_isNewestNone _ Y n hY σ o r s p ho ho11 hr hr10 (by omega) (by omega)) gX3_haveNewest_X3_isNewestNone rfl (by decide +kernel) dX3_haveNewest_34 rfl rfl rfl (vv_kR ?_)
        refine vv_ifB_eq (b := pc_nn σ n o r s p) (q := 40) (tgt := 42) hC dX3_haveNewest_37 (by decide) rfl (fun c_37 => ?_) (fun c_37 => ?_)
        · refine vv_iincN (x := p) (L' := [(0, .ref (Y.2.1 (0))), (1, .int (nI (s))), (2, .int (x)), (3, .int (nI (p + 1))), (4, .int (nI (1)))]) (q := 45) hC dX3_haveNewest_42 rfl (by decide) rfl rfl rfl ?_
          refine vv_goto (tgt := 2) hC dX3_haveNewest_45 (by decide) ?_
          refine vv_sub (L' := [(0, .ref (Y.2.1 (0))), (1, .int (nI (s))), (2, .int (x)), (3, .int (nI (p + 1)))]) (by simp) ?_
          exact ih_2 (p + 1) (by first | omega | (dsimp only; omega))  (by omega) (lt_s hall (fun hb => by first | exact absurd hb c_16 | exact c_37))
        · refine vv_iconst (q := 41) hC (nI 0) dX3_haveNewest_40 (by decide) rfl ?_
          refine vv_zret (v := nI (0)) hC (by first | rfl | decide) dX3_haveNewest_41 ?_
          rw [hp]
          exact ⟨congrArg (fun z => some (Value.int z)) (vv_B0 (fun h => h p (by omega) c_16 c_37)).symm, rfl⟩
  exact lp_2 0 (by omega) (fun i hi => absurd hi (Nat.not_lt_zero i))
set_option maxRecDepth 100000 in
set_option maxHeartbeats 4000000 in
theorem cm_X3_clearMixed (l : Launch) (Y : vv_Y) (n : Nat) (hY : pc_sys Y n) (σ : vv_S) : vv_M l Y yX3_clearMixed wsX3_clearMixed { frames := 0, cells := 0, slots := 0, locals := 0 } [.ref (Y.2.1 (0))] σ (vv_Rv (pc_clr σ)) := by
  refine vv_M.of (cc := cX3_clearMixed) (maxL := 2) (ret := none) hY.ok (by decide) rfl (Nat.le_of_ble_eq_true rfl) ?_
  intro Z hl hp hC
  subst hl
  have hi_X3 : ∀ w ∈ u_ws RX3 TX3 10, w ∈ wsX3_clearMixed := by decide +kernel
  have hf_mixed : Cond.fieldLink RX3 13 "ParityRow" (TX3 5).2.1 (TX3 5).2.2.1 ∈ wsX3_clearMixed := by decide +kernel
  have hlo := hY.lo
  have hhi := hY.hi
  refine vv_loc (L' := [(0, .ref (Y.2.1 (0)))]) rfl ?_
  refine vv_iconst (q := 1) hC (nI 0) dX3_clearMixed_0 (by decide) rfl ?_
  refine vv_istore_n (L' := [(0, .ref (Y.2.1 (0))), (1, .int (nI (0)))]) (q := 2) hC dX3_clearMixed_1 (by decide) rfl rfl rfl ?_
  have lp_2 : ∀ i : Nat, (i ≤ 8) → vv_V Y 2 Z (vv_row σ 5 (fun j => if j < i then nI 0 else σ 5 j)) 2 [(0, .ref (Y.2.1 (0))), (1, .int (nI (i)))] [] := by
    refine vv_ind (fun i => 8 - i) (fun i ih_2 => ?_)
    intro hi8
    refine vv_iload_n (q := 3) hC dX3_clearMixed_2 (x := nI (i)) rfl rfl ?_
    refine vv_bipush (q := 5) hC (nI 8) dX3_clearMixed_3 (by decide) rfl ?_
    refine vv_icmpN_ge (x := i) (y := 8) (q := 8) (tgt := 21) hC dX3_clearMixed_5 (by decide) (by omega) (by omega) rfl (fun c_5 => ?_) (fun c_5 => ?_)
    · refine vv_vret hC dX3_clearMixed_21 ?_
      rw [hp]
      have e8 : i = 8 := by omega
      subst e8
      exact ⟨rfl, rfl⟩
    · refine vv_aload_n (q := 9) hC dX3_clearMixed_8 (x := Y.2.1 (0)) rfl rfl ?_
      refine pc_gP (q := 12) hY hC 5 hi_X3 hf_mixed (by decide) rfl (v := .ref (Y.2.1 (5))) rfl dX3_clearMixed_9 rfl ?_
      refine vv_iload_n (q := 13) hC dX3_clearMixed_12 (x := nI (i)) rfl rfl ?_
      refine vv_iconst (q := 14) hC (nI 0) dX3_clearMixed_13 (by decide) rfl ?_
      refine pc_st_mixed (q := 15) hY hC (i := i) (x := nI (0)) (by omega) dX3_clearMixed_14 rfl ?_
      refine vv_iincN (x := i) (L' := [(0, .ref (Y.2.1 (0))), (1, .int (nI (i + 1)))]) (q := 18) hC dX3_clearMixed_15 rfl (by decide) rfl rfl rfl ?_
      refine vv_goto (tgt := 2) hC dX3_clearMixed_18 (by decide) ?_
      refine vv_st (σ' := vv_row σ 5 (fun j => if j < (i + 1) then nI 0 else σ 5 j)) (by rw [vv_up_row]; exact congrArg (vv_row σ 5) (funext fun j => by unfold upd; grind)) ?_
      exact ih_2 (i + 1) (by first | omega | (dsimp only; omega))  (by omega)
  refine vv_st (σ' := vv_row σ 5 (fun j => if j < 0 then nI 0 else σ 5 j)) ((vv_row_of (funext fun j => by grind)).symm) ?_
  exact lp_2 0 (by omega)
set_option maxRecDepth 100000 in
set_option maxHeartbeats 4000000 in
theorem cm_X3_mix (l : Launch) (Y : vv_Y) (n : Nat) (hY : pc_sys Y n) (σ : vv_S) (k : Nat) (b : Nat) (hk : pc_rw n k) (hb : b + 8 ≤ pc_len n k) (hk5 : k ≠ 5) : vv_M l Y yX3_mix wsX3_mix { frames := 0, cells := 0, slots := 0, locals := 0 } [.ref (Y.2.1 (0)), .ref (Y.2.1 (k)), .int (nI (b))] σ (vv_Rv (vv_row σ 5 (pc_mx σ (σ 5) k b))) := by
  refine vv_M.of (cc := cX3_mix) (maxL := 4) (ret := none) hY.ok (by decide) rfl (Nat.le_of_ble_eq_true rfl) ?_
  intro Z hl hp hC
  subst hl
  have hi_X3 : ∀ w ∈ u_ws RX3 TX3 10, w ∈ wsX3_mix := by decide +kernel
  have hf_mixed : Cond.fieldLink RX3 13 "ParityRow" (TX3 5).2.1 (TX3 5).2.2.1 ∈ wsX3_mix := by decide +kernel
  have hlo := hY.lo
  have hhi := hY.hi
  have hlen := pc_len_lt (k := k) hY.hi
  refine vv_loc (L' := [(0, .ref (Y.2.1 (0))), (1, .ref (Y.2.1 (k))), (2, .int (nI (b)))]) rfl ?_
  refine vv_iconst (q := 1) hC (nI 0) dX3_mix_0 (by decide) rfl ?_
  refine vv_istore_n (L' := [(0, .ref (Y.2.1 (0))), (1, .ref (Y.2.1 (k))), (2, .int (nI (b))), (3, .int (nI (0)))]) (q := 2) hC dX3_mix_1 (by decide) rfl rfl rfl ?_
  have lp_2 : ∀ i : Nat, (i ≤ 8) → vv_V Y 4 Z (vv_row σ 5 (fun j => if j < i then σ 5 j ^^^ σ k (b + j) else σ 5 j)) 2 [(0, .ref (Y.2.1 (0))), (1, .ref (Y.2.1 (k))), (2, .int (nI (b))), (3, .int (nI (i)))] [] := by
    refine vv_ind (fun i => 8 - i) (fun i ih_2 => ?_)
    intro hi8
    refine vv_iload_n (q := 3) hC dX3_mix_2 (x := nI (i)) rfl rfl ?_
    refine vv_bipush (q := 5) hC (nI 8) dX3_mix_3 (by decide) rfl ?_
    refine vv_icmpN_ge (x := i) (y := 8) (q := 8) (tgt := 28) hC dX3_mix_5 (by decide) (by omega) (by omega) rfl (fun c_5 => ?_) (fun c_5 => ?_)
    · refine vv_vret hC dX3_mix_28 ?_
      rw [hp]
      have e8 : i = 8 := by omega
      subst e8
      exact ⟨rfl, rfl⟩
    · refine vv_aload_n (q := 9) hC dX3_mix_8 (x := Y.2.1 (0)) rfl rfl ?_
      refine pc_gP (q := 12) hY hC 5 hi_X3 hf_mixed (by decide) rfl (v := .ref (Y.2.1 (5))) rfl dX3_mix_9 rfl ?_
      refine vv_iload_n (q := 13) hC dX3_mix_12 (x := nI (i)) rfl rfl ?_
      refine vv_dup2 (q := 14) hC dX3_mix_13 rfl rfl rfl ?_
      refine pc_ld_mixed (q := 15) hY hC (i := i) (by omega) dX3_mix_14 rfl ?_
      refine vv_top (y := σ 5 i) (by rw [vv_row_s]; exact if_neg (Nat.lt_irrefl i)) ?_
      refine vv_aload_n (q := 16) hC dX3_mix_15 (x := Y.2.1 (k)) rfl rfl ?_
      refine vv_iload_n (q := 17) hC dX3_mix_16 (x := nI (b)) rfl rfl ?_
      refine vv_iload_n (q := 18) hC dX3_mix_17 (x := nI (i)) rfl rfl ?_
      refine vv_addN (x := b) (y := i) (q := 19) hC dX3_mix_18 rfl ?_
      refine pc_ld_row (q := 20) hY hC hk (i := b + i) (by omega) dX3_mix_19 rfl ?_
      refine vv_top (y := σ k (b + i)) (by rw [vv_row_n hk5]) ?_
      refine vv_ixor (x := σ 5 i) (y := σ k (b + i)) (q := 21) hC dX3_mix_20 rfl ?_
      refine pc_st_mixed (q := 22) hY hC (i := i) (x := (σ 5 i) ^^^ (σ k (b + i))) (by omega) dX3_mix_21 rfl ?_
      refine vv_iincN (x := i) (L' := [(0, .ref (Y.2.1 (0))), (1, .ref (Y.2.1 (k))), (2, .int (nI (b))), (3, .int (nI (i + 1)))]) (q := 25) hC dX3_mix_22 rfl (by decide) rfl rfl rfl ?_
      refine vv_goto (tgt := 2) hC dX3_mix_25 (by decide) ?_
      refine vv_st (σ' := vv_row σ 5 (fun j => if j < (i + 1) then σ 5 j ^^^ σ k (b + j) else σ 5 j)) (by rw [vv_up_row]; exact congrArg (vv_row σ 5) (funext fun j => by unfold upd; grind)) ?_
      exact ih_2 (i + 1) (by first | omega | (dsimp only; omega))  (by omega)
  refine vv_st (σ' := vv_row σ 5 (fun j => if j < 0 then σ 5 j ^^^ σ k (b + j) else σ 5 j)) ((vv_row_of (funext fun j => by grind)).symm) ?_
  exact lp_2 0 (by omega)
set_option maxRecDepth 100000 in
set_option maxHeartbeats 4000000 in
theorem cm_X3_mixOthers (l : Launch) (Y : vv_Y) (n : Nat) (hY : pc_sys Y n) (σ : vv_S) (x : Int32) (s : Nat) (hs : s < 24) : vv_M l Y yX3_mixOthers wsX3_mixOthers { frames := 1, cells := 0, slots := 0, locals := 23 } [.ref (Y.2.1 (0)), .int (x), .int (nI (s))] σ (vv_Rv (vv_row σ 5 (pc_mxo σ x s n))) := by
  refine vv_M.of (cc := cX3_mixOthers) (maxL := 4) (ret := none) hY.ok (by decide) rfl (Nat.le_of_ble_eq_true rfl) ?_
  intro Z hl hp hC
  subst hl
  have hi_X0 : ∀ w ∈ u_ws RX0 TX0 6, w ∈ wsX3_mixOthers := by decide +kernel
  have hi_X3 : ∀ w ∈ u_ws RX3 TX3 10, w ∈ wsX3_mixOthers := by decide +kernel
  have hf_width : Cond.fieldLink RX3 36 "ParityRow" (TX3 0).2.1 (TX3 0).2.2.1 ∈ wsX3_mixOthers := by decide +kernel
  have hf_disks : Cond.fieldLink RX3 44 "ParityRow" (TX3 2).2.1 (TX3 2).2.2.1 ∈ wsX3_mixOthers := by decide +kernel
  have hlo := hY.lo
  have hhi := hY.hi
  refine vv_loc (L' := [(0, .ref (Y.2.1 (0))), (1, .int (x)), (2, .int (nI (s)))]) rfl ?_
  refine vv_iconst (q := 1) hC (nI 0) dX3_mixOthers_0 (by decide) rfl ?_
  refine vv_istore_n (L' := [(0, .ref (Y.2.1 (0))), (1, .int (x)), (2, .int (nI (s))), (3, .int (nI (0)))]) (q := 2) hC dX3_mixOthers_1 (by decide) rfl rfl rfl ?_
  have lp_2 : ∀ m : Nat, (m ≤ n) → vv_V Y 4 Z (vv_row σ 5 (pc_mxo σ x s m)) 2 [(0, .ref (Y.2.1 (0))), (1, .int (x)), (2, .int (nI (s))), (3, .int (nI (m)))] [] := by
    refine vv_ind (fun m => n - m) (fun m ih_2 => ?_)
    intro hm
    refine vv_iload_n (q := 3) hC dX3_mixOthers_2 (x := nI (m)) rfl rfl ?_
    refine vv_aload_n (q := 4) hC dX3_mixOthers_3 (x := Y.2.1 (0)) rfl rfl ?_
    refine pc_gP (q := 7) hY hC 0 hi_X3 hf_width (by decide) rfl (v := .int (nI (n))) rfl dX3_mixOthers_4 rfl ?_
    refine vv_icmpN_ge (x := m) (y := n) (q := 10) (tgt := 38) hC dX3_mixOthers_7 (by decide) (by omega) (by omega) rfl (fun c_7 => ?_) (fun c_7 => ?_)
    · refine vv_vret hC dX3_mixOthers_38 ?_
      rw [hp]
      have em : m = n := by omega
      subst em
      exact ⟨rfl, rfl⟩
    · refine vv_iload_n (q := 11) hC dX3_mixOthers_10 (x := nI (m)) rfl rfl ?_
      refine vv_iload_n (q := 12) hC dX3_mixOthers_11 (x := x) rfl rfl ?_
      refine vv_icmp_eq (x := nI (m)) (y := x) (q := 15) (tgt := 32) hC dX3_mixOthers_12 (by decide) rfl (fun c_12 => ?_) (fun c_12 => ?_)
      · refine vv_iincN (x := m) (L' := [(0, .ref (Y.2.1 (0))), (1, .int (x)), (2, .int (nI (s))), (3, .int (nI (m + 1)))]) (q := 35) hC dX3_mixOthers_32 rfl (by decide) rfl rfl rfl ?_
        refine vv_goto (tgt := 2) hC dX3_mixOthers_35 (by decide) ?_
        refine vv_st (σ' := vv_row σ 5 (pc_mxo σ x s (m + 1))) (by first | rw [show pc_mxo σ x s (m + 1) = _ from if_pos c_12] | (rw [show pc_mxo σ x s (m + 1) = _ from if_neg c_12, vv_row_row, vv_row_s]; exact congrArg (vv_row σ 5) (funext fun j => by unfold pc_mx; rw [vv_row_n (by unfold pc_d; omega)]))) ?_
        exact ih_2 (m + 1) (by first | omega | (dsimp only; omega))  (by omega)
      · refine vv_aload_n (q := 16) hC dX3_mixOthers_15 (x := Y.2.1 (0)) rfl rfl ?_
        refine vv_aload_n (q := 17) hC dX3_mixOthers_16 (x := Y.2.1 (0)) rfl rfl ?_
        refine pc_gP (q := 20) hY hC 2 hi_X3 hf_disks (by decide) rfl (v := .ref (Y.2.1 (1))) rfl dX3_mixOthers_17 rfl ?_
        refine vv_iload_n (q := 21) hC dX3_mixOthers_20 (x := nI (m)) rfl rfl ?_
        refine pc_ld_disks (q := 22) (m := m) hY hC (by omega) dX3_mixOthers_21 rfl ?_
        refine pc_gDN (q := 25) hY hC (by omega) 0 hi_X0 nw_X3_141 (by decide) rfl (v := .ref (Y.2.1 (pc_d m + 1))) rfl dX3_mixOthers_22 rfl ?_
        refine vv_iload_n (q := 26) hC dX3_mixOthers_25 (x := nI (s)) rfl rfl ?_
        refine vv_bipush (q := 28) hC (nI 8) dX3_mixOthers_26 (by decide) rfl ?_
        refine vv_mulN (x := s) (y := 8) (q := 29) hC dX3_mixOthers_28 rfl ?_
        refine vv_callV (n := 2) (k := 0) (As := [.ref (Y.2.1 (pc_d m + 1)), .int (nI (s * 8))]) (st := []) (q := 32) hC (hY.k (by decide)) (hY.P _) (by rw [hY.cl]; rfl) (cm_X3_mix _ Y n hY (vv_row σ 5 (pc_mxo σ x s m)) (pc_d m + 1) (s * 8) (pc_rw_dw (by omega)) (by rw [pc_len_dw]; omega) (by unfold pc_d; omega)) gX3_mixOthers_X3_mix rfl (by decide +kernel) dX3_mixOthers_29 rfl rfl rfl (vv_kRv ?_)
        refine vv_iincN (x := m) (L' := [(0, .ref (Y.2.1 (0))), (1, .int (x)), (2, .int (nI (s))), (3, .int (nI (m + 1)))]) (q := 35) hC dX3_mixOthers_32 rfl (by decide) rfl rfl rfl ?_
        refine vv_goto (tgt := 2) hC dX3_mixOthers_35 (by decide) ?_
        refine vv_st (σ' := vv_row σ 5 (pc_mxo σ x s (m + 1))) (by first | rw [show pc_mxo σ x s (m + 1) = _ from if_pos c_12] | (rw [show pc_mxo σ x s (m + 1) = _ from if_neg c_12, vv_row_row, vv_row_s]; exact congrArg (vv_row σ 5) (funext fun j => by unfold pc_mx; rw [vv_row_n (by unfold pc_d; omega)]))) ?_
        exact ih_2 (m + 1) (by first | omega | (dsimp only; omega))  (by omega)
  refine vv_st (σ' := vv_row σ 5 (pc_mxo σ x s 0)) (vv_row_self.symm) ?_
  exact lp_2 0 (by omega)
set_option maxRecDepth 100000 in
set_option maxHeartbeats 4000000 in
theorem cm_X3_mixNewest (l : Launch) (Y : vv_Y) (n : Nat) (hY : pc_sys Y n) (σ : vv_S) (o : Nat) (r : Nat) (s : Nat) (p : Nat) (ho : σ 2 1 = nI o) (ho11 : o < 11) (hr : σ 2 2 = nI r) (hr10 : r ≤ 10) (hs : s < 24) (hp9 : p < n) : vv_M l Y yX3_mixNewest wsX3_mixNewest { frames := 2, cells := 0, slots := 0, locals := 45 } [.ref (Y.2.1 (0)), .int (nI (s)), .int (nI (p))] σ (vv_R (.int (vv_B (pc_lat σ o s p r = none))) (vv_row σ 5 (pc_mxn σ n o r s p))) := by
  refine vv_M.of (cc := cX3_mixNewest) (maxL := 4) (ret := (some .boolean)) hY.ok (by decide) rfl (Nat.le_of_ble_eq_true rfl) ?_
  intro Z hl hp hC
  subst hl
  have hi_X0 : ∀ w ∈ u_ws RX0 TX0 6, w ∈ wsX3_mixNewest := by decide +kernel
  have hi_X1 : ∀ w ∈ u_ws RX1 TX1 4, w ∈ wsX3_mixNewest := by decide +kernel
  have hi_X3 : ∀ w ∈ u_ws RX3 TX3 10, w ∈ wsX3_mixNewest := by decide +kernel
  have hf_log : Cond.fieldLink RX3 54 "ParityRow" (TX3 3).2.1 (TX3 3).2.2.1 ∈ wsX3_mixNewest := by decide +kernel
  have hf_disks : Cond.fieldLink RX3 44 "ParityRow" (TX3 2).2.1 (TX3 2).2.2.1 ∈ wsX3_mixNewest := by decide +kernel
  have hlo := hY.lo
  have hhi := hY.hi
  refine vv_loc (L' := [(0, .ref (Y.2.1 (0))), (1, .int (nI (s))), (2, .int (nI (p)))]) rfl ?_
  refine vv_aload_n (q := 1) hC dX3_mixNewest_0 (x := Y.2.1 (0)) rfl rfl ?_
  refine pc_gP (q := 4) hY hC 3 hi_X3 hf_log (by decide) rfl (v := .ref (Y.2.1 (2))) rfl dX3_mixNewest_1 rfl ?_
  refine vv_iload_n (q := 5) hC dX3_mixNewest_4 (x := nI (s)) rfl rfl ?_
  refine vv_iload_n (q := 6) hC dX3_mixNewest_5 (x := nI (p)) rfl rfl ?_
  refine vv_callVN (n := 2) (k := 2) (As := [.int (nI (s)), .int (nI (p))]) (st := []) (q := 9) hC (hY.k (by decide)) (hY.J _) (by rw [hY.cl]; rfl) (cm_X2_latestWith _ Y n hY σ o r s p ho ho11 hr hr10) gX3_mixNewest_X2_latestWith_n209 rfl (hY.nw nw_X3_209) (by decide +kernel) (by decide +kernel) (by decide +kernel) (by decide +kernel) dX3_mixNewest_6 rfl rfl rfl (vv_kR ?_)
  rcases hlat_6 : pc_lat σ o s p r with _ | e
  · refine vv_stk (st' := [.null]) rfl ?_
    refine vv_astore_nN (L' := [(0, .ref (Y.2.1 (0))), (1, .int (nI (s))), (2, .int (nI (p))), (3, .null)]) (q := 10) hC dX3_mixNewest_9 (by decide) rfl rfl rfl ?_
    refine vv_aload_nN (q := 11) hC dX3_mixNewest_10 rfl rfl ?_
    refine vv_ifnullN (tgt := 28) hC dX3_mixNewest_11 (by decide) ?_
    refine vv_aload_n (q := 29) hC dX3_mixNewest_28 (x := Y.2.1 (0)) rfl rfl ?_
    refine vv_aload_n (q := 30) hC dX3_mixNewest_29 (x := Y.2.1 (0)) rfl rfl ?_
    refine pc_gP (q := 33) hY hC 2 hi_X3 hf_disks (by decide) rfl (v := .ref (Y.2.1 (1))) rfl dX3_mixNewest_30 rfl ?_
    refine vv_aload_n (q := 34) hC dX3_mixNewest_33 (x := Y.2.1 (0)) rfl rfl ?_
    refine vv_iload_n (q := 35) hC dX3_mixNewest_34 (x := nI (s)) rfl rfl ?_
    refine vv_iload_n (q := 36) hC dX3_mixNewest_35 (x := nI (p)) rfl rfl ?_
    refine vv_callV (n := 2) (k := 0) (As := [.int (nI (s)), .int (nI (p))]) (st := [.ref (Y.2.1 (1)), .ref (Y.2.1 (0))]) (q := 39) hC (hY.k (by decide)) (hY.P _) (by rw [hY.cl]; rfl) (cm_X3_memberOf _ Y n hY σ s p (by omega) (by omega)) gX3_mixNewest_X3_memberOf rfl (by decide +kernel) dX3_mixNewest_36 rfl rfl rfl (vv_kR ?_)
    refine pc_ld_disks (q := 40) (m := pc_mo n s p) hY hC (pc_mo_lt hlo) dX3_mixNewest_39 rfl ?_
    refine pc_gDN (q := 43) hY hC (pc_mo_lt hlo) 0 hi_X0 nw_X3_141 (by decide) rfl (v := .ref (Y.2.1 (pc_d (pc_mo n s p) + 1))) rfl dX3_mixNewest_40 rfl ?_
    refine vv_iload_n (q := 44) hC dX3_mixNewest_43 (x := nI (s)) rfl rfl ?_
    refine vv_bipush (q := 46) hC (nI 8) dX3_mixNewest_44 (by decide) rfl ?_
    refine vv_mulN (x := s) (y := 8) (q := 47) hC dX3_mixNewest_46 rfl ?_
    refine vv_callV (n := 2) (k := 0) (As := [.ref (Y.2.1 (pc_d (pc_mo n s p) + 1)), .int (nI (s * 8))]) (st := []) (q := 50) hC (hY.k (by decide)) (hY.P _) (by rw [hY.cl]; rfl) (cm_X3_mix _ Y n hY σ (pc_d (pc_mo n s p) + 1) (s * 8) (pc_rw_dw (pc_mo_lt hlo)) (by rw [pc_len_dw]; omega) (by unfold pc_d; omega)) gX3_mixNewest_X3_mix rfl (by decide +kernel) dX3_mixNewest_47 rfl rfl rfl (vv_kRv ?_)
    refine vv_iconst (q := 51) hC (nI 1) dX3_mixNewest_50 (by decide) rfl ?_
    refine vv_zret (v := nI (1)) hC (by first | rfl | decide) dX3_mixNewest_51 ?_
    rw [hp]
    refine ⟨congrArg (fun z => some (Value.int z)) ?_, by unfold pc_mxn; rw [hlat_6]⟩
    first | exact (vv_B1 hlat_6).symm | exact (vv_B0 (by rw [hlat_6]; exact fun h => by cases h)).symm
  · have he_e : e < 11 := pc_lat_lt hlat_6
    refine vv_stk (st' := [.ref (Y.2.1 (pc_e e))]) rfl ?_
    refine vv_astore_n (L' := [(0, .ref (Y.2.1 (0))), (1, .int (nI (s))), (2, .int (nI (p))), (3, .ref (Y.2.1 (pc_e e)))]) (q := 10) hC dX3_mixNewest_9 (by decide) rfl rfl rfl ?_
    refine vv_aload_n (q := 11) hC dX3_mixNewest_10 (x := Y.2.1 (pc_e e)) rfl rfl ?_
    refine vv_ifnull (q := 14) hC dX3_mixNewest_11 rfl ?_
    refine vv_aload_n (q := 15) hC dX3_mixNewest_14 (x := Y.2.1 (0)) rfl rfl ?_
    refine vv_aload_n (q := 16) hC dX3_mixNewest_15 (x := Y.2.1 (pc_e e)) rfl rfl ?_
    refine pc_gEN (q := 19) hY hC (by omega) 0 hi_X1 nw_X3_223 (by decide) rfl (v := .ref (Y.2.1 (pc_e e + 1))) rfl dX3_mixNewest_16 rfl ?_
    refine vv_iload_n (q := 20) hC dX3_mixNewest_19 (x := nI (p)) rfl rfl ?_
    refine vv_bipush (q := 22) hC (nI 8) dX3_mixNewest_20 (by decide) rfl ?_
    refine vv_mulN (x := p) (y := 8) (q := 23) hC dX3_mixNewest_22 rfl ?_
    refine vv_callV (n := 2) (k := 0) (As := [.ref (Y.2.1 (pc_e e + 1)), .int (nI (p * 8))]) (st := []) (q := 26) hC (hY.k (by decide)) (hY.P _) (by rw [hY.cl]; rfl) (cm_X3_mix _ Y n hY σ (pc_e e + 1) (p * 8) (pc_rw_ew he_e) (by rw [pc_len_ew he_e]; omega) (by unfold pc_e; omega)) gX3_mixNewest_X3_mix rfl (by decide +kernel) dX3_mixNewest_23 rfl rfl rfl (vv_kRv ?_)
    refine vv_iconst (q := 27) hC (nI 0) dX3_mixNewest_26 (by decide) rfl ?_
    refine vv_zret (v := nI (0)) hC (by first | rfl | decide) dX3_mixNewest_27 ?_
    rw [hp]
    refine ⟨congrArg (fun z => some (Value.int z)) ?_, by unfold pc_mxn; rw [hlat_6]⟩
    first | exact (vv_B1 hlat_6).symm | exact (vv_B0 (by rw [hlat_6]; exact fun h => by cases h)).symm
set_option maxRecDepth 100000 in
set_option maxHeartbeats 4000000 in
theorem cm_X3_xorIsZero (l : Launch) (Y : vv_Y) (n : Nat) (hY : pc_sys Y n) (σ : vv_S) (s : Nat) (hs : s < 24) : vv_M l Y yX3_xorIsZero wsX3_xorIsZero { frames := 2, cells := 0, slots := 0, locals := 46 } [.ref (Y.2.1 (0)), .int (nI (s))] σ (vv_R (.int (vv_B (pc_z8 (pc_xst σ n (-1) s 5) = true))) (pc_xst σ n (-1) s)) := by
  refine vv_M.of (cc := cX3_xorIsZero) (maxL := 3) (ret := (some .boolean)) hY.ok (by decide) rfl (Nat.le_of_ble_eq_true rfl) ?_
  intro Z hl hp hC
  subst hl
  have hi_X3 : ∀ w ∈ u_ws RX3 TX3 10, w ∈ wsX3_xorIsZero := by decide +kernel
  have hf_mixed : Cond.fieldLink RX3 13 "ParityRow" (TX3 5).2.1 (TX3 5).2.2.1 ∈ wsX3_xorIsZero := by decide +kernel
  have hlo := hY.lo
  have hhi := hY.hi
  refine vv_loc (L' := [(0, .ref (Y.2.1 (0))), (1, .int (nI (s)))]) rfl ?_
  refine vv_aload_n (q := 1) hC dX3_xorIsZero_0 (x := Y.2.1 (0)) rfl rfl ?_
  refine vv_callV (n := 0) (k := 0) (As := []) (st := []) (q := 4) hC (hY.k (by decide)) (hY.P _) (by rw [hY.cl]; rfl) (cm_X3_clearMixed _ Y n hY σ  ) gX3_xorIsZero_X3_clearMixed rfl (by decide +kernel) dX3_xorIsZero_1 rfl rfl rfl (vv_kRv ?_)
  refine vv_aload_n (q := 5) hC dX3_xorIsZero_4 (x := Y.2.1 (0)) rfl rfl ?_
  refine vv_iconst (q := 6) hC ((-1)) dX3_xorIsZero_5 (by decide) rfl ?_
  refine vv_iload_n (q := 7) hC dX3_xorIsZero_6 (x := nI (s)) rfl rfl ?_
  refine vv_callV (n := 2) (k := 0) (As := [.int ((-1)), .int (nI (s))]) (st := []) (q := 10) hC (hY.k (by decide)) (hY.P _) (by rw [hY.cl]; rfl) (cm_X3_mixOthers _ Y n hY (pc_clr σ) ((-1)) s (by omega)) gX3_xorIsZero_X3_mixOthers rfl (by decide +kernel) dX3_xorIsZero_7 rfl rfl rfl (vv_kRv ?_)
  refine vv_iconst (q := 11) hC (nI 0) dX3_xorIsZero_10 (by decide) rfl ?_
  refine vv_istore_n (L' := [(0, .ref (Y.2.1 (0))), (1, .int (nI (s))), (2, .int (nI (0)))]) (q := 12) hC dX3_xorIsZero_11 (by decide) rfl rfl rfl ?_
  have lp_12 : ∀ i : Nat, (i ≤ 8) → (∀ j, j < i → pc_xst σ n (-1) s 5 j = 0) → vv_V Y 3 Z (pc_xst σ n (-1) s) 12 [(0, .ref (Y.2.1 (0))), (1, .int (nI (s))), (2, .int (nI (i)))] [] := by
    refine vv_ind (fun i => 8 - i) (fun i ih_12 => ?_)
    intro hi8 hall
    refine vv_iload_n (q := 13) hC dX3_xorIsZero_12 (x := nI (i)) rfl rfl ?_
    refine vv_bipush (q := 15) hC (nI 8) dX3_xorIsZero_13 (by decide) rfl ?_
    refine vv_icmpN_ge (x := i) (y := 8) (q := 18) (tgt := 35) hC dX3_xorIsZero_15 (by decide) (by omega) (by omega) rfl (fun c_15 => ?_) (fun c_15 => ?_)
    · refine vv_iconst (q := 36) hC (nI 1) dX3_xorIsZero_35 (by decide) rfl ?_
      refine vv_zret (v := nI (1)) hC (by first | rfl | decide) dX3_xorIsZero_36 ?_
      rw [hp]
      exact ⟨congrArg (fun z => some (Value.int z)) (vv_B1 (pc_z8_iff.mpr (fun j hj => hall j (by omega)))).symm, rfl⟩
    · refine vv_aload_n (q := 19) hC dX3_xorIsZero_18 (x := Y.2.1 (0)) rfl rfl ?_
      refine pc_gP (q := 22) hY hC 5 hi_X3 hf_mixed (by decide) rfl (v := .ref (Y.2.1 (5))) rfl dX3_xorIsZero_19 rfl ?_
      refine vv_iload_n (q := 23) hC dX3_xorIsZero_22 (x := nI (i)) rfl rfl ?_
      refine pc_ld_mixed (q := 24) hY hC (i := i) (by omega) dX3_xorIsZero_23 rfl ?_
      refine vv_if_eq (x := (pc_xst σ n (-1) s) 5 i) (q := 27) (tgt := 29) hC dX3_xorIsZero_24 (by decide) rfl (fun c_24 => ?_) (fun c_24 => ?_)
      · refine vv_iincN (x := i) (L' := [(0, .ref (Y.2.1 (0))), (1, .int (nI (s))), (2, .int (nI (i + 1)))]) (q := 32) hC dX3_xorIsZero_29 rfl (by decide) rfl rfl rfl ?_
        refine vv_goto (tgt := 12) hC dX3_xorIsZero_32 (by decide) ?_
        exact ih_12 (i + 1) (by first | omega | (dsimp only; omega))  (by omega) (lt_s hall c_24)
      · refine vv_iconst (q := 28) hC (nI 0) dX3_xorIsZero_27 (by decide) rfl ?_
        refine vv_zret (v := nI (0)) hC (by first | rfl | decide) dX3_xorIsZero_28 ?_
        rw [hp]
        exact ⟨congrArg (fun z => some (Value.int z)) (vv_B0 (fun h => c_24 (pc_z8_iff.mp h i (by omega)))).symm, rfl⟩
  refine vv_st (σ' := pc_xst σ n (-1) s) (rfl) ?_
  exact lp_12 0 (by omega) (fun i hi => absurd hi (Nat.not_lt_zero i))
