set_option maxRecDepth 100000 in
set_option maxHeartbeats 4000000 in
theorem cm_X3_needed (l : Launch) (Y : vv_Y) (n : Nat) (hY : pc_sys Y n) (σ : vv_S) (w : Int32) (x : Int32) : vv_M l Y yX3_needed wsX3_needed { frames := 1, cells := 0, slots := 0, locals := 20 } [.ref (Y.2.1 (0)), .int (w), .int (x)] σ (vv_R (.int (pc_need n w x)) σ) := by
  refine vv_M.of (cc := cX3_needed) (maxL := 3) (ret := (some .int)) hY.ok (by decide) rfl (Nat.le_of_ble_eq_true rfl) ?_
  intro Z hl hp hC
  subst hl
  have hi_X3 : ∀ w ∈ u_ws RX3 TX3 10, w ∈ wsX3_needed := by decide +kernel
  have hf_data : Cond.fieldLink RX3 39 "ParityRow" (TX3 1).2.1 (TX3 1).2.2.1 ∈ wsX3_needed := by decide +kernel
  have hlo := hY.lo
  have hhi := hY.hi
  refine vv_loc (L' := [(0, .ref (Y.2.1 (0))), (1, .int (w)), (2, .int (x))]) rfl ?_
  refine vv_iload_n (q := 1) hC dX3_needed_0 (x := w) rfl rfl ?_
  by_cases s_1_2 : w = nI 2
  · refine vv_lsw (x := w) (off := 27) (tgt := 28) hC dX3_needed_1 (by decide) (by rw [s_1_2] <;> rfl) (by decide) ?_
    refine vv_iload_n (q := 29) hC dX3_needed_28 (x := x) rfl rfl ?_
    refine vv_iconst (q := 30) hC (nI 1) dX3_needed_29 (by decide) rfl ?_
    refine vv_aload_n (q := 31) hC dX3_needed_30 (x := Y.2.1 (0)) rfl rfl ?_
    refine pc_gP (q := 34) hY hC 1 hi_X3 hf_data (by decide) rfl (v := .int (nI (n - 1))) rfl dX3_needed_31 rfl ?_
    refine vv_ishl (x := nI (1)) (y := nI (n - 1)) (q := 35) hC dX3_needed_34 rfl ?_
    refine vv_ior (x := x) (y := (nI (1)) <<< ((nI (n - 1)) &&& 31)) (q := 36) hC dX3_needed_35 rfl ?_
    refine vv_iret (v := x ||| ((nI (1)) <<< ((nI (n - 1)) &&& 31))) hC dX3_needed_36 ?_
    rw [hp]
    exact ⟨congrArg (fun z => some (Value.int z)) (by unfold pc_need; rw [if_pos s_1_2]), rfl⟩
  by_cases s_1_3 : w = nI 3
  · refine vv_lsw (x := w) (off := 36) (tgt := 37) hC dX3_needed_1 (by decide) (by rw [s_1_3] <;> rfl) (by decide) ?_
    refine vv_aload_n (q := 38) hC dX3_needed_37 (x := Y.2.1 (0)) rfl rfl ?_
    refine vv_callV (n := 0) (k := 0) (As := []) (st := []) (q := 41) hC (hY.k (by decide)) (hY.P _) (by rw [hY.cl]; rfl) (cm_X3_allData _ Y n hY σ  ) gX3_needed_X3_allData rfl (by decide +kernel) dX3_needed_38 rfl rfl rfl (vv_kR ?_)
    refine vv_iload_n (q := 42) hC dX3_needed_41 (x := x) rfl rfl ?_
    refine vv_iconst (q := 43) hC ((-1)) dX3_needed_42 (by decide) rfl ?_
    refine vv_ixor (x := x) (y := (-1)) (q := 44) hC dX3_needed_43 rfl ?_
    refine vv_iand (x := pc_all n) (y := x ^^^ ((-1))) (q := 45) hC dX3_needed_44 rfl ?_
    refine vv_iret (v := (pc_all n) &&& (x ^^^ ((-1)))) hC dX3_needed_45 ?_
    rw [hp]
    exact ⟨congrArg (fun z => some (Value.int z)) (by unfold pc_need; rw [if_neg s_1_2, if_pos s_1_3]), rfl⟩
  refine vv_lsw (x := w) (off := 45) (tgt := 46) hC dX3_needed_1 (by decide) ((lv_osw s_1_2 (by decide)).trans ((lv_osw s_1_3 (by decide)).trans (rfl))) (by decide) ?_
  refine vv_iconst (q := 47) hC (nI 0) dX3_needed_46 (by decide) rfl ?_
  refine vv_iret (v := nI (0)) hC dX3_needed_47 ?_
  rw [hp]
  exact ⟨congrArg (fun z => some (Value.int z)) (by unfold pc_need; rw [if_neg s_1_2, if_neg s_1_3]), rfl⟩
set_option maxRecDepth 100000 in
set_option maxHeartbeats 4000000 in
theorem cm_X3_chooseWay (l : Launch) (Y : vv_Y) (n : Nat) (hY : pc_sys Y n) (σ : vv_S) (o : Nat) (r : Nat) (s : Nat) (x : Int32) (ho : σ 2 1 = nI o) (ho11 : o < 11) (hr : σ 2 2 = nI r) (hr10 : r ≤ 10) (hs : s < 24) : vv_M l Y yX3_chooseWay wsX3_chooseWay { frames := 4, cells := 0, slots := 0, locals := 91 } [.ref (Y.2.1 (0)), .int (nI (s)), .int (x)] σ (vv_R (.int (pc_way σ n o r s x)) σ) := by
  refine vv_M.of (cc := cX3_chooseWay) (maxL := 7) (ret := (some .int)) hY.ok (by decide) rfl (Nat.le_of_ble_eq_true rfl) ?_
  intro Z hl hp hC
  subst hl
  have hi_X3 : ∀ w ∈ u_ws RX3 TX3 10, w ∈ wsX3_chooseWay := by decide +kernel
  have hf_disks : Cond.fieldLink RX3 44 "ParityRow" (TX3 2).2.1 (TX3 2).2.2.1 ∈ wsX3_chooseWay := by decide +kernel
  have hlo := hY.lo
  have hhi := hY.hi
  refine vv_loc (L' := [(0, .ref (Y.2.1 (0))), (1, .int (nI (s))), (2, .int (x))]) rfl ?_
  refine vv_iload_n (q := 1) hC dX3_chooseWay_0 (x := x) rfl rfl ?_
  refine vv_aload_n (q := 2) hC dX3_chooseWay_1 (x := Y.2.1 (0)) rfl rfl ?_
  refine vv_callV (n := 0) (k := 0) (As := []) (st := [.int (x)]) (q := 5) hC (hY.k (by decide)) (hY.P _) (by rw [hY.cl]; rfl) (cm_X3_allData _ Y n hY σ  ) gX3_chooseWay_X3_allData rfl (by decide +kernel) dX3_chooseWay_2 rfl rfl rfl (vv_kR ?_)
  refine vv_icmp_ne (x := x) (y := pc_all n) (q := 8) (tgt := 10) hC dX3_chooseWay_5 (by decide) rfl (fun c_5 => ?_) (fun c_5 => ?_)
  · refine vv_aload_n (q := 11) hC dX3_chooseWay_10 (x := Y.2.1 (0)) rfl rfl ?_
    refine pc_gP (q := 14) hY hC 2 hi_X3 hf_disks (by decide) rfl (v := .ref (Y.2.1 (1))) rfl dX3_chooseWay_11 rfl ?_
    refine vv_aload_n (q := 15) hC dX3_chooseWay_14 (x := Y.2.1 (0)) rfl rfl ?_
    refine vv_iload_n (q := 16) hC dX3_chooseWay_15 (x := nI (s)) rfl rfl ?_
    refine vv_callV (n := 1) (k := 0) (As := [.int (nI (s))]) (st := [.ref (Y.2.1 (1))]) (q := 19) hC (hY.k (by decide)) (hY.P _) (by rw [hY.cl]; rfl) (cm_X3_parityMember _ Y n hY σ s (by omega)) gX3_chooseWay_X3_parityMember rfl (by decide +kernel) dX3_chooseWay_16 rfl rfl rfl (vv_kR ?_)
    refine pc_ld_disks (q := 20) (m := pc_pm n s) hY hC (pc_pm_lt hlo) dX3_chooseWay_19 rfl ?_
    refine vv_iload_n (q := 21) hC dX3_chooseWay_20 (x := nI (s)) rfl rfl ?_
    refine vv_callVN (n := 1) (k := pc_d (pc_pm n s)) (As := [.int (nI (s))]) (st := []) (q := 24) hC (hY.kd (j := 0) (pc_pm_lt hlo) (by decide)) (hY.D _) (by rw [hY.cl]; rfl) (cm_X0_isOn _ Y n hY σ (pc_pm n s) s (pc_pm_lt hlo) (by omega)) gX3_chooseWay_X0_isOn_n237 rfl (hY.nw nw_X3_237) (by decide +kernel) (by decide +kernel) (by decide +kernel) (by decide +kernel) dX3_chooseWay_21 rfl rfl rfl (vv_kR ?_)
    refine vv_ifB_ne (b := nI s < σ (pc_d (pc_pm n s)) 4) (q := 27) (tgt := 29) hC dX3_chooseWay_24 (by decide) rfl (fun c_24 => ?_) (fun c_24 => ?_)
    · refine vv_aload_n (q := 30) hC dX3_chooseWay_29 (x := Y.2.1 (0)) rfl rfl ?_
      refine vv_iconst (q := 31) hC (nI 2) dX3_chooseWay_30 (by decide) rfl ?_
      refine vv_iload_n (q := 32) hC dX3_chooseWay_31 (x := x) rfl rfl ?_
      refine vv_callV (n := 2) (k := 0) (As := [.int (nI (2)), .int (x)]) (st := []) (q := 35) hC (hY.k (by decide)) (hY.P _) (by rw [hY.cl]; rfl) (cm_X3_needed _ Y n hY σ (nI (2)) x ) gX3_chooseWay_X3_needed rfl (by decide +kernel) dX3_chooseWay_32 rfl rfl rfl (vv_kR ?_)
      refine vv_istore_n (L' := [(0, .ref (Y.2.1 (0))), (1, .int (nI (s))), (2, .int (x)), (3, .int (pc_need n (nI (2)) x))]) (q := 36) hC dX3_chooseWay_35 (by decide) rfl rfl rfl ?_
      refine vv_aload_n (q := 37) hC dX3_chooseWay_36 (x := Y.2.1 (0)) rfl rfl ?_
      refine vv_iconst (q := 38) hC (nI 3) dX3_chooseWay_37 (by decide) rfl ?_
      refine vv_iload_n (q := 39) hC dX3_chooseWay_38 (x := x) rfl rfl ?_
      refine vv_callV (n := 2) (k := 0) (As := [.int (nI (3)), .int (x)]) (st := []) (q := 42) hC (hY.k (by decide)) (hY.P _) (by rw [hY.cl]; rfl) (cm_X3_needed _ Y n hY σ (nI (3)) x ) gX3_chooseWay_X3_needed rfl (by decide +kernel) dX3_chooseWay_39 rfl rfl rfl (vv_kR ?_)
      refine vv_istore (L' := [(0, .ref (Y.2.1 (0))), (1, .int (nI (s))), (2, .int (x)), (3, .int (pc_need n (nI (2)) x)), (4, .int (pc_need n (nI (3)) x))]) (q := 44) hC dX3_chooseWay_42 (by decide) rfl rfl rfl ?_
      refine vv_aload_n (q := 45) hC dX3_chooseWay_44 (x := Y.2.1 (0)) rfl rfl ?_
      refine vv_iload_n (q := 46) hC dX3_chooseWay_45 (x := nI (s)) rfl rfl ?_
      refine vv_iload_n (q := 47) hC dX3_chooseWay_46 (x := pc_need n (nI (2)) x) rfl rfl ?_
      refine vv_callV (n := 2) (k := 0) (As := [.int (nI (s)), .int (pc_need n (nI (2)) x)]) (st := []) (q := 50) hC (hY.k (by decide)) (hY.P _) (by rw [hY.cl]; rfl) (cm_X3_haveNewest _ Y n hY σ o r s (pc_need n (nI (2)) x) ho ho11 hr hr10 (by omega)) gX3_chooseWay_X3_haveNewest rfl (by decide +kernel) dX3_chooseWay_47 rfl rfl rfl (vv_kR ?_)
      refine vv_istore (L' := [(0, .ref (Y.2.1 (0))), (1, .int (nI (s))), (2, .int (x)), (3, .int (pc_need n (nI (2)) x)), (4, .int (pc_need n (nI (3)) x)), (5, .int (vv_B (∀ p, p < n → pc_bit (pc_need n (nI (2)) x) p → ¬ pc_nn σ n o r s p)))]) (q := 52) hC dX3_chooseWay_50 (by decide) rfl rfl rfl ?_
      refine vv_aload_n (q := 53) hC dX3_chooseWay_52 (x := Y.2.1 (0)) rfl rfl ?_
      refine vv_iload_n (q := 54) hC dX3_chooseWay_53 (x := nI (s)) rfl rfl ?_
      refine vv_iload (q := 56) hC dX3_chooseWay_54 (x := pc_need n (nI (3)) x) rfl rfl ?_
      refine vv_callV (n := 2) (k := 0) (As := [.int (nI (s)), .int (pc_need n (nI (3)) x)]) (st := []) (q := 59) hC (hY.k (by decide)) (hY.P _) (by rw [hY.cl]; rfl) (cm_X3_haveNewest _ Y n hY σ o r s (pc_need n (nI (3)) x) ho ho11 hr hr10 (by omega)) gX3_chooseWay_X3_haveNewest rfl (by decide +kernel) dX3_chooseWay_56 rfl rfl rfl (vv_kR ?_)
      refine vv_istore (L' := [(0, .ref (Y.2.1 (0))), (1, .int (nI (s))), (2, .int (x)), (3, .int (pc_need n (nI (2)) x)), (4, .int (pc_need n (nI (3)) x)), (5, .int (vv_B (∀ p, p < n → pc_bit (pc_need n (nI (2)) x) p → ¬ pc_nn σ n o r s p))), (6, .int (vv_B (∀ p, p < n → pc_bit (pc_need n (nI (3)) x) p → ¬ pc_nn σ n o r s p)))]) (q := 61) hC dX3_chooseWay_59 (by decide) rfl rfl rfl ?_
      refine vv_iload (q := 63) hC dX3_chooseWay_61 (x := vv_B (∀ p, p < n → pc_bit (pc_need n (nI (2)) x) p → ¬ pc_nn σ n o r s p)) rfl rfl ?_
      refine vv_ifB_eq (b := ∀ p, p < n → pc_bit (pc_need n (nI (2)) x) p → ¬ pc_nn σ n o r s p) (q := 66) (tgt := 89) hC dX3_chooseWay_63 (by decide) rfl (fun c_63 => ?_) (fun c_63 => ?_)
      · refine vv_iload (q := 91) hC dX3_chooseWay_89 (x := vv_B (∀ p, p < n → pc_bit (pc_need n (nI (2)) x) p → ¬ pc_nn σ n o r s p)) rfl rfl ?_
        refine vv_ifB_eq (b := ∀ p, p < n → pc_bit (pc_need n (nI (2)) x) p → ¬ pc_nn σ n o r s p) (q := 94) (tgt := 96) hC dX3_chooseWay_91 (by decide) rfl (fun c_91 => ?_) (fun c_91 => absurd c_91 c_63)
        refine vv_iload (q := 98) hC dX3_chooseWay_96 (x := vv_B (∀ p, p < n → pc_bit (pc_need n (nI (3)) x) p → ¬ pc_nn σ n o r s p)) rfl rfl ?_
        refine vv_ifB_eq (b := ∀ p, p < n → pc_bit (pc_need n (nI (3)) x) p → ¬ pc_nn σ n o r s p) (q := 101) (tgt := 105) hC dX3_chooseWay_98 (by decide) rfl (fun c_98 => ?_) (fun c_98 => ?_)
        · refine vv_iconst (q := 106) hC ((-1)) dX3_chooseWay_105 (by decide) rfl ?_
          refine vv_iret (v := (-1)) hC dX3_chooseWay_106 ?_
          rw [hp]
          exact ⟨congrArg (fun z => some (Value.int z)) (by unfold pc_way; rw [if_neg c_5, if_pos c_24, if_neg c_63, if_neg c_98]), rfl⟩
        · refine vv_iconst (q := 102) hC (nI 3) dX3_chooseWay_101 (by decide) rfl ?_
          refine vv_goto (tgt := 106) hC dX3_chooseWay_102 (by decide) ?_
          refine vv_iret (v := nI (3)) hC dX3_chooseWay_106 ?_
          rw [hp]
          exact ⟨congrArg (fun z => some (Value.int z)) (by unfold pc_way; rw [if_neg c_5, if_pos c_24, if_neg c_63, if_pos c_98]), rfl⟩
      · refine vv_iload (q := 68) hC dX3_chooseWay_66 (x := vv_B (∀ p, p < n → pc_bit (pc_need n (nI (3)) x) p → ¬ pc_nn σ n o r s p)) rfl rfl ?_
        refine vv_ifB_eq (b := ∀ p, p < n → pc_bit (pc_need n (nI (3)) x) p → ¬ pc_nn σ n o r s p) (q := 71) (tgt := 89) hC dX3_chooseWay_68 (by decide) rfl (fun c_68 => ?_) (fun c_68 => ?_)
        · refine vv_iload (q := 91) hC dX3_chooseWay_89 (x := vv_B (∀ p, p < n → pc_bit (pc_need n (nI (2)) x) p → ¬ pc_nn σ n o r s p)) rfl rfl ?_
          refine vv_ifB_eq (b := ∀ p, p < n → pc_bit (pc_need n (nI (2)) x) p → ¬ pc_nn σ n o r s p) (q := 94) (tgt := 96) hC dX3_chooseWay_91 (by decide) rfl (fun c_91 => absurd c_63 c_91) (fun c_91 => ?_)
          refine vv_iconst (q := 95) hC (nI 2) dX3_chooseWay_94 (by decide) rfl ?_
          refine vv_iret (v := nI (2)) hC dX3_chooseWay_95 ?_
          rw [hp]
          exact ⟨congrArg (fun z => some (Value.int z)) (by unfold pc_way; rw [if_neg c_5, if_pos c_24, if_pos c_63, if_neg c_68]), rfl⟩
        · refine vv_iload_n (q := 72) hC dX3_chooseWay_71 (x := pc_need n (nI (2)) x) rfl rfl ?_
          refine vv_callS (n := 1) (As := [.int (pc_need n (nI (2)) x)]) (st := []) (q := 75) hC (cm_J6_bitCount_0f7a4 _ Y n hY σ (pc_need n (nI (2)) x) ) gX3_chooseWay_J6_bitCount_0f7a4 rfl (by decide +kernel) dX3_chooseWay_72 rfl rfl rfl (vv_kR ?_)
          refine vv_iload (q := 77) hC dX3_chooseWay_75 (x := pc_need n (nI (3)) x) rfl rfl ?_
          refine vv_callS (n := 1) (As := [.int (pc_need n (nI (3)) x)]) (st := [.int (pc_bc (pc_need n (nI (2)) x))]) (q := 80) hC (cm_J6_bitCount_0f7a4 _ Y n hY σ (pc_need n (nI (3)) x) ) gX3_chooseWay_J6_bitCount_0f7a4 rfl (by decide +kernel) dX3_chooseWay_77 rfl rfl rfl (vv_kR ?_)
          refine vv_icmp_gt (x := pc_bc (pc_need n (nI (2)) x)) (y := pc_bc (pc_need n (nI (3)) x)) (q := 83) (tgt := 87) hC dX3_chooseWay_80 (by decide) rfl (fun c_80 => ?_) (fun c_80 => ?_)
          · refine vv_iconst (q := 88) hC (nI 3) dX3_chooseWay_87 (by decide) rfl ?_
            refine vv_iret (v := nI (3)) hC dX3_chooseWay_88 ?_
            rw [hp]
            exact ⟨congrArg (fun z => some (Value.int z)) (by unfold pc_way; rw [if_neg c_5, if_pos c_24, if_pos c_63, if_pos c_68, if_pos c_80]), rfl⟩
          · refine vv_iconst (q := 84) hC (nI 2) dX3_chooseWay_83 (by decide) rfl ?_
            refine vv_goto (tgt := 88) hC dX3_chooseWay_84 (by decide) ?_
            refine vv_iret (v := nI (2)) hC dX3_chooseWay_88 ?_
            rw [hp]
            exact ⟨congrArg (fun z => some (Value.int z)) (by unfold pc_way; rw [if_neg c_5, if_pos c_24, if_pos c_63, if_pos c_68, if_neg c_80]), rfl⟩
    · refine vv_iconst (q := 28) hC (nI 1) dX3_chooseWay_27 (by decide) rfl ?_
      refine vv_iret (v := nI (1)) hC dX3_chooseWay_28 ?_
      rw [hp]
      exact ⟨congrArg (fun z => some (Value.int z)) (by unfold pc_way; rw [if_neg c_5, if_neg c_24]), rfl⟩
  · refine vv_iconst (q := 9) hC (nI 0) dX3_chooseWay_8 (by decide) rfl ?_
    refine vv_iret (v := nI (0)) hC dX3_chooseWay_9 ?_
    rw [hp]
    exact ⟨congrArg (fun z => some (Value.int z)) (by unfold pc_way; rw [if_pos c_5]), rfl⟩
set_option maxRecDepth 100000 in
set_option maxHeartbeats 4000000 in
theorem cm_X3_addParity (l : Launch) (Y : vv_Y) (n : Nat) (hY : pc_sys Y n) (σ : vv_S) (e : Nat) (o : Nat) (r : Nat) (s : Nat) (he : e < 11) (ho : σ 2 1 = nI o) (ho11 : o < 11) (hr : σ 2 2 = nI r) (hr10 : r ≤ 10) (hst : σ (pc_e e) 1 = nI s) (hs : s < 24) : vv_M l Y yX3_addParity wsX3_addParity { frames := 3, cells := 0, slots := 0, locals := 68 } [.ref (Y.2.1 (0)), .ref (Y.2.1 (pc_e e))] σ (vv_Rv (pc_ap σ n e o r s)) := by
  refine vv_M.of (cc := cX3_addParity) (maxL := 4) (ret := none) hY.ok (by decide) rfl (Nat.le_of_ble_eq_true rfl) ?_
  intro Z hl hp hC
  subst hl
  have hi_X1 : ∀ w ∈ u_ws RX1 TX1 4, w ∈ wsX3_addParity := by decide +kernel
  have hi_X3 : ∀ w ∈ u_ws RX3 TX3 10, w ∈ wsX3_addParity := by decide +kernel
  have hf_width : Cond.fieldLink RX3 36 "ParityRow" (TX3 0).2.1 (TX3 0).2.2.1 ∈ wsX3_addParity := by decide +kernel
  have hf_data : Cond.fieldLink RX3 39 "ParityRow" (TX3 1).2.1 (TX3 1).2.2.1 ∈ wsX3_addParity := by decide +kernel
  have hf_mixed : Cond.fieldLink RX3 13 "ParityRow" (TX3 5).2.1 (TX3 5).2.2.1 ∈ wsX3_addParity := by decide +kernel
  have hf_tally : Cond.fieldLink RX3 9 "ParityRow" (TX3 4).2.1 (TX3 4).2.2.1 ∈ wsX3_addParity := by decide +kernel
  have hlo := hY.lo
  have hhi := hY.hi
  refine vv_loc (L' := [(0, .ref (Y.2.1 (0))), (1, .ref (Y.2.1 (pc_e e)))]) rfl ?_
  refine vv_aload_n (q := 1) hC dX3_addParity_0 (x := Y.2.1 (0)) rfl rfl ?_
  refine vv_aload_n (q := 2) hC dX3_addParity_1 (x := Y.2.1 (pc_e e)) rfl rfl ?_
  refine pc_gEN (q := 5) hY hC (by omega) 3 hi_X1 nw_X3_200 (by decide) rfl (v := .int (σ (pc_e e) 3)) rfl dX3_addParity_2 rfl ?_
  refine vv_aload_n (q := 6) hC dX3_addParity_5 (x := Y.2.1 (pc_e e)) rfl rfl ?_
  refine pc_gEN (q := 9) hY hC (by omega) 2 hi_X1 nw_X3_191 (by decide) rfl (v := .int (σ (pc_e e) 2)) rfl dX3_addParity_6 rfl ?_
  refine vv_callV (n := 2) (k := 0) (As := [.int (σ (pc_e e) 3), .int (σ (pc_e e) 2)]) (st := []) (q := 12) hC (hY.k (by decide)) (hY.P _) (by rw [hY.cl]; rfl) (cm_X3_needed _ Y n hY σ (σ (pc_e e) 3) (σ (pc_e e) 2) ) gX3_addParity_X3_needed rfl (by decide +kernel) dX3_addParity_9 rfl rfl rfl (vv_kR ?_)
  refine vv_istore_n (L' := [(0, .ref (Y.2.1 (0))), (1, .ref (Y.2.1 (pc_e e))), (2, .int (pc_need n (σ (pc_e e) 3) (σ (pc_e e) 2)))]) (q := 13) hC dX3_addParity_12 (by decide) rfl rfl rfl ?_
  refine vv_aload_n (q := 14) hC dX3_addParity_13 (x := Y.2.1 (0)) rfl rfl ?_
  refine vv_callV (n := 0) (k := 0) (As := []) (st := []) (q := 17) hC (hY.k (by decide)) (hY.P _) (by rw [hY.cl]; rfl) (cm_X3_clearMixed _ Y n hY σ  ) gX3_addParity_X3_clearMixed rfl (by decide +kernel) dX3_addParity_14 rfl rfl rfl (vv_kRv ?_)
  refine vv_iconst (q := 18) hC (nI 0) dX3_addParity_17 (by decide) rfl ?_
  refine vv_istore_n (L' := [(0, .ref (Y.2.1 (0))), (1, .ref (Y.2.1 (pc_e e))), (2, .int (pc_need n (σ (pc_e e) 3) (σ (pc_e e) 2))), (3, .int (nI (0)))]) (q := 19) hC dX3_addParity_18 (by decide) rfl rfl rfl ?_
  have lp_19 : ∀ p : Nat, ∀ τ : vv_S, (p ≤ n) → (τ 2 = σ 2) → (τ (pc_e e) 1 = nI s) → (pc_apr n e o r s (pc_need n (σ (pc_e e) 3) (σ (pc_e e) 2)) n 0 (pc_clr σ) = pc_apr n e o r s (pc_need n (σ (pc_e e) 3) (σ (pc_e e) 2)) (n - p) p τ) → vv_V Y 4 Z τ 19 [(0, .ref (Y.2.1 (0))), (1, .ref (Y.2.1 (pc_e e))), (2, .int (pc_need n (σ (pc_e e) 3) (σ (pc_e e) 2))), (3, .int (nI (p)))] [] := by
    refine vv_ind (fun p => n - p) (fun p ih_19 => ?_)
    intro τ hpn h2 hte hv
    refine vv_iload_n (q := 20) hC dX3_addParity_19 (x := nI (p)) rfl rfl ?_
    refine vv_aload_n (q := 21) hC dX3_addParity_20 (x := Y.2.1 (0)) rfl rfl ?_
    refine pc_gP (q := 24) hY hC 0 hi_X3 hf_width (by decide) rfl (v := .int (nI (n))) rfl dX3_addParity_21 rfl ?_
    refine vv_icmpN_ge (x := p) (y := n) (q := 27) (tgt := 84) hC dX3_addParity_24 (by decide) (by omega) (by omega) rfl (fun c_24 => ?_) (fun c_24 => ?_)
    · refine vv_st (σ' := pc_apr n e o r s (pc_need n (σ (pc_e e) 3) (σ (pc_e e) 2)) n 0 (pc_clr σ)) (by rw [hv, show n - p = 0 by omega]; rfl) ?_
      refine vv_aload_n (q := 85) hC dX3_addParity_84 (x := Y.2.1 (pc_e e)) rfl rfl ?_
      refine vv_aload_n (q := 86) hC dX3_addParity_85 (x := Y.2.1 (0)) rfl rfl ?_
      refine pc_gP (q := 89) hY hC 1 hi_X3 hf_data (by decide) rfl (v := .int (nI (n - 1))) rfl dX3_addParity_86 rfl ?_
      refine vv_aload_n (q := 90) hC dX3_addParity_89 (x := Y.2.1 (0)) rfl rfl ?_
      refine pc_gP (q := 93) hY hC 5 hi_X3 hf_mixed (by decide) rfl (v := .ref (Y.2.1 (5))) rfl dX3_addParity_90 rfl ?_
      refine vv_callVN (n := 2) (k := pc_e e) (As := [.int (nI (n - 1)), .ref (Y.2.1 (5))]) (st := []) (q := 96) hC (hY.ke (j := 0) (by omega) (by decide)) (hY.E (by omega) _) (by rw [hY.cl]; rfl) (cm_X1_addWords _ Y n hY (pc_apr n e o r s (pc_need n (σ (pc_e e) 3) (σ (pc_e e) 2)) n 0 (pc_clr σ)) e (n - 1) (by omega) (by omega)) gX3_addParity_X1_addWords_n288 rfl (hY.nw nw_X3_288) (by decide +kernel) (by decide +kernel) (by decide +kernel) (by decide +kernel) dX3_addParity_93 rfl rfl rfl (vv_kRv ?_)
      refine vv_vret hC dX3_addParity_96 ?_
      rw [hp]
      exact ⟨rfl, rfl⟩
    · refine vv_aload_n (q := 28) hC dX3_addParity_27 (x := Y.2.1 (pc_e e)) rfl rfl ?_
      refine vv_iload_n (q := 29) hC dX3_addParity_28 (x := nI (p)) rfl rfl ?_
      refine vv_callVN (n := 1) (k := pc_e e) (As := [.int (nI (p))]) (st := []) (q := 32) hC (hY.ke (j := 0) (by omega) (by decide)) (hY.E (by omega) _) (by rw [hY.cl]; rfl) (cm_X1_has _ Y n hY τ e p (by omega)) gX3_addParity_X1_has_n197 rfl (hY.nw nw_X3_197) (by decide +kernel) (by decide +kernel) (by decide +kernel) (by decide +kernel) dX3_addParity_29 rfl rfl rfl (vv_kR ?_)
      refine vv_ifB_eq (b := pc_bit (τ (pc_e e) 2) p) (q := 35) (tgt := 47) hC dX3_addParity_32 (by decide) rfl (fun c_32 => ?_) (fun c_32 => ?_)
      · refine vv_st (σ' := pc_apa e p τ) (by unfold pc_apa; rw [if_neg c_32]) ?_
        refine vv_iload_n (q := 48) hC dX3_addParity_47 (x := pc_need n (σ (pc_e e) 3) (σ (pc_e e) 2)) rfl rfl ?_
        refine vv_iload_n (q := 49) hC dX3_addParity_48 (x := nI (p)) rfl rfl ?_
        refine vv_ishr (x := pc_need n (σ (pc_e e) 3) (σ (pc_e e) 2)) (y := nI (p)) (q := 50) hC dX3_addParity_49 rfl ?_
        refine vv_iconst (q := 51) hC (nI 1) dX3_addParity_50 (by decide) rfl ?_
        refine vv_iand (x := (pc_need n (σ (pc_e e) 3) (σ (pc_e e) 2)) >>> ((nI (p)) &&& 31)) (y := nI (1)) (q := 52) hC dX3_addParity_51 rfl ?_
        refine vv_iconst (q := 53) hC (nI 1) dX3_addParity_52 (by decide) rfl ?_
        refine vv_icmp_ne (x := ((pc_need n (σ (pc_e e) 3) (σ (pc_e e) 2)) >>> ((nI (p)) &&& 31)) &&& (nI (1))) (y := nI (1)) (q := 56) (tgt := 78) hC dX3_addParity_53 (by decide) rfl (fun c_53 => ?_) (fun c_53 => ?_)
        · refine vv_st (σ' := pc_apb n o r s (pc_need n (σ (pc_e e) 3) (σ (pc_e e) 2)) p (pc_apa e p τ)) (by unfold pc_apb; rw [if_neg c_53]) ?_
          refine vv_iincN (x := p) (L' := [(0, .ref (Y.2.1 (0))), (1, .ref (Y.2.1 (pc_e e))), (2, .int (pc_need n (σ (pc_e e) 3) (σ (pc_e e) 2))), (3, .int (nI (p + 1)))]) (q := 81) hC dX3_addParity_78 rfl (by decide) rfl rfl rfl ?_
          refine vv_goto (tgt := 19) hC dX3_addParity_81 (by decide) ?_
          exact ih_19 (p + 1) (by first | omega | (dsimp only; omega)) (pc_apb n o r s (pc_need n (σ (pc_e e) 3) (σ (pc_e e) 2)) p (pc_apa e p τ)) (by omega) (by rw [pc_apb_o (by decide) (by decide), pc_apa_o (by decide)]; exact h2) (by rw [pc_apb_o (pc_e_ne (by decide)) (pc_e_ne (by decide)), pc_apa_o (pc_e_ne (by decide))]; exact hte) (by rw [hv, show n - p = (n - (p + 1)) + 1 by omega]; rfl)
        · refine vv_aload_n (q := 57) hC dX3_addParity_56 (x := Y.2.1 (0)) rfl rfl ?_
          refine vv_aload_n (q := 58) hC dX3_addParity_57 (x := Y.2.1 (pc_e e)) rfl rfl ?_
          refine pc_gEN (q := 61) hY hC (by omega) 1 hi_X1 nw_X3_186 (by decide) rfl (v := .int ((pc_apa e p τ) (pc_e e) 1)) rfl dX3_addParity_58 rfl ?_
          refine vv_top (y := nI (s)) (by rw [pc_apa_o (pc_e_ne (by decide))]; exact hte) ?_
          refine vv_iload_n (q := 62) hC dX3_addParity_61 (x := nI (p)) rfl rfl ?_
          refine vv_callV (n := 2) (k := 0) (As := [.int (nI (s)), .int (nI (p))]) (st := []) (q := 65) hC (hY.k (by decide)) (hY.P _) (by rw [hY.cl]; rfl) (cm_X3_mixNewest _ Y n hY (pc_apa e p τ) o r s p (by rw [pc_apa_o (by decide), h2]; exact ho) ho11 (by rw [pc_apa_o (by decide), h2]; exact hr) hr10 (by omega) (by omega)) gX3_addParity_X3_mixNewest rfl (by decide +kernel) dX3_addParity_62 rfl rfl rfl (vv_kR ?_)
          refine vv_ifB_eq (b := pc_lat (pc_apa e p τ) o s p r = none) (q := 68) (tgt := 78) hC dX3_addParity_65 (by decide) rfl (fun c_65 => ?_) (fun c_65 => ?_)
          · refine vv_st (σ' := pc_apb n o r s (pc_need n (σ (pc_e e) 3) (σ (pc_e e) 2)) p (pc_apa e p τ)) (by unfold pc_apb; rw [if_pos c_53, if_neg c_65]) ?_
            refine vv_iincN (x := p) (L' := [(0, .ref (Y.2.1 (0))), (1, .ref (Y.2.1 (pc_e e))), (2, .int (pc_need n (σ (pc_e e) 3) (σ (pc_e e) 2))), (3, .int (nI (p + 1)))]) (q := 81) hC dX3_addParity_78 rfl (by decide) rfl rfl rfl ?_
            refine vv_goto (tgt := 19) hC dX3_addParity_81 (by decide) ?_
            exact ih_19 (p + 1) (by first | omega | (dsimp only; omega)) (pc_apb n o r s (pc_need n (σ (pc_e e) 3) (σ (pc_e e) 2)) p (pc_apa e p τ)) (by omega) (by rw [pc_apb_o (by decide) (by decide), pc_apa_o (by decide)]; exact h2) (by rw [pc_apb_o (pc_e_ne (by decide)) (pc_e_ne (by decide)), pc_apa_o (pc_e_ne (by decide))]; exact hte) (by rw [hv, show n - p = (n - (p + 1)) + 1 by omega]; rfl)
          · refine vv_aload_n (q := 69) hC dX3_addParity_68 (x := Y.2.1 (0)) rfl rfl ?_
            refine pc_gP (q := 72) hY hC 4 hi_X3 hf_tally (by decide) rfl (v := .ref (Y.2.1 (4))) rfl dX3_addParity_69 rfl ?_
            refine vv_iconst (q := 73) hC (nI 3) dX3_addParity_72 (by decide) rfl ?_
            refine vv_dup2 (q := 74) hC dX3_addParity_73 rfl rfl rfl ?_
            refine pc_ld_tally (q := 75) hY hC (i := 3) (by omega) dX3_addParity_74 rfl ?_
            refine vv_iconst (q := 76) hC (nI 1) dX3_addParity_75 (by decide) rfl ?_
            refine vv_iadd (x := (vv_row (pc_apa e p τ) 5 (pc_mxn (pc_apa e p τ) n o r s p)) 4 3) (y := nI (1)) (q := 77) hC dX3_addParity_76 rfl ?_
            refine pc_st_tally (q := 78) hY hC (i := 3) (x := ((vv_row (pc_apa e p τ) 5 (pc_mxn (pc_apa e p τ) n o r s p)) 4 3) + (nI (1))) (by omega) dX3_addParity_77 rfl ?_
            refine vv_st (σ' := pc_apb n o r s (pc_need n (σ (pc_e e) 3) (σ (pc_e e) 2)) p (pc_apa e p τ)) (by unfold pc_apb; rw [if_pos c_53, if_pos c_65]; rfl) ?_
            refine vv_iincN (x := p) (L' := [(0, .ref (Y.2.1 (0))), (1, .ref (Y.2.1 (pc_e e))), (2, .int (pc_need n (σ (pc_e e) 3) (σ (pc_e e) 2))), (3, .int (nI (p + 1)))]) (q := 81) hC dX3_addParity_78 rfl (by decide) rfl rfl rfl ?_
            refine vv_goto (tgt := 19) hC dX3_addParity_81 (by decide) ?_
            exact ih_19 (p + 1) (by first | omega | (dsimp only; omega)) (pc_apb n o r s (pc_need n (σ (pc_e e) 3) (σ (pc_e e) 2)) p (pc_apa e p τ)) (by omega) (by rw [pc_apb_o (by decide) (by decide), pc_apa_o (by decide)]; exact h2) (by rw [pc_apb_o (pc_e_ne (by decide)) (pc_e_ne (by decide)), pc_apa_o (pc_e_ne (by decide))]; exact hte) (by rw [hv, show n - p = (n - (p + 1)) + 1 by omega]; rfl)
      · refine vv_aload_n (q := 36) hC dX3_addParity_35 (x := Y.2.1 (0)) rfl rfl ?_
        refine vv_aload_n (q := 37) hC dX3_addParity_36 (x := Y.2.1 (pc_e e)) rfl rfl ?_
        refine pc_gEN (q := 40) hY hC (by omega) 0 hi_X1 nw_X3_223 (by decide) rfl (v := .ref (Y.2.1 (pc_e e + 1))) rfl dX3_addParity_37 rfl ?_
        refine vv_iload_n (q := 41) hC dX3_addParity_40 (x := nI (p)) rfl rfl ?_
        refine vv_bipush (q := 43) hC (nI 8) dX3_addParity_41 (by decide) rfl ?_
        refine vv_mulN (x := p) (y := 8) (q := 44) hC dX3_addParity_43 rfl ?_
        refine vv_callV (n := 2) (k := 0) (As := [.ref (Y.2.1 (pc_e e + 1)), .int (nI (p * 8))]) (st := []) (q := 47) hC (hY.k (by decide)) (hY.P _) (by rw [hY.cl]; rfl) (cm_X3_mix _ Y n hY τ (pc_e e + 1) (p * 8) (pc_rw_ew he) (by rw [pc_len_ew he]; omega) (by unfold pc_e; omega)) gX3_addParity_X3_mix rfl (by decide +kernel) dX3_addParity_44 rfl rfl rfl (vv_kRv ?_)
        refine vv_st (σ' := pc_apa e p τ) (by unfold pc_apa; rw [if_pos c_32]) ?_
        refine vv_iload_n (q := 48) hC dX3_addParity_47 (x := pc_need n (σ (pc_e e) 3) (σ (pc_e e) 2)) rfl rfl ?_
        refine vv_iload_n (q := 49) hC dX3_addParity_48 (x := nI (p)) rfl rfl ?_
        refine vv_ishr (x := pc_need n (σ (pc_e e) 3) (σ (pc_e e) 2)) (y := nI (p)) (q := 50) hC dX3_addParity_49 rfl ?_
        refine vv_iconst (q := 51) hC (nI 1) dX3_addParity_50 (by decide) rfl ?_
        refine vv_iand (x := (pc_need n (σ (pc_e e) 3) (σ (pc_e e) 2)) >>> ((nI (p)) &&& 31)) (y := nI (1)) (q := 52) hC dX3_addParity_51 rfl ?_
        refine vv_iconst (q := 53) hC (nI 1) dX3_addParity_52 (by decide) rfl ?_
        refine vv_icmp_ne (x := ((pc_need n (σ (pc_e e) 3) (σ (pc_e e) 2)) >>> ((nI (p)) &&& 31)) &&& (nI (1))) (y := nI (1)) (q := 56) (tgt := 78) hC dX3_addParity_53 (by decide) rfl (fun c_53 => ?_) (fun c_53 => ?_)
        · refine vv_st (σ' := pc_apb n o r s (pc_need n (σ (pc_e e) 3) (σ (pc_e e) 2)) p (pc_apa e p τ)) (by unfold pc_apb; rw [if_neg c_53]) ?_
          refine vv_iincN (x := p) (L' := [(0, .ref (Y.2.1 (0))), (1, .ref (Y.2.1 (pc_e e))), (2, .int (pc_need n (σ (pc_e e) 3) (σ (pc_e e) 2))), (3, .int (nI (p + 1)))]) (q := 81) hC dX3_addParity_78 rfl (by decide) rfl rfl rfl ?_
          refine vv_goto (tgt := 19) hC dX3_addParity_81 (by decide) ?_
          exact ih_19 (p + 1) (by first | omega | (dsimp only; omega)) (pc_apb n o r s (pc_need n (σ (pc_e e) 3) (σ (pc_e e) 2)) p (pc_apa e p τ)) (by omega) (by rw [pc_apb_o (by decide) (by decide), pc_apa_o (by decide)]; exact h2) (by rw [pc_apb_o (pc_e_ne (by decide)) (pc_e_ne (by decide)), pc_apa_o (pc_e_ne (by decide))]; exact hte) (by rw [hv, show n - p = (n - (p + 1)) + 1 by omega]; rfl)
        · refine vv_aload_n (q := 57) hC dX3_addParity_56 (x := Y.2.1 (0)) rfl rfl ?_
          refine vv_aload_n (q := 58) hC dX3_addParity_57 (x := Y.2.1 (pc_e e)) rfl rfl ?_
          refine pc_gEN (q := 61) hY hC (by omega) 1 hi_X1 nw_X3_186 (by decide) rfl (v := .int ((pc_apa e p τ) (pc_e e) 1)) rfl dX3_addParity_58 rfl ?_
          refine vv_top (y := nI (s)) (by rw [pc_apa_o (pc_e_ne (by decide))]; exact hte) ?_
          refine vv_iload_n (q := 62) hC dX3_addParity_61 (x := nI (p)) rfl rfl ?_
          refine vv_callV (n := 2) (k := 0) (As := [.int (nI (s)), .int (nI (p))]) (st := []) (q := 65) hC (hY.k (by decide)) (hY.P _) (by rw [hY.cl]; rfl) (cm_X3_mixNewest _ Y n hY (pc_apa e p τ) o r s p (by rw [pc_apa_o (by decide), h2]; exact ho) ho11 (by rw [pc_apa_o (by decide), h2]; exact hr) hr10 (by omega) (by omega)) gX3_addParity_X3_mixNewest rfl (by decide +kernel) dX3_addParity_62 rfl rfl rfl (vv_kR ?_)
          refine vv_ifB_eq (b := pc_lat (pc_apa e p τ) o s p r = none) (q := 68) (tgt := 78) hC dX3_addParity_65 (by decide) rfl (fun c_65 => ?_) (fun c_65 => ?_)
          · refine vv_st (σ' := pc_apb n o r s (pc_need n (σ (pc_e e) 3) (σ (pc_e e) 2)) p (pc_apa e p τ)) (by unfold pc_apb; rw [if_pos c_53, if_neg c_65]) ?_
            refine vv_iincN (x := p) (L' := [(0, .ref (Y.2.1 (0))), (1, .ref (Y.2.1 (pc_e e))), (2, .int (pc_need n (σ (pc_e e) 3) (σ (pc_e e) 2))), (3, .int (nI (p + 1)))]) (q := 81) hC dX3_addParity_78 rfl (by decide) rfl rfl rfl ?_
            refine vv_goto (tgt := 19) hC dX3_addParity_81 (by decide) ?_
            exact ih_19 (p + 1) (by first | omega | (dsimp only; omega)) (pc_apb n o r s (pc_need n (σ (pc_e e) 3) (σ (pc_e e) 2)) p (pc_apa e p τ)) (by omega) (by rw [pc_apb_o (by decide) (by decide), pc_apa_o (by decide)]; exact h2) (by rw [pc_apb_o (pc_e_ne (by decide)) (pc_e_ne (by decide)), pc_apa_o (pc_e_ne (by decide))]; exact hte) (by rw [hv, show n - p = (n - (p + 1)) + 1 by omega]; rfl)
          · refine vv_aload_n (q := 69) hC dX3_addParity_68 (x := Y.2.1 (0)) rfl rfl ?_
            refine pc_gP (q := 72) hY hC 4 hi_X3 hf_tally (by decide) rfl (v := .ref (Y.2.1 (4))) rfl dX3_addParity_69 rfl ?_
            refine vv_iconst (q := 73) hC (nI 3) dX3_addParity_72 (by decide) rfl ?_
            refine vv_dup2 (q := 74) hC dX3_addParity_73 rfl rfl rfl ?_
            refine pc_ld_tally (q := 75) hY hC (i := 3) (by omega) dX3_addParity_74 rfl ?_
            refine vv_iconst (q := 76) hC (nI 1) dX3_addParity_75 (by decide) rfl ?_
            refine vv_iadd (x := (vv_row (pc_apa e p τ) 5 (pc_mxn (pc_apa e p τ) n o r s p)) 4 3) (y := nI (1)) (q := 77) hC dX3_addParity_76 rfl ?_
            refine pc_st_tally (q := 78) hY hC (i := 3) (x := ((vv_row (pc_apa e p τ) 5 (pc_mxn (pc_apa e p τ) n o r s p)) 4 3) + (nI (1))) (by omega) dX3_addParity_77 rfl ?_
            refine vv_st (σ' := pc_apb n o r s (pc_need n (σ (pc_e e) 3) (σ (pc_e e) 2)) p (pc_apa e p τ)) (by unfold pc_apb; rw [if_pos c_53, if_pos c_65]; rfl) ?_
            refine vv_iincN (x := p) (L' := [(0, .ref (Y.2.1 (0))), (1, .ref (Y.2.1 (pc_e e))), (2, .int (pc_need n (σ (pc_e e) 3) (σ (pc_e e) 2))), (3, .int (nI (p + 1)))]) (q := 81) hC dX3_addParity_78 rfl (by decide) rfl rfl rfl ?_
            refine vv_goto (tgt := 19) hC dX3_addParity_81 (by decide) ?_
            exact ih_19 (p + 1) (by first | omega | (dsimp only; omega)) (pc_apb n o r s (pc_need n (σ (pc_e e) 3) (σ (pc_e e) 2)) p (pc_apa e p τ)) (by omega) (by rw [pc_apb_o (by decide) (by decide), pc_apa_o (by decide)]; exact h2) (by rw [pc_apb_o (pc_e_ne (by decide)) (pc_e_ne (by decide)), pc_apa_o (pc_e_ne (by decide))]; exact hte) (by rw [hv, show n - p = (n - (p + 1)) + 1 by omega]; rfl)
  exact lp_19 0 (pc_clr σ) (by omega) (vv_row_n (by decide)) (by unfold pc_clr; rw [vv_row_n (pc_e_ne (by decide))]; exact hst) rfl
set_option maxRecDepth 100000 in
set_option maxHeartbeats 4000000 in
theorem cm_X3_buildStripe (l : Launch) (Y : vv_Y) (n : Nat) (hY : pc_sys Y n) (σ : vv_S) (o : Nat) (r : Nat) (m : Nat) (s : Nat) (ho : σ 2 1 = nI o) (ho11 : o < 11) (hr : σ 2 2 = nI r) (hr10 : r ≤ 10) (hm : m < n) (hs : s < 24) (hJ0 : pc_J σ) : vv_M l Y yX3_buildStripe wsX3_buildStripe { frames := 5, cells := 0, slots := 0, locals := 118 } [.ref (Y.2.1 (0)), .int (nI (m)), .int (nI (s))] σ (vv_R (.int (vv_B ((pc_bst σ n o r m s).1 = true))) ((pc_bst σ n o r m s).2)) := by
  refine vv_M.of (cc := cX3_buildStripe) (maxL := 4) (ret := (some .boolean)) hY.ok (by decide) rfl (Nat.le_of_ble_eq_true rfl) ?_
  intro Z hl hp hC
  subst hl
  have hi_X0 : ∀ w ∈ u_ws RX0 TX0 6, w ∈ wsX3_buildStripe := by decide +kernel
  have hi_X3 : ∀ w ∈ u_ws RX3 TX3 10, w ∈ wsX3_buildStripe := by decide +kernel
  have hf_log : Cond.fieldLink RX3 54 "ParityRow" (TX3 3).2.1 (TX3 3).2.2.1 ∈ wsX3_buildStripe := by decide +kernel
  have hf_disks : Cond.fieldLink RX3 44 "ParityRow" (TX3 2).2.1 (TX3 2).2.2.1 ∈ wsX3_buildStripe := by decide +kernel
  have hf_tally : Cond.fieldLink RX3 9 "ParityRow" (TX3 4).2.1 (TX3 4).2.2.1 ∈ wsX3_buildStripe := by decide +kernel
  have hf_data : Cond.fieldLink RX3 39 "ParityRow" (TX3 1).2.1 (TX3 1).2.2.1 ∈ wsX3_buildStripe := by decide +kernel
  have hlo := hY.lo
  have hhi := hY.hi
  have eo : pc_o σ = o := pc_o_eq ho ho11
  have er : pc_r σ = r := pc_r_eq hr hr10
  have hq9 : pc_upto σ o s r ≤ pc_r σ := by rw [er]; exact pc_upto_le r
  have hD := pc_dr_all (n := n) (pc_upto σ o s r) σ hJ0 hq9
  obtain ⟨τ, hτ⟩ : ∃ τ, τ = (pc_dr n (pc_upto σ o s r) σ).2 := ⟨_, rfl⟩
  have hJ : pc_J τ := by rw [hτ]; exact hD.1
  refine vv_loc (L' := [(0, .ref (Y.2.1 (0))), (1, .int (nI (m))), (2, .int (nI (s)))]) rfl ?_
  refine vv_aload_n (q := 1) hC dX3_buildStripe_0 (x := Y.2.1 (0)) rfl rfl ?_
  refine vv_aload_n (q := 2) hC dX3_buildStripe_1 (x := Y.2.1 (0)) rfl rfl ?_
  refine pc_gP (q := 5) hY hC 3 hi_X3 hf_log (by decide) rfl (v := .ref (Y.2.1 (2))) rfl dX3_buildStripe_2 rfl ?_
  refine vv_iload_n (q := 6) hC dX3_buildStripe_5 (x := nI (s)) rfl rfl ?_
  refine vv_callVN (n := 1) (k := 2) (As := [.int (nI (s))]) (st := [.ref (Y.2.1 (0))]) (q := 9) hC (hY.k (by decide)) (hY.J _) (by rw [hY.cl]; rfl) (cm_X2_recordsUpTo _ Y n hY σ o r s ho ho11 hr hr10) gX3_buildStripe_X2_recordsUpTo_n292 rfl (hY.nw nw_X3_292) (by decide +kernel) (by decide +kernel) (by decide +kernel) (by decide +kernel) dX3_buildStripe_6 rfl rfl rfl (vv_kR ?_)
  refine vv_callV (n := 1) (k := 0) (As := [.int (nI (pc_upto σ o s r))]) (st := []) (q := 12) hC (hY.k (by decide)) (hY.P _) (by rw [hY.cl]; rfl) (cm_X3_drainOldest _ Y n hY σ (pc_upto σ o s r) hJ0 hq9) gX3_buildStripe_X3_drainOldest rfl (by decide +kernel) dX3_buildStripe_9 rfl rfl rfl (vv_kR ?_)
  refine vv_ifB_ne (b := (pc_dr n (pc_upto σ o s r) σ).1 = true) (q := 15) (tgt := 17) hC dX3_buildStripe_12 (by decide) rfl (fun c_12 => ?_) (fun c_12 => ?_)
  · refine vv_st (σ' := τ) (hτ.symm) ?_
    refine vv_aload_n (q := 18) hC dX3_buildStripe_17 (x := Y.2.1 (0)) rfl rfl ?_
    refine pc_gP (q := 21) hY hC 2 hi_X3 hf_disks (by decide) rfl (v := .ref (Y.2.1 (1))) rfl dX3_buildStripe_18 rfl ?_
    refine vv_iload_n (q := 22) hC dX3_buildStripe_21 (x := nI (m)) rfl rfl ?_
    refine pc_ld_disks (q := 23) (m := m) hY hC (by omega) dX3_buildStripe_22 rfl ?_
    refine vv_astore_n (L' := [(0, .ref (Y.2.1 (0))), (1, .int (nI (m))), (2, .int (nI (s))), (3, .ref (Y.2.1 (pc_d m)))]) (q := 24) hC dX3_buildStripe_23 (by decide) rfl rfl rfl ?_
    refine vv_aload_n (q := 25) hC dX3_buildStripe_24 (x := Y.2.1 (0)) rfl rfl ?_
    refine vv_iload_n (q := 26) hC dX3_buildStripe_25 (x := nI (m)) rfl rfl ?_
    refine vv_iload_n (q := 27) hC dX3_buildStripe_26 (x := nI (s)) rfl rfl ?_
    refine vv_callV (n := 2) (k := 0) (As := [.int (nI (m)), .int (nI (s))]) (st := []) (q := 30) hC (hY.k (by decide)) (hY.P _) (by rw [hY.cl]; rfl) (cm_X3_othersThere _ Y n hY τ m s (by omega) (by omega)) gX3_buildStripe_X3_othersThere rfl (by decide +kernel) dX3_buildStripe_27 rfl rfl rfl (vv_kR ?_)
    refine vv_ifB_ne (b := pc_oth τ n m s) (q := 33) (tgt := 54) hC dX3_buildStripe_30 (by decide) rfl (fun c_30 => ?_) (fun c_30 => ?_)
    · refine vv_aload_n (q := 55) hC dX3_buildStripe_54 (x := Y.2.1 (0)) rfl rfl ?_
      refine pc_gP (q := 58) hY hC 4 hi_X3 hf_tally (by decide) rfl (v := .ref (Y.2.1 (4))) rfl dX3_buildStripe_55 rfl ?_
      refine vv_iconst (q := 59) hC (nI 3) dX3_buildStripe_58 (by decide) rfl ?_
      refine vv_dup2 (q := 60) hC dX3_buildStripe_59 rfl rfl rfl ?_
      refine pc_ld_tally (q := 61) hY hC (i := 3) (by omega) dX3_buildStripe_60 rfl ?_
      refine vv_aload_n (q := 62) hC dX3_buildStripe_61 (x := Y.2.1 (0)) rfl rfl ?_
      refine pc_gP (q := 65) hY hC 1 hi_X3 hf_data (by decide) rfl (v := .int (nI (n - 1))) rfl dX3_buildStripe_62 rfl ?_
      refine vv_iadd (x := τ 4 3) (y := nI (n - 1)) (q := 66) hC dX3_buildStripe_65 rfl ?_
      refine pc_st_tally (q := 67) hY hC (i := 3) (x := (τ 4 3) + (nI (n - 1))) (by omega) dX3_buildStripe_66 rfl ?_
      refine vv_aload_n (q := 68) hC dX3_buildStripe_67 (x := Y.2.1 (0)) rfl rfl ?_
      refine vv_iload_n (q := 69) hC dX3_buildStripe_68 (x := nI (m)) rfl rfl ?_
      refine vv_iload_n (q := 70) hC dX3_buildStripe_69 (x := nI (s)) rfl rfl ?_
      refine vv_callV (n := 2) (k := 0) (As := [.int (nI (m)), .int (nI (s))]) (st := []) (q := 73) hC (hY.k (by decide)) (hY.P _) (by rw [hY.cl]; rfl) (cm_X3_putOthersXor _ Y n hY (vv_up τ 4 3 ((τ 4 3) + (nI (n - 1)))) m s (by omega) (by omega)) gX3_buildStripe_X3_putOthersXor rfl (by decide +kernel) dX3_buildStripe_70 rfl rfl rfl (vv_kR ?_)
      refine vv_ifB_ne (b := ¬ (vv_up τ 4 3 ((τ 4 3) + (nI (n - 1)))) 0 7 = 0) (q := 76) (tgt := 78) hC dX3_buildStripe_73 (by decide) rfl (fun c_73 => ?_) (fun c_73 => ?_)
      · refine vv_st (σ' := pc_bs1 τ n m s) (by unfold pc_bs1; rw [if_pos c_30]) ?_
        refine vv_aload_n (q := 79) hC dX3_buildStripe_78 (x := Y.2.1 (pc_d m)) rfl rfl ?_
        refine vv_iload_n (q := 80) hC dX3_buildStripe_79 (x := nI (s)) rfl rfl ?_
        refine vv_iconst (q := 81) hC (nI 1) dX3_buildStripe_80 (by decide) rfl ?_
        refine vv_addN (x := s) (y := 1) (q := 82) hC dX3_buildStripe_81 rfl ?_
        refine pc_pDN (q := 85) hY hC (by omega) 4 hi_X0 nw_X3_123 (by decide) rfl rfl (x := nI (s + 1)) (ty := .int) (by decide +kernel) rfl rfl (fun _ => rfl) dX3_buildStripe_82 rfl ?_
        refine vv_st (σ' := pc_bs2 τ n m s) (rfl) ?_
        refine vv_aload_n (q := 86) hC dX3_buildStripe_85 (x := Y.2.1 (pc_d m)) rfl rfl ?_
        refine pc_gDN (q := 89) hY hC (by omega) 4 hi_X0 nw_X3_123 (by decide) rfl (v := .int ((pc_bs2 τ n m s) (pc_d m) 4)) rfl dX3_buildStripe_86 rfl ?_
        refine vv_top (y := nI (s + 1)) (by unfold pc_bs2; rw [vv_up_s, vv_upd_s]) ?_
        refine vv_bipush (q := 91) hC (nI 24) dX3_buildStripe_89 (by decide) rfl ?_
        refine vv_icmpN_ge (x := s + 1) (y := 24) (q := 94) (tgt := 96) hC dX3_buildStripe_91 (by decide) (by omega) (by omega) rfl (fun c_91 => ?_) (fun c_91 => ?_)
        · refine vv_aload_n (q := 97) hC dX3_buildStripe_96 (x := Y.2.1 (0)) rfl rfl ?_
          refine vv_iconst (q := 98) hC (nI 0) dX3_buildStripe_97 (by decide) rfl ?_
          refine vv_callV (n := 1) (k := 0) (As := [.int (nI (0))]) (st := []) (q := 101) hC (hY.k (by decide)) (hY.P _) (by rw [hY.cl]; rfl) (cm_X3_putMark _ Y n hY (pc_bs2 τ n m s) (pc_o τ) (pc_r τ) 0 (by rw [pc_bs2_o (by decide) (by decide) (by decide) (by decide)]; exact hJ.1) hJ.2.1 (by rw [pc_bs2_o (by decide) (by decide) (by decide) (by decide)]; exact hJ.2.2.1) hJ.2.2.2.1 (Nat.zero_le _)) gX3_buildStripe_X3_putMark rfl (by decide +kernel) dX3_buildStripe_98 rfl rfl rfl (vv_kR ?_)
          refine vv_ifB_ne (b := ¬ (pc_bs2 τ n m s) 0 7 = 0) (q := 104) (tgt := 106) hC dX3_buildStripe_101 (by decide) rfl (fun c_101 => ?_) (fun c_101 => ?_)
          · refine vv_aload_n (q := 107) hC dX3_buildStripe_106 (x := Y.2.1 (pc_d m)) rfl rfl ?_
            refine vv_iconst (q := 108) hC (nI 0) dX3_buildStripe_107 (by decide) rfl ?_
            refine pc_pDN (q := 111) hY hC (by omega) 3 hi_X0 nw_X3_120 (by decide) rfl rfl (x := nI (0)) (ty := .int) (by decide +kernel) rfl rfl (fun _ => rfl) dX3_buildStripe_108 rfl ?_
            refine vv_iconst (q := 112) hC (nI 1) dX3_buildStripe_111 (by decide) rfl ?_
            refine vv_zret (v := nI (1)) hC (by first | rfl | decide) dX3_buildStripe_112 ?_
            rw [hp]
            unfold pc_bst
            rw [if_pos c_12, ← hτ, if_neg (fun z => c_73 z.2), if_neg (by omega), if_neg c_101]
            exact ⟨congrArg (fun z => some (Value.int z)) (vv_B1 rfl).symm, rfl⟩
          · refine vv_iconst (q := 105) hC (nI 0) dX3_buildStripe_104 (by decide) rfl ?_
            refine vv_zret (v := nI (0)) hC (by first | rfl | decide) dX3_buildStripe_105 ?_
            rw [hp]
            unfold pc_bst
            rw [if_pos c_12, ← hτ, if_neg (fun z => c_73 z.2), if_neg (by omega), if_pos (Decidable.of_not_not c_101)]
            exact ⟨congrArg (fun z => some (Value.int z)) (vv_B0 (fun h => by cases h)).symm, rfl⟩
        · refine vv_iconst (q := 95) hC (nI 1) dX3_buildStripe_94 (by decide) rfl ?_
          refine vv_zret (v := nI (1)) hC (by first | rfl | decide) dX3_buildStripe_95 ?_
          rw [hp]
          unfold pc_bst
          rw [if_pos c_12, ← hτ, if_neg (fun z => c_73 z.2), if_pos (by omega)]
          exact ⟨congrArg (fun z => some (Value.int z)) (vv_B1 rfl).symm, rfl⟩
      · refine vv_iconst (q := 77) hC (nI 0) dX3_buildStripe_76 (by decide) rfl ?_
        refine vv_zret (v := nI (0)) hC (by first | rfl | decide) dX3_buildStripe_77 ?_
        rw [hp]
        unfold pc_bst
        rw [if_pos c_12, ← hτ, if_pos ⟨c_30, Decidable.of_not_not c_73⟩]
        exact ⟨congrArg (fun z => some (Value.int z)) (vv_B0 (fun h => by cases h)).symm, by show _ = pc_bs1 τ n m s; unfold pc_bs1; rw [if_pos c_30]⟩
    · refine vv_aload_n (q := 34) hC dX3_buildStripe_33 (x := Y.2.1 (pc_d m)) rfl rfl ?_
      refine pc_gDN (q := 37) hY hC (by omega) 2 hi_X0 nw_X3_156 (by decide) rfl (v := .ref (Y.2.1 (pc_d m + 3))) rfl dX3_buildStripe_34 rfl ?_
      refine vv_iload_n (q := 38) hC dX3_buildStripe_37 (x := nI (s)) rfl rfl ?_
      refine vv_iconst (q := 39) hC (nI 1) dX3_buildStripe_38 (by decide) rfl ?_
      refine pc_st_dt (q := 40) hY hC (by omega) (i := s) (x := nI (1)) (by omega) dX3_buildStripe_39 rfl ?_
      refine vv_aload_n (q := 41) hC dX3_buildStripe_40 (x := Y.2.1 (0)) rfl rfl ?_
      refine pc_gP (q := 44) hY hC 4 hi_X3 hf_tally (by decide) rfl (v := .ref (Y.2.1 (4))) rfl dX3_buildStripe_41 rfl ?_
      refine vv_bipush (q := 46) hC (nI 8) dX3_buildStripe_44 (by decide) rfl ?_
      refine vv_dup2 (q := 47) hC dX3_buildStripe_46 rfl rfl rfl ?_
      refine pc_ld_tally (q := 48) hY hC (i := 8) (by omega) dX3_buildStripe_47 rfl ?_
      refine vv_iconst (q := 49) hC (nI 1) dX3_buildStripe_48 (by decide) rfl ?_
      refine vv_iadd (x := (vv_up τ (pc_d m + 3) s (vp_nar .boolean (nI (1)))) 4 8) (y := nI (1)) (q := 50) hC dX3_buildStripe_49 rfl ?_
      refine pc_st_tally (q := 51) hY hC (i := 8) (x := ((vv_up τ (pc_d m + 3) s (vp_nar .boolean (nI (1)))) 4 8) + (nI (1))) (by omega) dX3_buildStripe_50 rfl ?_
      refine vv_goto (tgt := 78) hC dX3_buildStripe_51 (by decide) ?_
      refine vv_st (σ' := pc_bs1 τ n m s) (by unfold pc_bs1; rw [if_neg c_30, show vp_nar .boolean (nI 1) = nI 1 from by decide]; rfl) ?_
      refine vv_aload_n (q := 79) hC dX3_buildStripe_78 (x := Y.2.1 (pc_d m)) rfl rfl ?_
      refine vv_iload_n (q := 80) hC dX3_buildStripe_79 (x := nI (s)) rfl rfl ?_
      refine vv_iconst (q := 81) hC (nI 1) dX3_buildStripe_80 (by decide) rfl ?_
      refine vv_addN (x := s) (y := 1) (q := 82) hC dX3_buildStripe_81 rfl ?_
      refine pc_pDN (q := 85) hY hC (by omega) 4 hi_X0 nw_X3_123 (by decide) rfl rfl (x := nI (s + 1)) (ty := .int) (by decide +kernel) rfl rfl (fun _ => rfl) dX3_buildStripe_82 rfl ?_
      refine vv_st (σ' := pc_bs2 τ n m s) (rfl) ?_
      refine vv_aload_n (q := 86) hC dX3_buildStripe_85 (x := Y.2.1 (pc_d m)) rfl rfl ?_
      refine pc_gDN (q := 89) hY hC (by omega) 4 hi_X0 nw_X3_123 (by decide) rfl (v := .int ((pc_bs2 τ n m s) (pc_d m) 4)) rfl dX3_buildStripe_86 rfl ?_
      refine vv_top (y := nI (s + 1)) (by unfold pc_bs2; rw [vv_up_s, vv_upd_s]) ?_
      refine vv_bipush (q := 91) hC (nI 24) dX3_buildStripe_89 (by decide) rfl ?_
      refine vv_icmpN_ge (x := s + 1) (y := 24) (q := 94) (tgt := 96) hC dX3_buildStripe_91 (by decide) (by omega) (by omega) rfl (fun c_91 => ?_) (fun c_91 => ?_)
      · refine vv_aload_n (q := 97) hC dX3_buildStripe_96 (x := Y.2.1 (0)) rfl rfl ?_
        refine vv_iconst (q := 98) hC (nI 0) dX3_buildStripe_97 (by decide) rfl ?_
        refine vv_callV (n := 1) (k := 0) (As := [.int (nI (0))]) (st := []) (q := 101) hC (hY.k (by decide)) (hY.P _) (by rw [hY.cl]; rfl) (cm_X3_putMark _ Y n hY (pc_bs2 τ n m s) (pc_o τ) (pc_r τ) 0 (by rw [pc_bs2_o (by decide) (by decide) (by decide) (by decide)]; exact hJ.1) hJ.2.1 (by rw [pc_bs2_o (by decide) (by decide) (by decide) (by decide)]; exact hJ.2.2.1) hJ.2.2.2.1 (Nat.zero_le _)) gX3_buildStripe_X3_putMark rfl (by decide +kernel) dX3_buildStripe_98 rfl rfl rfl (vv_kR ?_)
        refine vv_ifB_ne (b := ¬ (pc_bs2 τ n m s) 0 7 = 0) (q := 104) (tgt := 106) hC dX3_buildStripe_101 (by decide) rfl (fun c_101 => ?_) (fun c_101 => ?_)
        · refine vv_aload_n (q := 107) hC dX3_buildStripe_106 (x := Y.2.1 (pc_d m)) rfl rfl ?_
          refine vv_iconst (q := 108) hC (nI 0) dX3_buildStripe_107 (by decide) rfl ?_
          refine pc_pDN (q := 111) hY hC (by omega) 3 hi_X0 nw_X3_120 (by decide) rfl rfl (x := nI (0)) (ty := .int) (by decide +kernel) rfl rfl (fun _ => rfl) dX3_buildStripe_108 rfl ?_
          refine vv_iconst (q := 112) hC (nI 1) dX3_buildStripe_111 (by decide) rfl ?_
          refine vv_zret (v := nI (1)) hC (by first | rfl | decide) dX3_buildStripe_112 ?_
          rw [hp]
          unfold pc_bst
          rw [if_pos c_12, ← hτ, if_neg (fun z => c_30 z.1), if_neg (by omega), if_neg c_101]
          exact ⟨congrArg (fun z => some (Value.int z)) (vv_B1 rfl).symm, rfl⟩
        · refine vv_iconst (q := 105) hC (nI 0) dX3_buildStripe_104 (by decide) rfl ?_
          refine vv_zret (v := nI (0)) hC (by first | rfl | decide) dX3_buildStripe_105 ?_
          rw [hp]
          unfold pc_bst
          rw [if_pos c_12, ← hτ, if_neg (fun z => c_30 z.1), if_neg (by omega), if_pos (Decidable.of_not_not c_101)]
          exact ⟨congrArg (fun z => some (Value.int z)) (vv_B0 (fun h => by cases h)).symm, rfl⟩
      · refine vv_iconst (q := 95) hC (nI 1) dX3_buildStripe_94 (by decide) rfl ?_
        refine vv_zret (v := nI (1)) hC (by first | rfl | decide) dX3_buildStripe_95 ?_
        rw [hp]
        unfold pc_bst
        rw [if_pos c_12, ← hτ, if_neg (fun z => c_30 z.1), if_pos (by omega)]
        exact ⟨congrArg (fun z => some (Value.int z)) (vv_B1 rfl).symm, rfl⟩
  · refine vv_iconst (q := 16) hC (nI 0) dX3_buildStripe_15 (by decide) rfl ?_
    refine vv_zret (v := nI (0)) hC (by first | rfl | decide) dX3_buildStripe_16 ?_
    rw [hp]
    unfold pc_bst
    rw [if_neg c_12]
    exact ⟨congrArg (fun z => some (Value.int z)) (vv_B0 (fun h => by cases h)).symm, rfl⟩
set_option maxRecDepth 100000 in
set_option maxHeartbeats 4000000 in
theorem cm_X3_scrubStripe (l : Launch) (Y : vv_Y) (n : Nat) (hY : pc_sys Y n) (σ : vv_S) (s : Nat) (hs : s < 24) : vv_M l Y yX3_scrubStripe wsX3_scrubStripe { frames := 4, cells := 0, slots := 0, locals := 95 } [.ref (Y.2.1 (0)), .int (nI (s))] σ (vv_R (.int (vv_B ((pc_sst σ n s).1 = true))) ((pc_sst σ n s).2)) := by
  refine vv_M.of (cc := cX3_scrubStripe) (maxL := 3) (ret := (some .boolean)) hY.ok (by decide) rfl (Nat.le_of_ble_eq_true rfl) ?_
  intro Z hl hp hC
  subst hl
  have hi_X3 : ∀ w ∈ u_ws RX3 TX3 10, w ∈ wsX3_scrubStripe := by decide +kernel
  have hf_tally : Cond.fieldLink RX3 9 "ParityRow" (TX3 4).2.1 (TX3 4).2.2.1 ∈ wsX3_scrubStripe := by decide +kernel
  have hf_width : Cond.fieldLink RX3 36 "ParityRow" (TX3 0).2.1 (TX3 0).2.2.1 ∈ wsX3_scrubStripe := by decide +kernel
  have hlo := hY.lo
  have hhi := hY.hi
  have hcn : pc_cnt (pc_sc0 σ n) s n ≤ n := pc_cnt_le
  have hfn : pc_fnt (pc_sc0 σ n) s (n - 1) 0 < n := by have := pc_fnt_le (σ := pc_sc0 σ n) (s := s) (n - 1) 0; omega
  refine vv_loc (L' := [(0, .ref (Y.2.1 (0))), (1, .int (nI (s)))]) rfl ?_
  refine vv_aload_n (q := 1) hC dX3_scrubStripe_0 (x := Y.2.1 (0)) rfl rfl ?_
  refine pc_gP (q := 4) hY hC 4 hi_X3 hf_tally (by decide) rfl (v := .ref (Y.2.1 (4))) rfl dX3_scrubStripe_1 rfl ?_
  refine vv_iconst (q := 5) hC (nI 3) dX3_scrubStripe_4 (by decide) rfl ?_
  refine vv_dup2 (q := 6) hC dX3_scrubStripe_5 rfl rfl rfl ?_
  refine pc_ld_tally (q := 7) hY hC (i := 3) (by omega) dX3_scrubStripe_6 rfl ?_
  refine vv_aload_n (q := 8) hC dX3_scrubStripe_7 (x := Y.2.1 (0)) rfl rfl ?_
  refine pc_gP (q := 11) hY hC 0 hi_X3 hf_width (by decide) rfl (v := .int (nI (n))) rfl dX3_scrubStripe_8 rfl ?_
  refine vv_iadd (x := σ 4 3) (y := nI (n)) (q := 12) hC dX3_scrubStripe_11 rfl ?_
  refine pc_st_tally (q := 13) hY hC (i := 3) (x := (σ 4 3) + (nI (n))) (by omega) dX3_scrubStripe_12 rfl ?_
  refine vv_st (σ' := pc_sc0 σ n) (rfl) ?_
  refine vv_aload_n (q := 14) hC dX3_scrubStripe_13 (x := Y.2.1 (0)) rfl rfl ?_
  refine vv_iload_n (q := 15) hC dX3_scrubStripe_14 (x := nI (s)) rfl rfl ?_
  refine vv_callV (n := 1) (k := 0) (As := [.int (nI (s))]) (st := []) (q := 18) hC (hY.k (by decide)) (hY.P _) (by rw [hY.cl]; rfl) (cm_X3_countNotThere _ Y n hY (pc_sc0 σ n) s (by omega)) gX3_scrubStripe_X3_countNotThere rfl (by decide +kernel) dX3_scrubStripe_15 rfl rfl rfl (vv_kR ?_)
  refine vv_istore_n (L' := [(0, .ref (Y.2.1 (0))), (1, .int (nI (s))), (2, .int (nI (pc_cnt (pc_sc0 σ n) s n)))]) (q := 19) hC dX3_scrubStripe_18 (by decide) rfl rfl rfl ?_
  refine vv_iload_n (q := 20) hC dX3_scrubStripe_19 (x := nI (pc_cnt (pc_sc0 σ n) s n)) rfl rfl ?_
  refine vv_iconst (q := 21) hC (nI 1) dX3_scrubStripe_20 (by decide) rfl ?_
  refine vv_icmpN_gt (x := pc_cnt (pc_sc0 σ n) s n) (y := 1) (q := 24) (tgt := 36) hC dX3_scrubStripe_21 (by decide) (by omega) (by omega) rfl (fun c_21 => ?_) (fun c_21 => ?_)
  · refine vv_iconst (q := 37) hC (nI 1) dX3_scrubStripe_36 (by decide) rfl ?_
    refine vv_zret (v := nI (1)) hC (by first | rfl | decide) dX3_scrubStripe_37 ?_
    rw [hp]
    unfold pc_sst
    rw [if_pos c_21]
    exact ⟨congrArg (fun z => some (Value.int z)) (vv_B1 rfl).symm, rfl⟩
  · refine vv_iload_n (q := 25) hC dX3_scrubStripe_24 (x := nI (pc_cnt (pc_sc0 σ n) s n)) rfl rfl ?_
    refine vv_if_ne (x := nI (pc_cnt (pc_sc0 σ n) s n)) (q := 28) (tgt := 38) hC dX3_scrubStripe_25 (by decide) rfl (fun c_25 => ?_) (fun c_25 => ?_)
    · refine vv_aload_n (q := 39) hC dX3_scrubStripe_38 (x := Y.2.1 (0)) rfl rfl ?_
      refine vv_iload_n (q := 40) hC dX3_scrubStripe_39 (x := nI (pc_cnt (pc_sc0 σ n) s n)) rfl rfl ?_
      refine vv_if_ne (x := nI (pc_cnt (pc_sc0 σ n) s n)) (q := 43) (tgt := 51) hC dX3_scrubStripe_40 (by decide) rfl (fun c_40 => ?_) (fun c_40 => absurd c_40 c_25)
      refine vv_aload_n (q := 52) hC dX3_scrubStripe_51 (x := Y.2.1 (0)) rfl rfl ?_
      refine vv_iload_n (q := 53) hC dX3_scrubStripe_52 (x := nI (s)) rfl rfl ?_
      refine vv_callV (n := 1) (k := 0) (As := [.int (nI (s))]) (st := [.ref (Y.2.1 (0))]) (q := 56) hC (hY.k (by decide)) (hY.P _) (by rw [hY.cl]; rfl) (cm_X3_firstNotThere _ Y n hY ((pc_sc0 σ n)) s (by omega)) gX3_scrubStripe_X3_firstNotThere rfl (by decide +kernel) dX3_scrubStripe_53 rfl rfl rfl (vv_kR ?_)
      refine vv_iload_n (q := 57) hC dX3_scrubStripe_56 (x := nI (s)) rfl rfl ?_
      refine vv_callV (n := 2) (k := 0) (As := [.int (nI (pc_fnt ((pc_sc0 σ n)) s (n - 1) 0)), .int (nI (s))]) (st := []) (q := 60) hC (hY.k (by decide)) (hY.P _) (by rw [hY.cl]; rfl) (cm_X3_putOthersXor _ Y n hY (((pc_sc0 σ n))) (pc_fnt ((pc_sc0 σ n)) s (n - 1) 0) s (by omega) (by omega)) gX3_scrubStripe_X3_putOthersXor rfl (by decide +kernel) dX3_scrubStripe_57 rfl rfl rfl (vv_kR ?_)
      refine vv_ifB_ne (b := ¬ (((pc_sc0 σ n))) 0 7 = 0) (q := 63) (tgt := 65) hC dX3_scrubStripe_60 (by decide) rfl (fun c_60 => ?_) (fun c_60 => ?_)
      · refine vv_aload_n (q := 66) hC dX3_scrubStripe_65 (x := Y.2.1 (0)) rfl rfl ?_
        refine pc_gP (q := 69) hY hC 4 hi_X3 hf_tally (by decide) rfl (v := .ref (Y.2.1 (4))) rfl dX3_scrubStripe_66 rfl ?_
        refine vv_bipush (q := 71) hC (nI 7) dX3_scrubStripe_69 (by decide) rfl ?_
        refine vv_dup2 (q := 72) hC dX3_scrubStripe_71 rfl rfl rfl ?_
        refine pc_ld_tally (q := 73) hY hC (i := 7) (by omega) dX3_scrubStripe_72 rfl ?_
        refine vv_iconst (q := 74) hC (nI 1) dX3_scrubStripe_73 (by decide) rfl ?_
        refine vv_iadd (x := (pc_pox (((pc_sc0 σ n))) n (pc_fnt ((pc_sc0 σ n)) s (n - 1) 0) s) 4 7) (y := nI (1)) (q := 75) hC dX3_scrubStripe_74 rfl ?_
        refine pc_st_tally (q := 76) hY hC (i := 7) (x := ((pc_pox (((pc_sc0 σ n))) n (pc_fnt ((pc_sc0 σ n)) s (n - 1) 0) s) 4 7) + (nI (1))) (by omega) dX3_scrubStripe_75 rfl ?_
        refine vv_iconst (q := 77) hC (nI 1) dX3_scrubStripe_76 (by decide) rfl ?_
        refine vv_zret (v := nI (1)) hC (by first | rfl | decide) dX3_scrubStripe_77 ?_
        rw [hp]
        unfold pc_sst
        rw [if_neg c_21, if_neg (fun z => c_25 (by rw [z]; rfl)), if_neg c_60]
        exact ⟨congrArg (fun z => some (Value.int z)) (vv_B1 rfl).symm, rfl⟩
      · refine vv_iconst (q := 64) hC (nI 0) dX3_scrubStripe_63 (by decide) rfl ?_
        refine vv_zret (v := nI (0)) hC (by first | rfl | decide) dX3_scrubStripe_64 ?_
        rw [hp]
        unfold pc_sst
        rw [if_neg c_21, if_neg (fun z => c_25 (by rw [z]; rfl)), if_pos (Decidable.of_not_not c_60)]
        exact ⟨congrArg (fun z => some (Value.int z)) (vv_B0 (fun h => by cases h)).symm, rfl⟩
    · refine vv_aload_n (q := 29) hC dX3_scrubStripe_28 (x := Y.2.1 (0)) rfl rfl ?_
      refine vv_iload_n (q := 30) hC dX3_scrubStripe_29 (x := nI (s)) rfl rfl ?_
      refine vv_callV (n := 1) (k := 0) (As := [.int (nI (s))]) (st := []) (q := 33) hC (hY.k (by decide)) (hY.P _) (by rw [hY.cl]; rfl) (cm_X3_xorIsZero _ Y n hY ((pc_sc0 σ n)) s (by omega)) gX3_scrubStripe_X3_xorIsZero rfl (by decide +kernel) dX3_scrubStripe_30 rfl rfl rfl (vv_kR ?_)
      refine vv_st (σ' := pc_scx σ n s) (rfl) ?_
      refine vv_ifB_eq (b := pc_z8 (pc_xst ((pc_sc0 σ n)) n (-1) s 5) = true) (q := 36) (tgt := 38) hC dX3_scrubStripe_33 (by decide) rfl (fun c_33 => ?_) (fun c_33 => ?_)
      · refine vv_aload_n (q := 39) hC dX3_scrubStripe_38 (x := Y.2.1 (0)) rfl rfl ?_
        refine vv_iload_n (q := 40) hC dX3_scrubStripe_39 (x := nI (pc_cnt (pc_sc0 σ n) s n)) rfl rfl ?_
        refine vv_if_ne (x := nI (pc_cnt (pc_sc0 σ n) s n)) (q := 43) (tgt := 51) hC dX3_scrubStripe_40 (by decide) rfl (fun c_40 => absurd c_25 c_40) (fun c_40 => ?_)
        refine vv_aload_n (q := 44) hC dX3_scrubStripe_43 (x := Y.2.1 (0)) rfl rfl ?_
        refine vv_iload_n (q := 45) hC dX3_scrubStripe_44 (x := nI (s)) rfl rfl ?_
        refine vv_callV (n := 1) (k := 0) (As := [.int (nI (s))]) (st := [.ref (Y.2.1 (0))]) (q := 48) hC (hY.k (by decide)) (hY.P _) (by rw [hY.cl]; rfl) (cm_X3_parityMember _ Y n hY (pc_scx σ n s) s (by omega)) gX3_scrubStripe_X3_parityMember rfl (by decide +kernel) dX3_scrubStripe_45 rfl rfl rfl (vv_kR ?_)
        refine vv_goto (tgt := 56) hC dX3_scrubStripe_48 (by decide) ?_
        refine vv_iload_n (q := 57) hC dX3_scrubStripe_56 (x := nI (s)) rfl rfl ?_
        refine vv_callV (n := 2) (k := 0) (As := [.int (nI (pc_pm n s)), .int (nI (s))]) (st := []) (q := 60) hC (hY.k (by decide)) (hY.P _) (by rw [hY.cl]; rfl) (cm_X3_putOthersXor _ Y n hY ((pc_scx σ n s)) (pc_pm n s) s (pc_pm_lt hlo) (by omega)) gX3_scrubStripe_X3_putOthersXor rfl (by decide +kernel) dX3_scrubStripe_57 rfl rfl rfl (vv_kR ?_)
        refine vv_ifB_ne (b := ¬ ((pc_scx σ n s)) 0 7 = 0) (q := 63) (tgt := 65) hC dX3_scrubStripe_60 (by decide) rfl (fun c_60 => ?_) (fun c_60 => ?_)
        · refine vv_aload_n (q := 66) hC dX3_scrubStripe_65 (x := Y.2.1 (0)) rfl rfl ?_
          refine pc_gP (q := 69) hY hC 4 hi_X3 hf_tally (by decide) rfl (v := .ref (Y.2.1 (4))) rfl dX3_scrubStripe_66 rfl ?_
          refine vv_bipush (q := 71) hC (nI 7) dX3_scrubStripe_69 (by decide) rfl ?_
          refine vv_dup2 (q := 72) hC dX3_scrubStripe_71 rfl rfl rfl ?_
          refine pc_ld_tally (q := 73) hY hC (i := 7) (by omega) dX3_scrubStripe_72 rfl ?_
          refine vv_iconst (q := 74) hC (nI 1) dX3_scrubStripe_73 (by decide) rfl ?_
          refine vv_iadd (x := (pc_pox ((pc_scx σ n s)) n (pc_pm n s) s) 4 7) (y := nI (1)) (q := 75) hC dX3_scrubStripe_74 rfl ?_
          refine pc_st_tally (q := 76) hY hC (i := 7) (x := ((pc_pox ((pc_scx σ n s)) n (pc_pm n s) s) 4 7) + (nI (1))) (by omega) dX3_scrubStripe_75 rfl ?_
          refine vv_iconst (q := 77) hC (nI 1) dX3_scrubStripe_76 (by decide) rfl ?_
          refine vv_zret (v := nI (1)) hC (by first | rfl | decide) dX3_scrubStripe_77 ?_
          rw [hp]
          unfold pc_sst
          rw [if_neg c_21, if_pos ((nI_eq (b := 0) (by omega) (by decide)).mp c_25), if_neg (show ¬ pc_z8 (pc_scx σ n s 5) = true from c_33), if_neg c_60]
          exact ⟨congrArg (fun z => some (Value.int z)) (vv_B1 rfl).symm, rfl⟩
        · refine vv_iconst (q := 64) hC (nI 0) dX3_scrubStripe_63 (by decide) rfl ?_
          refine vv_zret (v := nI (0)) hC (by first | rfl | decide) dX3_scrubStripe_64 ?_
          rw [hp]
          unfold pc_sst
          rw [if_neg c_21, if_pos ((nI_eq (b := 0) (by omega) (by decide)).mp c_25), if_neg (show ¬ pc_z8 (pc_scx σ n s 5) = true from c_33), if_pos (Decidable.of_not_not c_60)]
          exact ⟨congrArg (fun z => some (Value.int z)) (vv_B0 (fun h => by cases h)).symm, rfl⟩
      · refine vv_iconst (q := 37) hC (nI 1) dX3_scrubStripe_36 (by decide) rfl ?_
        refine vv_zret (v := nI (1)) hC (by first | rfl | decide) dX3_scrubStripe_37 ?_
        rw [hp]
        unfold pc_sst
        rw [if_neg c_21, if_pos ((nI_eq (b := 0) (by omega) (by decide)).mp c_25), if_pos (show pc_z8 (pc_scx σ n s 5) = true from c_33)]
        exact ⟨congrArg (fun z => some (Value.int z)) (vv_B1 rfl).symm, rfl⟩
