set_option maxRecDepth 100000 in
set_option maxHeartbeats 4000000 in
theorem cm_J6_bitCount_0f7a4 (l : Launch) (Y : vv_Y) (n : Nat) (hY : pc_sys Y n) (σ : vv_S) (x : Int32) : vv_M l Y yJ6_bitCount_0f7a4 wsJ6_bitCount_0f7a4 { frames := 0, cells := 0, slots := 0, locals := 0 } [.int (x)] σ (vv_R (.int (pc_bc x)) σ) := by
  refine vv_M.of (cc := cJ6_bitCount_0f7a4) (maxL := 1) (ret := (some .int)) hY.ok (by decide) rfl (Nat.le_of_ble_eq_true rfl) ?_
  intro Z hl hp hC
  subst hl
  have hlo := hY.lo
  have hhi := hY.hi
  refine vv_loc (L' := [(0, .int (x))]) rfl ?_
  refine vv_iload_n (q := 1) hC dJ6_bitCount_0f7a4_0 (x := x) rfl rfl ?_
  refine vv_iload_n (q := 2) hC dJ6_bitCount_0f7a4_1 (x := x) rfl rfl ?_
  refine vv_iconst (q := 3) hC (nI 1) dJ6_bitCount_0f7a4_2 (by decide) rfl ?_
  refine vv_iushr (x := x) (y := nI (1)) (q := 4) hC dJ6_bitCount_0f7a4_3 rfl ?_
  refine vv_ldc (v := 1431655765) (q := 7) hC (by decide +kernel) dJ6_bitCount_0f7a4_4 rfl ?_
  refine vv_iand (x := pc_ushr x (nI (1))) (y := 1431655765) (q := 8) hC dJ6_bitCount_0f7a4_7 rfl ?_
  refine vv_isub (x := x) (y := (pc_ushr x (nI (1))) &&& 1431655765) (q := 9) hC dJ6_bitCount_0f7a4_8 rfl ?_
  refine vv_istore_n (L' := [(0, .int (x - ((pc_ushr x (nI (1))) &&& 1431655765)))]) (q := 10) hC dJ6_bitCount_0f7a4_9 (by decide) rfl rfl rfl ?_
  refine vv_loc (L' := [(0, .int (pc_bc1 x))]) (rfl) ?_
  refine vv_iload_n (q := 11) hC dJ6_bitCount_0f7a4_10 (x := pc_bc1 x) rfl rfl ?_
  refine vv_ldc (v := 858993459) (q := 14) hC (by decide +kernel) dJ6_bitCount_0f7a4_11 rfl ?_
  refine vv_iand (x := pc_bc1 x) (y := 858993459) (q := 15) hC dJ6_bitCount_0f7a4_14 rfl ?_
  refine vv_iload_n (q := 16) hC dJ6_bitCount_0f7a4_15 (x := pc_bc1 x) rfl rfl ?_
  refine vv_iconst (q := 17) hC (nI 2) dJ6_bitCount_0f7a4_16 (by decide) rfl ?_
  refine vv_iushr (x := pc_bc1 x) (y := nI (2)) (q := 18) hC dJ6_bitCount_0f7a4_17 rfl ?_
  refine vv_ldc (v := 858993459) (q := 21) hC (by decide +kernel) dJ6_bitCount_0f7a4_18 rfl ?_
  refine vv_iand (x := pc_ushr (pc_bc1 x) (nI (2))) (y := 858993459) (q := 22) hC dJ6_bitCount_0f7a4_21 rfl ?_
  refine vv_iadd (x := (pc_bc1 x) &&& 858993459) (y := (pc_ushr (pc_bc1 x) (nI (2))) &&& 858993459) (q := 23) hC dJ6_bitCount_0f7a4_22 rfl ?_
  refine vv_istore_n (L' := [(0, .int (((pc_bc1 x) &&& 858993459) + ((pc_ushr (pc_bc1 x) (nI (2))) &&& 858993459)))]) (q := 24) hC dJ6_bitCount_0f7a4_23 (by decide) rfl rfl rfl ?_
  refine vv_loc (L' := [(0, .int (pc_bc2 (pc_bc1 x)))]) (rfl) ?_
  refine vv_iload_n (q := 25) hC dJ6_bitCount_0f7a4_24 (x := pc_bc2 (pc_bc1 x)) rfl rfl ?_
  refine vv_iload_n (q := 26) hC dJ6_bitCount_0f7a4_25 (x := pc_bc2 (pc_bc1 x)) rfl rfl ?_
  refine vv_iconst (q := 27) hC (nI 4) dJ6_bitCount_0f7a4_26 (by decide) rfl ?_
  refine vv_iushr (x := pc_bc2 (pc_bc1 x)) (y := nI (4)) (q := 28) hC dJ6_bitCount_0f7a4_27 rfl ?_
  refine vv_iadd (x := pc_bc2 (pc_bc1 x)) (y := pc_ushr (pc_bc2 (pc_bc1 x)) (nI (4))) (q := 29) hC dJ6_bitCount_0f7a4_28 rfl ?_
  refine vv_ldc (v := 252645135) (q := 32) hC (by decide +kernel) dJ6_bitCount_0f7a4_29 rfl ?_
  refine vv_iand (x := (pc_bc2 (pc_bc1 x)) + (pc_ushr (pc_bc2 (pc_bc1 x)) (nI (4)))) (y := 252645135) (q := 33) hC dJ6_bitCount_0f7a4_32 rfl ?_
  refine vv_istore_n (L' := [(0, .int (((pc_bc2 (pc_bc1 x)) + (pc_ushr (pc_bc2 (pc_bc1 x)) (nI (4)))) &&& 252645135))]) (q := 34) hC dJ6_bitCount_0f7a4_33 (by decide) rfl rfl rfl ?_
  refine vv_loc (L' := [(0, .int (pc_bc3 (pc_bc2 (pc_bc1 x))))]) (rfl) ?_
  refine vv_iload_n (q := 35) hC dJ6_bitCount_0f7a4_34 (x := pc_bc3 (pc_bc2 (pc_bc1 x))) rfl rfl ?_
  refine vv_iload_n (q := 36) hC dJ6_bitCount_0f7a4_35 (x := pc_bc3 (pc_bc2 (pc_bc1 x))) rfl rfl ?_
  refine vv_bipush (q := 38) hC (nI 8) dJ6_bitCount_0f7a4_36 (by decide) rfl ?_
  refine vv_iushr (x := pc_bc3 (pc_bc2 (pc_bc1 x))) (y := nI (8)) (q := 39) hC dJ6_bitCount_0f7a4_38 rfl ?_
  refine vv_iadd (x := pc_bc3 (pc_bc2 (pc_bc1 x))) (y := pc_ushr (pc_bc3 (pc_bc2 (pc_bc1 x))) (nI (8))) (q := 40) hC dJ6_bitCount_0f7a4_39 rfl ?_
  refine vv_istore_n (L' := [(0, .int ((pc_bc3 (pc_bc2 (pc_bc1 x))) + (pc_ushr (pc_bc3 (pc_bc2 (pc_bc1 x))) (nI (8)))))]) (q := 41) hC dJ6_bitCount_0f7a4_40 (by decide) rfl rfl rfl ?_
  refine vv_loc (L' := [(0, .int (pc_bc4 (pc_bc3 (pc_bc2 (pc_bc1 x)))))]) (rfl) ?_
  refine vv_iload_n (q := 42) hC dJ6_bitCount_0f7a4_41 (x := pc_bc4 (pc_bc3 (pc_bc2 (pc_bc1 x)))) rfl rfl ?_
  refine vv_iload_n (q := 43) hC dJ6_bitCount_0f7a4_42 (x := pc_bc4 (pc_bc3 (pc_bc2 (pc_bc1 x)))) rfl rfl ?_
  refine vv_bipush (q := 45) hC (nI 16) dJ6_bitCount_0f7a4_43 (by decide) rfl ?_
  refine vv_iushr (x := pc_bc4 (pc_bc3 (pc_bc2 (pc_bc1 x)))) (y := nI (16)) (q := 46) hC dJ6_bitCount_0f7a4_45 rfl ?_
  refine vv_iadd (x := pc_bc4 (pc_bc3 (pc_bc2 (pc_bc1 x)))) (y := pc_ushr (pc_bc4 (pc_bc3 (pc_bc2 (pc_bc1 x)))) (nI (16))) (q := 47) hC dJ6_bitCount_0f7a4_46 rfl ?_
  refine vv_istore_n (L' := [(0, .int ((pc_bc4 (pc_bc3 (pc_bc2 (pc_bc1 x)))) + (pc_ushr (pc_bc4 (pc_bc3 (pc_bc2 (pc_bc1 x)))) (nI (16)))))]) (q := 48) hC dJ6_bitCount_0f7a4_47 (by decide) rfl rfl rfl ?_
  refine vv_loc (L' := [(0, .int (pc_bc5 (pc_bc4 (pc_bc3 (pc_bc2 (pc_bc1 x))))))]) (rfl) ?_
  refine vv_iload_n (q := 49) hC dJ6_bitCount_0f7a4_48 (x := pc_bc5 (pc_bc4 (pc_bc3 (pc_bc2 (pc_bc1 x))))) rfl rfl ?_
  refine vv_bipush (q := 51) hC (nI 63) dJ6_bitCount_0f7a4_49 (by decide) rfl ?_
  refine vv_iand (x := pc_bc5 (pc_bc4 (pc_bc3 (pc_bc2 (pc_bc1 x))))) (y := nI (63)) (q := 52) hC dJ6_bitCount_0f7a4_51 rfl ?_
  refine vv_iret (v := (pc_bc5 (pc_bc4 (pc_bc3 (pc_bc2 (pc_bc1 x))))) &&& (nI (63))) hC dJ6_bitCount_0f7a4_52 ?_
  rw [hp]
  exact ⟨rfl, rfl⟩
set_option maxRecDepth 100000 in
set_option maxHeartbeats 4000000 in
theorem cm_X0_isThere (l : Launch) (Y : vv_Y) (n : Nat) (hY : pc_sys Y n) (σ : vv_S) (m : Nat) (s : Nat) (hm : m < n) (hs : s < 24) : vv_M l Y yX0_isThere wsX0_isThere { frames := 1, cells := 0, slots := 0, locals := 23 } [.ref (Y.2.1 (pc_d m)), .int (nI (s))] σ (vv_R (.int (vv_B (pc_there σ m s))) σ) := by
  refine vv_M.of (cc := cX0_isThere) (maxL := 2) (ret := (some .boolean)) hY.ok (by decide) rfl (Nat.le_of_ble_eq_true rfl) ?_
  intro Z hl hp hC
  subst hl
  have hi_X0 : ∀ w ∈ u_ws RX0 TX0 6, w ∈ wsX0_isThere := by decide +kernel
  have hf_torn : Cond.fieldLink RX0 18 "ParityRow$Disk" (TX0 2).2.1 (TX0 2).2.2.1 ∈ wsX0_isThere := by decide +kernel
  have hf_sums : Cond.fieldLink RX0 15 "ParityRow$Disk" (TX0 1).2.1 (TX0 1).2.2.1 ∈ wsX0_isThere := by decide +kernel
  have hf_words : Cond.fieldLink RX0 9 "ParityRow$Disk" (TX0 0).2.1 (TX0 0).2.2.1 ∈ wsX0_isThere := by decide +kernel
  have hlo := hY.lo
  have hhi := hY.hi
  refine vv_loc (L' := [(0, .ref (Y.2.1 (pc_d m))), (1, .int (nI (s)))]) rfl ?_
  refine vv_aload_n (q := 1) hC dX0_isThere_0 (x := Y.2.1 (pc_d m)) rfl rfl ?_
  refine vv_iload_n (q := 2) hC dX0_isThere_1 (x := nI (s)) rfl rfl ?_
  refine vv_callV (n := 1) (k := pc_d m) (As := [.int (nI (s))]) (st := []) (q := 5) hC (hY.kd (j := 0) (by omega) (by decide)) (hY.D _) (by rw [hY.cl]; rfl) (cm_X0_isOn _ Y n hY σ m s (by omega) (by omega)) gX0_isThere_X0_isOn rfl (by decide +kernel) dX0_isThere_2 rfl rfl rfl (vv_kR ?_)
  refine vv_ifB_eq (b := nI s < σ (pc_d m) 4) (q := 8) (tgt := 41) hC dX0_isThere_5 (by decide) rfl (fun c_5 => ?_) (fun c_5 => ?_)
  · refine vv_iconst (q := 42) hC (nI 0) dX0_isThere_41 (by decide) rfl ?_
    refine vv_zret (v := nI (0)) hC (by first | rfl | decide) dX0_isThere_42 ?_
    rw [hp]
    exact ⟨congrArg (fun z => some (Value.int z)) (vv_B0 (by grind)).symm, rfl⟩
  · refine vv_aload_n (q := 9) hC dX0_isThere_8 (x := Y.2.1 (pc_d m)) rfl rfl ?_
    refine pc_gD (q := 12) hY hC (by omega) 2 hi_X0 hf_torn (by decide) rfl (v := .ref (Y.2.1 (pc_d m + 3))) rfl dX0_isThere_9 rfl ?_
    refine vv_iload_n (q := 13) hC dX0_isThere_12 (x := nI (s)) rfl rfl ?_
    refine pc_ld_dt (q := 14) hY hC (by omega) (i := s) (by omega) dX0_isThere_13 rfl ?_
    refine vv_if_ne (x := σ (pc_d m + 3) s) (q := 17) (tgt := 41) hC dX0_isThere_14 (by decide) rfl (fun c_14 => ?_) (fun c_14 => ?_)
    · refine vv_iconst (q := 42) hC (nI 0) dX0_isThere_41 (by decide) rfl ?_
      refine vv_zret (v := nI (0)) hC (by first | rfl | decide) dX0_isThere_42 ?_
      rw [hp]
      exact ⟨congrArg (fun z => some (Value.int z)) (vv_B0 (by grind)).symm, rfl⟩
    · refine vv_aload_n (q := 18) hC dX0_isThere_17 (x := Y.2.1 (pc_d m)) rfl rfl ?_
      refine pc_gD (q := 21) hY hC (by omega) 1 hi_X0 hf_sums (by decide) rfl (v := .ref (Y.2.1 (pc_d m + 2))) rfl dX0_isThere_18 rfl ?_
      refine vv_iload_n (q := 22) hC dX0_isThere_21 (x := nI (s)) rfl rfl ?_
      refine pc_ld_ds (q := 23) hY hC (by omega) (i := s) (by omega) dX0_isThere_22 rfl ?_
      refine vv_aload_n (q := 24) hC dX0_isThere_23 (x := Y.2.1 (pc_d m)) rfl rfl ?_
      refine pc_gD (q := 27) hY hC (by omega) 0 hi_X0 hf_words (by decide) rfl (v := .ref (Y.2.1 (pc_d m + 1))) rfl dX0_isThere_24 rfl ?_
      refine vv_iload_n (q := 28) hC dX0_isThere_27 (x := nI (s)) rfl rfl ?_
      refine vv_bipush (q := 30) hC (nI 8) dX0_isThere_28 (by decide) rfl ?_
      refine vv_mulN (x := s) (y := 8) (q := 31) hC dX0_isThere_30 rfl ?_
      refine vv_callS (n := 2) (As := [.ref (Y.2.1 (pc_d m + 1)), .int (nI (s * 8))]) (st := [.int (σ (pc_d m + 2) s)]) (q := 34) hC (cm_X0_sumOf _ Y n hY σ (pc_d m + 1) (s * 8) (pc_rw_dw hm) (by rw [pc_len_dw]; omega)) gX0_isThere_X0_sumOf rfl (by decide +kernel) dX0_isThere_31 rfl rfl rfl (vv_kR ?_)
      refine vv_icmp_ne (x := σ (pc_d m + 2) s) (y := pc_sum (σ (pc_d m + 1)) (s * 8) 8) (q := 37) (tgt := 41) hC dX0_isThere_34 (by decide) rfl (fun c_34 => ?_) (fun c_34 => ?_)
      · refine vv_iconst (q := 42) hC (nI 0) dX0_isThere_41 (by decide) rfl ?_
        refine vv_zret (v := nI (0)) hC (by first | rfl | decide) dX0_isThere_42 ?_
        rw [hp]
        exact ⟨congrArg (fun z => some (Value.int z)) (vv_B0 (by grind)).symm, rfl⟩
      · refine vv_iconst (q := 38) hC (nI 1) dX0_isThere_37 (by decide) rfl ?_
        refine vv_goto (tgt := 42) hC dX0_isThere_38 (by decide) ?_
        refine vv_zret (v := nI (1)) hC (by first | rfl | decide) dX0_isThere_42 ?_
        rw [hp]
        exact ⟨congrArg (fun z => some (Value.int z)) (vv_B1 (by grind)).symm, rfl⟩
set_option maxRecDepth 100000 in
set_option maxHeartbeats 4000000 in
theorem cm_X0_forgetBuilding (l : Launch) (Y : vv_Y) (n : Nat) (hY : pc_sys Y n) (σ : vv_S) (m : Nat) (hm : m < n) : vv_M l Y yX0_forgetBuilding wsX0_forgetBuilding { frames := 0, cells := 0, slots := 0, locals := 0 } [.ref (Y.2.1 (pc_d m))] σ (vv_Rv (if σ (pc_d m) 3 = nI 2 then vv_up σ (pc_d m) 4 (nI 0) else σ)) := by
  refine vv_M.of (cc := cX0_forgetBuilding) (maxL := 1) (ret := none) hY.ok (by decide) rfl (Nat.le_of_ble_eq_true rfl) ?_
  intro Z hl hp hC
  subst hl
  have hi_X0 : ∀ w ∈ u_ws RX0 TX0 6, w ∈ wsX0_forgetBuilding := by decide +kernel
  have hf_state : Cond.fieldLink RX0 22 "ParityRow$Disk" (TX0 3).2.1 (TX0 3).2.2.1 ∈ wsX0_forgetBuilding := by decide +kernel
  have hf_built : Cond.fieldLink RX0 26 "ParityRow$Disk" (TX0 4).2.1 (TX0 4).2.2.1 ∈ wsX0_forgetBuilding := by decide +kernel
  have hlo := hY.lo
  have hhi := hY.hi
  refine vv_loc (L' := [(0, .ref (Y.2.1 (pc_d m)))]) rfl ?_
  refine vv_aload_n (q := 1) hC dX0_forgetBuilding_0 (x := Y.2.1 (pc_d m)) rfl rfl ?_
  refine pc_gD (q := 4) hY hC (by omega) 3 hi_X0 hf_state (by decide) rfl (v := .int (σ (pc_d m) 3)) rfl dX0_forgetBuilding_1 rfl ?_
  refine vv_iconst (q := 5) hC (nI 2) dX0_forgetBuilding_4 (by decide) rfl ?_
  refine vv_icmp_ne (x := σ (pc_d m) 3) (y := nI (2)) (q := 8) (tgt := 13) hC dX0_forgetBuilding_5 (by decide) rfl (fun c_5 => ?_) (fun c_5 => ?_)
  · refine vv_vret hC dX0_forgetBuilding_13 ?_
    rw [hp]
    first | exact ⟨rfl, (if_neg c_5).symm⟩ | exact ⟨rfl, (if_pos c_5).symm⟩
  · refine vv_aload_n (q := 9) hC dX0_forgetBuilding_8 (x := Y.2.1 (pc_d m)) rfl rfl ?_
    refine vv_iconst (q := 10) hC (nI 0) dX0_forgetBuilding_9 (by decide) rfl ?_
    refine pc_pD (q := 13) hY hC (by omega) 4 hi_X0 hf_built (by decide) rfl rfl (x := nI (0)) (ty := .int) (by decide +kernel) rfl rfl (fun _ => rfl) dX0_forgetBuilding_10 rfl ?_
    refine vv_vret hC dX0_forgetBuilding_13 ?_
    rw [hp]
    first | exact ⟨rfl, (if_neg c_5).symm⟩ | exact ⟨rfl, (if_pos c_5).symm⟩
set_option maxRecDepth 100000 in
set_option maxHeartbeats 4000000 in
theorem cm_X1_begin (l : Launch) (Y : vv_Y) (n : Nat) (hY : pc_sys Y n) (σ : vv_S) (e : Nat) (s : Nat) (he : e < 11) : vv_M l Y yX1_begin wsX1_begin { frames := 0, cells := 0, slots := 0, locals := 0 } [.ref (Y.2.1 (pc_e e)), .int (nI (s))] σ (vv_Rv (vv_up (vv_up σ (pc_e e) 1 (nI s)) (pc_e e) 2 (nI 0))) := by
  refine vv_M.of (cc := cX1_begin) (maxL := 2) (ret := none) hY.ok (by decide) rfl (Nat.le_of_ble_eq_true rfl) ?_
  intro Z hl hp hC
  subst hl
  have hi_X1 : ∀ w ∈ u_ws RX1 TX1 4, w ∈ wsX1_begin := by decide +kernel
  have hf_stripe : Cond.fieldLink RX1 9 "ParityRow$Entry" (TX1 1).2.1 (TX1 1).2.2.1 ∈ wsX1_begin := by decide +kernel
  have hf_parts : Cond.fieldLink RX1 15 "ParityRow$Entry" (TX1 2).2.1 (TX1 2).2.2.1 ∈ wsX1_begin := by decide +kernel
  have hlo := hY.lo
  have hhi := hY.hi
  refine vv_loc (L' := [(0, .ref (Y.2.1 (pc_e e))), (1, .int (nI (s)))]) rfl ?_
  refine vv_aload_n (q := 1) hC dX1_begin_0 (x := Y.2.1 (pc_e e)) rfl rfl ?_
  refine vv_iload_n (q := 2) hC dX1_begin_1 (x := nI (s)) rfl rfl ?_
  refine pc_pE (q := 5) hY hC (by omega) 1 hi_X1 hf_stripe (by decide) rfl rfl (x := nI (s)) (ty := .int) (by decide +kernel) rfl rfl (fun _ => rfl) dX1_begin_2 rfl ?_
  refine vv_aload_n (q := 6) hC dX1_begin_5 (x := Y.2.1 (pc_e e)) rfl rfl ?_
  refine vv_iconst (q := 7) hC (nI 0) dX1_begin_6 (by decide) rfl ?_
  refine pc_pE (q := 10) hY hC (by omega) 2 hi_X1 hf_parts (by decide) rfl rfl (x := nI (0)) (ty := .int) (by decide +kernel) rfl rfl (fun _ => rfl) dX1_begin_7 rfl ?_
  refine vv_vret hC dX1_begin_10 ?_
  rw [hp]
  exact ⟨rfl, rfl⟩
set_option maxRecDepth 100000 in
set_option maxHeartbeats 4000000 in
theorem cm_X1_has (l : Launch) (Y : vv_Y) (n : Nat) (hY : pc_sys Y n) (σ : vv_S) (e : Nat) (p : Nat) (he : e < 11) : vv_M l Y yX1_has wsX1_has { frames := 0, cells := 0, slots := 0, locals := 0 } [.ref (Y.2.1 (pc_e e)), .int (nI (p))] σ (vv_R (.int (vv_B (pc_bit (σ (pc_e e) 2) p))) σ) := by
  refine vv_M.of (cc := cX1_has) (maxL := 2) (ret := (some .boolean)) hY.ok (by decide) rfl (Nat.le_of_ble_eq_true rfl) ?_
  intro Z hl hp hC
  subst hl
  have hi_X1 : ∀ w ∈ u_ws RX1 TX1 4, w ∈ wsX1_has := by decide +kernel
  have hf_parts : Cond.fieldLink RX1 15 "ParityRow$Entry" (TX1 2).2.1 (TX1 2).2.2.1 ∈ wsX1_has := by decide +kernel
  have hlo := hY.lo
  have hhi := hY.hi
  refine vv_loc (L' := [(0, .ref (Y.2.1 (pc_e e))), (1, .int (nI (p)))]) rfl ?_
  refine vv_aload_n (q := 1) hC dX1_has_0 (x := Y.2.1 (pc_e e)) rfl rfl ?_
  refine pc_gE (q := 4) hY hC (by omega) 2 hi_X1 hf_parts (by decide) rfl (v := .int (σ (pc_e e) 2)) rfl dX1_has_1 rfl ?_
  refine vv_iload_n (q := 5) hC dX1_has_4 (x := nI (p)) rfl rfl ?_
  refine vv_ishr (x := σ (pc_e e) 2) (y := nI (p)) (q := 6) hC dX1_has_5 rfl ?_
  refine vv_iconst (q := 7) hC (nI 1) dX1_has_6 (by decide) rfl ?_
  refine vv_iand (x := (σ (pc_e e) 2) >>> ((nI (p)) &&& 31)) (y := nI (1)) (q := 8) hC dX1_has_7 rfl ?_
  refine vv_iconst (q := 9) hC (nI 1) dX1_has_8 (by decide) rfl ?_
  refine vv_icmp_ne (x := ((σ (pc_e e) 2) >>> ((nI (p)) &&& 31)) &&& (nI (1))) (y := nI (1)) (q := 12) (tgt := 16) hC dX1_has_9 (by decide) rfl (fun c_9 => ?_) (fun c_9 => ?_)
  · refine vv_iconst (q := 17) hC (nI 0) dX1_has_16 (by decide) rfl ?_
    refine vv_zret (v := nI (0)) hC (by first | rfl | decide) dX1_has_17 ?_
    rw [hp]
    exact ⟨congrArg (fun z => some (Value.int z)) (vv_B0 (by grind)).symm, rfl⟩
  · refine vv_iconst (q := 13) hC (nI 1) dX1_has_12 (by decide) rfl ?_
    refine vv_goto (tgt := 17) hC dX1_has_13 (by decide) ?_
    refine vv_zret (v := nI (1)) hC (by first | rfl | decide) dX1_has_17 ?_
    rw [hp]
    exact ⟨congrArg (fun z => some (Value.int z)) (vv_B1 (by grind)).symm, rfl⟩
set_option maxRecDepth 100000 in
set_option maxHeartbeats 4000000 in
theorem cm_X1_cells (l : Launch) (Y : vv_Y) (n : Nat) (hY : pc_sys Y n) (σ : vv_S) (e : Nat) (he : e < 11) : vv_M l Y yX1_cells wsX1_cells { frames := 1, cells := 0, slots := 0, locals := 20 } [.ref (Y.2.1 (pc_e e))] σ (vv_R (.int (pc_cells (σ (pc_e e) 2))) σ) := by
  refine vv_M.of (cc := cX1_cells) (maxL := 1) (ret := (some .int)) hY.ok (by decide) rfl (Nat.le_of_ble_eq_true rfl) ?_
  intro Z hl hp hC
  subst hl
  have hi_X1 : ∀ w ∈ u_ws RX1 TX1 4, w ∈ wsX1_cells := by decide +kernel
  have hf_parts : Cond.fieldLink RX1 15 "ParityRow$Entry" (TX1 2).2.1 (TX1 2).2.2.1 ∈ wsX1_cells := by decide +kernel
  have hlo := hY.lo
  have hhi := hY.hi
  refine vv_loc (L' := [(0, .ref (Y.2.1 (pc_e e)))]) rfl ?_
  refine vv_aload_n (q := 1) hC dX1_cells_0 (x := Y.2.1 (pc_e e)) rfl rfl ?_
  refine pc_gE (q := 4) hY hC (by omega) 2 hi_X1 hf_parts (by decide) rfl (v := .int (σ (pc_e e) 2)) rfl dX1_cells_1 rfl ?_
  refine vv_callS (n := 1) (As := [.int (σ (pc_e e) 2)]) (st := []) (q := 7) hC (cm_J6_bitCount_0f7a4 _ Y n hY σ (σ (pc_e e) 2) ) gX1_cells_J6_bitCount_0f7a4 rfl (by decide +kernel) dX1_cells_4 rfl rfl rfl (vv_kR ?_)
  refine vv_iconst (q := 8) hC (nI 2) dX1_cells_7 (by decide) rfl ?_
  refine vv_iadd (x := pc_bc (σ (pc_e e) 2)) (y := nI (2)) (q := 9) hC dX1_cells_8 rfl ?_
  refine vv_iret (v := (pc_bc (σ (pc_e e) 2)) + (nI (2))) hC dX1_cells_9 ?_
  rw [hp]
  exact ⟨congrArg (fun z => some (Value.int z)) (by first | rfl | grind), rfl⟩
set_option maxRecDepth 100000 in
set_option maxHeartbeats 4000000 in
theorem cm_X2_entry (l : Launch) (Y : vv_Y) (n : Nat) (hY : pc_sys Y n) (σ : vv_S) (o : Nat) (k : Nat) (ho : σ 2 1 = nI o) (ho11 : o < 11) (hk : k ≤ 10) : vv_M l Y yX2_entry wsX2_entry { frames := 0, cells := 0, slots := 0, locals := 0 } [.ref (Y.2.1 (2)), .int (nI (k))] σ (vv_R (.ref (Y.2.1 (pc_e (pc_re o k)))) σ) := by
  refine vv_M.of (cc := cX2_entry) (maxL := 2) (ret := (some (.object "ParityRow$Entry"))) hY.ok (by decide) rfl (Nat.le_of_ble_eq_true rfl) ?_
  intro Z hl hp hC
  subst hl
  have hi_X2 : ∀ w ∈ u_ws RX2 TX2 6, w ∈ wsX2_entry := by decide +kernel
  have hf_slots : Cond.fieldLink RX2 11 "ParityRow$Journal" (TX2 0).2.1 (TX2 0).2.2.1 ∈ wsX2_entry := by decide +kernel
  have hf_oldest : Cond.fieldLink RX2 17 "ParityRow$Journal" (TX2 1).2.1 (TX2 1).2.2.1 ∈ wsX2_entry := by decide +kernel
  have hlo := hY.lo
  have hhi := hY.hi
  refine vv_loc (L' := [(0, .ref (Y.2.1 (2))), (1, .int (nI (k)))]) rfl ?_
  refine vv_aload_n (q := 1) hC dX2_entry_0 (x := Y.2.1 (2)) rfl rfl ?_
  refine pc_gJ (q := 4) hY hC 0 hi_X2 hf_slots (by decide) rfl (v := .ref (Y.2.1 (3))) rfl dX2_entry_1 rfl ?_
  refine vv_aload_n (q := 5) hC dX2_entry_4 (x := Y.2.1 (2)) rfl rfl ?_
  refine pc_gJ (q := 8) hY hC 1 hi_X2 hf_oldest (by decide) rfl (v := .int (σ 2 1)) rfl dX2_entry_5 rfl ?_
  refine vv_top (y := nI (o)) (ho) ?_
  refine vv_iload_n (q := 9) hC dX2_entry_8 (x := nI (k)) rfl rfl ?_
  refine vv_addN (x := o) (y := k) (q := 10) hC dX2_entry_9 rfl ?_
  refine vv_bipush (q := 12) hC (nI 11) dX2_entry_10 (by decide) rfl ?_
  refine vv_remN (x := o + k) (y := 11) (q := 13) hC dX2_entry_12 (by omega) (by omega) (by omega) rfl ?_
  refine pc_ld_slots (q := 14) (e := (o + k) % 11) hY hC (Nat.mod_lt _ (by decide)) dX2_entry_13 rfl ?_
  refine vv_aret (v := .ref (Y.2.1 (pc_e ((o + k) % 11)))) hC (Or.inr ⟨_, rfl⟩) dX2_entry_14 ?_
  rw [hp]
  exact ⟨rfl, rfl⟩
set_option maxRecDepth 100000 in
set_option maxHeartbeats 4000000 in
theorem cm_X2_made (l : Launch) (Y : vv_Y) (n : Nat) (hY : pc_sys Y n) (σ : vv_S) (o : Nat) (r : Nat) (ho : σ 2 1 = nI o) (ho11 : o < 11) (hr : σ 2 2 = nI r) (hr10 : r ≤ 10) : vv_M l Y yX2_made wsX2_made { frames := 1, cells := 0, slots := 0, locals := 21 } [.ref (Y.2.1 (2))] σ (vv_R (.ref (Y.2.1 (pc_e (pc_re o r)))) σ) := by
  refine vv_M.of (cc := cX2_made) (maxL := 1) (ret := (some (.object "ParityRow$Entry"))) hY.ok (by decide) rfl (Nat.le_of_ble_eq_true rfl) ?_
  intro Z hl hp hC
  subst hl
  have hi_X2 : ∀ w ∈ u_ws RX2 TX2 6, w ∈ wsX2_made := by decide +kernel
  have hf_records : Cond.fieldLink RX2 21 "ParityRow$Journal" (TX2 2).2.1 (TX2 2).2.2.1 ∈ wsX2_made := by decide +kernel
  have hlo := hY.lo
  have hhi := hY.hi
  refine vv_loc (L' := [(0, .ref (Y.2.1 (2)))]) rfl ?_
  refine vv_aload_n (q := 1) hC dX2_made_0 (x := Y.2.1 (2)) rfl rfl ?_
  refine vv_aload_n (q := 2) hC dX2_made_1 (x := Y.2.1 (2)) rfl rfl ?_
  refine pc_gJ (q := 5) hY hC 2 hi_X2 hf_records (by decide) rfl (v := .int (σ 2 2)) rfl dX2_made_2 rfl ?_
  refine vv_top (y := nI (r)) (hr) ?_
  refine vv_callV (n := 1) (k := 2) (As := [.int (nI (r))]) (st := []) (q := 8) hC (hY.k (by decide)) (hY.J _) (by rw [hY.cl]; rfl) (cm_X2_entry _ Y n hY σ o r ho ho11 (by omega)) gX2_made_X2_entry rfl (by decide +kernel) dX2_made_5 rfl rfl rfl (vv_kR ?_)
  refine vv_aret (v := .ref (Y.2.1 (pc_e (pc_re o r)))) hC (Or.inr ⟨_, rfl⟩) dX2_made_8 ?_
  rw [hp]
  exact ⟨rfl, rfl⟩
set_option maxRecDepth 100000 in
set_option maxHeartbeats 4000000 in
theorem cm_X2_addMade (l : Launch) (Y : vv_Y) (n : Nat) (hY : pc_sys Y n) (σ : vv_S) (o : Nat) (r : Nat) (ho : σ 2 1 = nI o) (ho11 : o < 11) (hr : σ 2 2 = nI r) (hr10 : r ≤ 10) : vv_M l Y yX2_addMade wsX2_addMade { frames := 2, cells := 0, slots := 0, locals := 41 } [.ref (Y.2.1 (2))] σ (vv_Rv (vv_up (vv_up σ 2 3 (σ 2 3 + pc_cells (σ (pc_e (pc_re o r)) 2))) 2 2 (nI (r + 1)))) := by
  refine vv_M.of (cc := cX2_addMade) (maxL := 1) (ret := none) hY.ok (by decide) rfl (Nat.le_of_ble_eq_true rfl) ?_
  intro Z hl hp hC
  subst hl
  have hi_X2 : ∀ w ∈ u_ws RX2 TX2 6, w ∈ wsX2_addMade := by decide +kernel
  have hf_usedCells : Cond.fieldLink RX2 24 "ParityRow$Journal" (TX2 3).2.1 (TX2 3).2.2.1 ∈ wsX2_addMade := by decide +kernel
  have hf_records : Cond.fieldLink RX2 21 "ParityRow$Journal" (TX2 2).2.1 (TX2 2).2.2.1 ∈ wsX2_addMade := by decide +kernel
  have hlo := hY.lo
  have hhi := hY.hi
  refine vv_loc (L' := [(0, .ref (Y.2.1 (2)))]) rfl ?_
  refine vv_aload_n (q := 1) hC dX2_addMade_0 (x := Y.2.1 (2)) rfl rfl ?_
  refine vv_dup (q := 2) hC dX2_addMade_1 rfl rfl ?_
  refine pc_gJ (q := 5) hY hC 3 hi_X2 hf_usedCells (by decide) rfl (v := .int (σ 2 3)) rfl dX2_addMade_2 rfl ?_
  refine vv_aload_n (q := 6) hC dX2_addMade_5 (x := Y.2.1 (2)) rfl rfl ?_
  refine vv_callV (n := 0) (k := 2) (As := []) (st := [.int (σ 2 3), .ref (Y.2.1 (2))]) (q := 9) hC (hY.k (by decide)) (hY.J _) (by rw [hY.cl]; rfl) (cm_X2_made _ Y n hY σ o r ho ho11 hr hr10) gX2_addMade_X2_made rfl (by decide +kernel) dX2_addMade_6 rfl rfl rfl (vv_kR ?_)
  refine vv_callVN (n := 0) (k := pc_e (pc_re o r)) (As := []) (st := [.int (σ 2 3), .ref (Y.2.1 (2))]) (q := 12) hC (hY.ke (j := 0) (Nat.mod_lt _ (by decide)) (by decide)) (hY.E (Nat.mod_lt _ (by decide)) _) (by rw [hY.cl]; rfl) (cm_X1_cells _ Y n hY σ (pc_re o r) (Nat.mod_lt _ (by decide))) gX2_addMade_X1_cells_n44 rfl (hY.nw nw_X2_44) (by decide +kernel) (by decide +kernel) (by decide +kernel) (by decide +kernel) dX2_addMade_9 rfl rfl rfl (vv_kR ?_)
  refine vv_iadd (x := σ 2 3) (y := pc_cells (σ (pc_e (pc_re o r)) 2)) (q := 13) hC dX2_addMade_12 rfl ?_
  refine pc_pJ (q := 16) hY hC 3 hi_X2 hf_usedCells (by decide) rfl rfl (x := (σ 2 3) + (pc_cells (σ (pc_e (pc_re o r)) 2))) (ty := .int) (by decide +kernel) rfl rfl (fun _ => rfl) dX2_addMade_13 rfl ?_
  refine vv_aload_n (q := 17) hC dX2_addMade_16 (x := Y.2.1 (2)) rfl rfl ?_
  refine vv_dup (q := 18) hC dX2_addMade_17 rfl rfl ?_
  refine pc_gJ (q := 21) hY hC 2 hi_X2 hf_records (by decide) rfl (v := .int ((vv_up σ 2 3 ((σ 2 3) + (pc_cells (σ (pc_e (pc_re o r)) 2)))) 2 2)) rfl dX2_addMade_18 rfl ?_
  refine vv_top (y := nI (r)) (hr) ?_
  refine vv_iconst (q := 22) hC (nI 1) dX2_addMade_21 (by decide) rfl ?_
  refine vv_addN (x := r) (y := 1) (q := 23) hC dX2_addMade_22 rfl ?_
  refine pc_pJ (q := 26) hY hC 2 hi_X2 hf_records (by decide) rfl rfl (x := nI (r + 1)) (ty := .int) (by decide +kernel) rfl rfl (fun _ => rfl) dX2_addMade_23 rfl ?_
  refine vv_vret hC dX2_addMade_26 ?_
  rw [hp]
  exact ⟨rfl, rfl⟩
set_option maxRecDepth 100000 in
set_option maxHeartbeats 4000000 in
theorem cm_X2_freeCells (l : Launch) (Y : vv_Y) (n : Nat) (hY : pc_sys Y n) (σ : vv_S) : vv_M l Y yX2_freeCells wsX2_freeCells { frames := 0, cells := 0, slots := 0, locals := 0 } [.ref (Y.2.1 (2))] σ (vv_R (.int (nI 32 - σ 2 3)) σ) := by
  refine vv_M.of (cc := cX2_freeCells) (maxL := 1) (ret := (some .int)) hY.ok (by decide) rfl (Nat.le_of_ble_eq_true rfl) ?_
  intro Z hl hp hC
  subst hl
  have hi_X2 : ∀ w ∈ u_ws RX2 TX2 6, w ∈ wsX2_freeCells := by decide +kernel
  have hf_usedCells : Cond.fieldLink RX2 24 "ParityRow$Journal" (TX2 3).2.1 (TX2 3).2.2.1 ∈ wsX2_freeCells := by decide +kernel
  have hlo := hY.lo
  have hhi := hY.hi
  refine vv_loc (L' := [(0, .ref (Y.2.1 (2)))]) rfl ?_
  refine vv_bipush (q := 2) hC (nI 32) dX2_freeCells_0 (by decide) rfl ?_
  refine vv_aload_n (q := 3) hC dX2_freeCells_2 (x := Y.2.1 (2)) rfl rfl ?_
  refine pc_gJ (q := 6) hY hC 3 hi_X2 hf_usedCells (by decide) rfl (v := .int (σ 2 3)) rfl dX2_freeCells_3 rfl ?_
  refine vv_isub (x := nI (32)) (y := σ 2 3) (q := 7) hC dX2_freeCells_6 rfl ?_
  refine vv_iret (v := (nI (32)) - (σ 2 3)) hC dX2_freeCells_7 ?_
  rw [hp]
  exact ⟨congrArg (fun z => some (Value.int z)) (by first | rfl | grind), rfl⟩
set_option maxRecDepth 100000 in
set_option maxHeartbeats 4000000 in
theorem cm_X2_nextSerial (l : Launch) (Y : vv_Y) (n : Nat) (hY : pc_sys Y n) (σ : vv_S) : vv_M l Y yX2_nextSerial wsX2_nextSerial { frames := 0, cells := 0, slots := 0, locals := 0 } [.ref (Y.2.1 (2))] σ (vv_R (.int (σ 2 5 + σ 2 2)) σ) := by
  refine vv_M.of (cc := cX2_nextSerial) (maxL := 1) (ret := (some .int)) hY.ok (by decide) rfl (Nat.le_of_ble_eq_true rfl) ?_
  intro Z hl hp hC
  subst hl
  have hi_X2 : ∀ w ∈ u_ws RX2 TX2 6, w ∈ wsX2_nextSerial := by decide +kernel
  have hf_markSerial : Cond.fieldLink RX2 30 "ParityRow$Journal" (TX2 5).2.1 (TX2 5).2.2.1 ∈ wsX2_nextSerial := by decide +kernel
  have hf_records : Cond.fieldLink RX2 21 "ParityRow$Journal" (TX2 2).2.1 (TX2 2).2.2.1 ∈ wsX2_nextSerial := by decide +kernel
  have hlo := hY.lo
  have hhi := hY.hi
  refine vv_loc (L' := [(0, .ref (Y.2.1 (2)))]) rfl ?_
  refine vv_aload_n (q := 1) hC dX2_nextSerial_0 (x := Y.2.1 (2)) rfl rfl ?_
  refine pc_gJ (q := 4) hY hC 5 hi_X2 hf_markSerial (by decide) rfl (v := .int (σ 2 5)) rfl dX2_nextSerial_1 rfl ?_
  refine vv_aload_n (q := 5) hC dX2_nextSerial_4 (x := Y.2.1 (2)) rfl rfl ?_
  refine pc_gJ (q := 8) hY hC 2 hi_X2 hf_records (by decide) rfl (v := .int (σ 2 2)) rfl dX2_nextSerial_5 rfl ?_
  refine vv_iadd (x := σ 2 5) (y := σ 2 2) (q := 9) hC dX2_nextSerial_8 rfl ?_
  refine vv_iret (v := (σ 2 5) + (σ 2 2)) hC dX2_nextSerial_9 ?_
  rw [hp]
  exact ⟨congrArg (fun z => some (Value.int z)) (by first | rfl | grind), rfl⟩
set_option maxRecDepth 100000 in
set_option maxHeartbeats 4000000 in
theorem cm_X2_latestWith (l : Launch) (Y : vv_Y) (n : Nat) (hY : pc_sys Y n) (σ : vv_S) (o : Nat) (r : Nat) (s : Nat) (p : Nat) (ho : σ 2 1 = nI o) (ho11 : o < 11) (hr : σ 2 2 = nI r) (hr10 : r ≤ 10) : vv_M l Y yX2_latestWith wsX2_latestWith { frames := 1, cells := 0, slots := 0, locals := 21 } [.ref (Y.2.1 (2)), .int (nI (s)), .int (nI (p))] σ (vv_R (va_rf ((pc_lat σ o s p r).map (fun e => Y.2.1 (pc_e e)))) σ) := by
  refine vv_M.of (cc := cX2_latestWith) (maxL := 5) (ret := (some (.object "ParityRow$Entry"))) hY.ok (by decide) rfl (Nat.le_of_ble_eq_true rfl) ?_
  intro Z hl hp hC
  subst hl
  have hi_X1 : ∀ w ∈ u_ws RX1 TX1 4, w ∈ wsX2_latestWith := by decide +kernel
  have hi_X2 : ∀ w ∈ u_ws RX2 TX2 6, w ∈ wsX2_latestWith := by decide +kernel
  have hf_records : Cond.fieldLink RX2 21 "ParityRow$Journal" (TX2 2).2.1 (TX2 2).2.2.1 ∈ wsX2_latestWith := by decide +kernel
  have hlo := hY.lo
  have hhi := hY.hi
  refine vv_loc (L' := [(0, .ref (Y.2.1 (2))), (1, .int (nI (s))), (2, .int (nI (p)))]) rfl ?_
  refine vv_aload_n (q := 1) hC dX2_latestWith_0 (x := Y.2.1 (2)) rfl rfl ?_
  refine pc_gJ (q := 4) hY hC 2 hi_X2 hf_records (by decide) rfl (v := .int (σ 2 2)) rfl dX2_latestWith_1 rfl ?_
  refine vv_top (y := nI (r)) (hr) ?_
  refine vv_iconst (q := 5) hC (nI 1) dX2_latestWith_4 (by decide) rfl ?_
  refine vv_isub (x := nI (r)) (y := nI (1)) (q := 6) hC dX2_latestWith_5 rfl ?_
  refine vv_istore_n (L' := [(0, .ref (Y.2.1 (2))), (1, .int (nI (s))), (2, .int (nI (p))), (3, .int ((nI (r)) - (nI (1))))]) (q := 7) hC dX2_latestWith_6 (by decide) rfl rfl rfl ?_
  have lp_7 : ∀ j : Nat, (j ≤ r) → (pc_lat σ o s p r = pc_lat σ o s p j) → vv_V Y 5 Z σ 7 [(0, .ref (Y.2.1 (2))), (1, .int (nI (s))), (2, .int (nI (p))), (3, .int (nI j - nI 1))] [] := by
    refine vv_ind (fun j => j) (fun j ih_7 => ?_)
    intro hj hv
    refine vv_iload_n (q := 8) hC dX2_latestWith_7 (x := nI j - nI 1) rfl rfl ?_
    refine vv_if_lt (x := nI j - nI 1) (q := 11) (tgt := 45) hC dX2_latestWith_8 (by decide) rfl (fun c_8 => ?_) (fun c_8 => ?_)
    · refine vv_null (q := 46) hC dX2_latestWith_45 rfl ?_
      refine vv_aret (v := .null) hC (Or.inl rfl) dX2_latestWith_46 ?_
      rw [hp]
      rw [hv, (pc_jm1 (by omega)).mp c_8]
      exact ⟨rfl, rfl⟩
    · have hj0 : 0 < j := Nat.pos_of_ne_zero (fun z => c_8 ((pc_jm1 (by omega)).mpr z))
      refine vv_loc (L' := [(0, .ref (Y.2.1 (2))), (1, .int (nI (s))), (2, .int (nI (p))), (3, .int (nI (j - 1)))]) (by rw [pk_sub (by omega)]) ?_
      refine vv_aload_n (q := 12) hC dX2_latestWith_11 (x := Y.2.1 (2)) rfl rfl ?_
      refine vv_iload_n (q := 13) hC dX2_latestWith_12 (x := nI (j - 1)) rfl rfl ?_
      refine vv_callV (n := 1) (k := 2) (As := [.int (nI (j - 1))]) (st := []) (q := 16) hC (hY.k (by decide)) (hY.J _) (by rw [hY.cl]; rfl) (cm_X2_entry _ Y n hY σ o (j - 1) ho ho11 (by omega)) gX2_latestWith_X2_entry rfl (by decide +kernel) dX2_latestWith_13 rfl rfl rfl (vv_kR ?_)
      refine vv_astore (L' := [(0, .ref (Y.2.1 (2))), (1, .int (nI (s))), (2, .int (nI (p))), (3, .int (nI (j - 1))), (4, .ref (Y.2.1 (pc_e (pc_re o (j - 1)))))]) (q := 18) hC dX2_latestWith_16 (by decide) rfl rfl rfl ?_
      refine vv_aload (q := 20) hC dX2_latestWith_18 (x := Y.2.1 (pc_e (pc_re o (j - 1)))) rfl rfl ?_
      refine pc_gEN (q := 23) hY hC (Nat.mod_lt _ (by decide)) 1 hi_X1 nw_X2_48 (by decide) rfl (v := .int (σ (pc_e (pc_re o (j - 1))) 1)) rfl dX2_latestWith_20 rfl ?_
      refine vv_iload_n (q := 24) hC dX2_latestWith_23 (x := nI (s)) rfl rfl ?_
      refine vv_icmp_ne (x := σ (pc_e (pc_re o (j - 1))) 1) (y := nI (s)) (q := 27) (tgt := 39) hC dX2_latestWith_24 (by decide) rfl (fun c_24 => ?_) (fun c_24 => ?_)
      · refine vv_iinc (L' := [(0, .ref (Y.2.1 (2))), (1, .int (nI (s))), (2, .int (nI (p))), (3, .int (nI (j - 1) - nI 1)), (4, .ref (Y.2.1 (pc_e (pc_re o (j - 1)))))]) (q := 42) hC (nI (j - 1) - nI 1) dX2_latestWith_39 rfl (pc_jdec) (by decide) rfl rfl rfl ?_
        refine vv_goto (tgt := 7) hC dX2_latestWith_42 (by decide) ?_
        refine vv_sub (L' := [(0, .ref (Y.2.1 (2))), (1, .int (nI (s))), (2, .int (nI (p))), (3, .int (nI (j - 1) - nI 1))]) (by simp) ?_
        exact ih_7 (j - 1) (by first | omega | (dsimp only; omega))  (by omega) (by rw [hv]; obtain ⟨j, rfl⟩ : ∃ i, j = i + 1 := ⟨j - 1, by omega⟩; exact if_neg (fun z => by first | exact c_24 z.1 | exact c_33 z.2))
      · refine vv_aload (q := 29) hC dX2_latestWith_27 (x := Y.2.1 (pc_e (pc_re o (j - 1)))) rfl rfl ?_
        refine vv_iload_n (q := 30) hC dX2_latestWith_29 (x := nI (p)) rfl rfl ?_
        refine vv_callVN (n := 1) (k := pc_e (pc_re o (j - 1))) (As := [.int (nI (p))]) (st := []) (q := 33) hC (hY.ke (j := 0) (Nat.mod_lt _ (by decide)) (by decide)) (hY.E (Nat.mod_lt _ (by decide)) _) (by rw [hY.cl]; rfl) (cm_X1_has _ Y n hY σ (pc_re o (j - 1)) p (Nat.mod_lt _ (by decide))) gX2_latestWith_X1_has_n51 rfl (hY.nw nw_X2_51) (by decide +kernel) (by decide +kernel) (by decide +kernel) (by decide +kernel) dX2_latestWith_30 rfl rfl rfl (vv_kR ?_)
        refine vv_ifB_eq (b := pc_bit (σ (pc_e (pc_re o (j - 1))) 2) p) (q := 36) (tgt := 39) hC dX2_latestWith_33 (by decide) rfl (fun c_33 => ?_) (fun c_33 => ?_)
        · refine vv_iinc (L' := [(0, .ref (Y.2.1 (2))), (1, .int (nI (s))), (2, .int (nI (p))), (3, .int (nI (j - 1) - nI 1)), (4, .ref (Y.2.1 (pc_e (pc_re o (j - 1)))))]) (q := 42) hC (nI (j - 1) - nI 1) dX2_latestWith_39 rfl (pc_jdec) (by decide) rfl rfl rfl ?_
          refine vv_goto (tgt := 7) hC dX2_latestWith_42 (by decide) ?_
          refine vv_sub (L' := [(0, .ref (Y.2.1 (2))), (1, .int (nI (s))), (2, .int (nI (p))), (3, .int (nI (j - 1) - nI 1))]) (by simp) ?_
          exact ih_7 (j - 1) (by first | omega | (dsimp only; omega))  (by omega) (by rw [hv]; obtain ⟨j, rfl⟩ : ∃ i, j = i + 1 := ⟨j - 1, by omega⟩; exact if_neg (fun z => by first | exact c_24 z.1 | exact c_33 z.2))
        · refine vv_aload (q := 38) hC dX2_latestWith_36 (x := Y.2.1 (pc_e (pc_re o (j - 1)))) rfl rfl ?_
          refine vv_aret (v := .ref (Y.2.1 (pc_e (pc_re o (j - 1))))) hC (Or.inr ⟨_, rfl⟩) dX2_latestWith_38 ?_
          rw [hp]
          rw [hv]
          obtain ⟨j, rfl⟩ : ∃ i, j = i + 1 := ⟨j - 1, by omega⟩
          exact ⟨by rw [show pc_lat σ o s p (j + 1) = some (pc_re o j) from if_pos ⟨c_24, c_33⟩]; rfl, rfl⟩
  exact lp_7 r (by omega) rfl
set_option maxRecDepth 100000 in
set_option maxHeartbeats 4000000 in
theorem cm_X2_recordsUpTo (l : Launch) (Y : vv_Y) (n : Nat) (hY : pc_sys Y n) (σ : vv_S) (o : Nat) (r : Nat) (s : Nat) (ho : σ 2 1 = nI o) (ho11 : o < 11) (hr : σ 2 2 = nI r) (hr10 : r ≤ 10) : vv_M l Y yX2_recordsUpTo wsX2_recordsUpTo { frames := 1, cells := 0, slots := 0, locals := 21 } [.ref (Y.2.1 (2)), .int (nI (s))] σ (vv_R (.int (nI (pc_upto σ o s r))) σ) := by
  refine vv_M.of (cc := cX2_recordsUpTo) (maxL := 4) (ret := (some .int)) hY.ok (by decide) rfl (Nat.le_of_ble_eq_true rfl) ?_
  intro Z hl hp hC
  subst hl
  have hi_X1 : ∀ w ∈ u_ws RX1 TX1 4, w ∈ wsX2_recordsUpTo := by decide +kernel
  have hi_X2 : ∀ w ∈ u_ws RX2 TX2 6, w ∈ wsX2_recordsUpTo := by decide +kernel
  have hf_records : Cond.fieldLink RX2 21 "ParityRow$Journal" (TX2 2).2.1 (TX2 2).2.2.1 ∈ wsX2_recordsUpTo := by decide +kernel
  have hlo := hY.lo
  have hhi := hY.hi
  refine vv_loc (L' := [(0, .ref (Y.2.1 (2))), (1, .int (nI (s)))]) rfl ?_
  refine vv_iconst (q := 1) hC (nI 0) dX2_recordsUpTo_0 (by decide) rfl ?_
  refine vv_istore_n (L' := [(0, .ref (Y.2.1 (2))), (1, .int (nI (s))), (2, .int (nI (0)))]) (q := 2) hC dX2_recordsUpTo_1 (by decide) rfl rfl rfl ?_
  refine vv_iconst (q := 3) hC (nI 0) dX2_recordsUpTo_2 (by decide) rfl ?_
  refine vv_istore_n (L' := [(0, .ref (Y.2.1 (2))), (1, .int (nI (s))), (2, .int (nI (0))), (3, .int (nI (0)))]) (q := 4) hC dX2_recordsUpTo_3 (by decide) rfl rfl rfl ?_
  have lp_4 : ∀ k : Nat, (k ≤ r) → vv_V Y 4 Z σ 4 [(0, .ref (Y.2.1 (2))), (1, .int (nI (s))), (2, .int (nI (pc_upto σ o s k))), (3, .int (nI (k)))] [] := by
    refine vv_ind (fun k => r - k) (fun k ih_4 => ?_)
    intro hk
    refine vv_iload_n (q := 5) hC dX2_recordsUpTo_4 (x := nI (k)) rfl rfl ?_
    refine vv_aload_n (q := 6) hC dX2_recordsUpTo_5 (x := Y.2.1 (2)) rfl rfl ?_
    refine pc_gJ (q := 9) hY hC 2 hi_X2 hf_records (by decide) rfl (v := .int (σ 2 2)) rfl dX2_recordsUpTo_6 rfl ?_
    refine vv_top (y := nI (r)) (hr) ?_
    refine vv_icmpN_ge (x := k) (y := r) (q := 12) (tgt := 34) hC dX2_recordsUpTo_9 (by decide) (by omega) (by omega) rfl (fun c_9 => ?_) (fun c_9 => ?_)
    · refine vv_iload_n (q := 35) hC dX2_recordsUpTo_34 (x := nI (pc_upto σ o s k)) rfl rfl ?_
      refine vv_iret (v := nI (pc_upto σ o s k)) hC dX2_recordsUpTo_35 ?_
      rw [hp]
      have ek : k = r := by omega
      subst ek
      exact ⟨rfl, rfl⟩
    · refine vv_aload_n (q := 13) hC dX2_recordsUpTo_12 (x := Y.2.1 (2)) rfl rfl ?_
      refine vv_iload_n (q := 14) hC dX2_recordsUpTo_13 (x := nI (k)) rfl rfl ?_
      refine vv_callV (n := 1) (k := 2) (As := [.int (nI (k))]) (st := []) (q := 17) hC (hY.k (by decide)) (hY.J _) (by rw [hY.cl]; rfl) (cm_X2_entry _ Y n hY σ o k ho ho11 (by omega)) gX2_recordsUpTo_X2_entry rfl (by decide +kernel) dX2_recordsUpTo_14 rfl rfl rfl (vv_kR ?_)
      refine pc_gEN (q := 20) hY hC (Nat.mod_lt _ (by decide)) 1 hi_X1 nw_X2_48 (by decide) rfl (v := .int (σ (pc_e (pc_re o k)) 1)) rfl dX2_recordsUpTo_17 rfl ?_
      refine vv_iload_n (q := 21) hC dX2_recordsUpTo_20 (x := nI (s)) rfl rfl ?_
      refine vv_icmp_ne (x := σ (pc_e (pc_re o k)) 1) (y := nI (s)) (q := 24) (tgt := 28) hC dX2_recordsUpTo_21 (by decide) rfl (fun c_21 => ?_) (fun c_21 => ?_)
      · refine vv_iincN (x := k) (L' := [(0, .ref (Y.2.1 (2))), (1, .int (nI (s))), (2, .int (nI (pc_upto σ o s k))), (3, .int (nI (k + 1)))]) (q := 31) hC dX2_recordsUpTo_28 rfl (by decide) rfl rfl rfl ?_
        refine vv_goto (tgt := 4) hC dX2_recordsUpTo_31 (by decide) ?_
        refine vv_loc (L' := [(0, .ref (Y.2.1 (2))), (1, .int (nI (s))), (2, .int (nI (pc_upto σ o s (k + 1)))), (3, .int (nI ((k + 1))))]) (by rw [show pc_upto σ o s (k + 1) = _ from by first | exact if_pos c_21 | exact if_neg c_21]) ?_
        exact ih_4 (k + 1) (by first | omega | (dsimp only; omega))  (by omega)
      · refine vv_iload_n (q := 25) hC dX2_recordsUpTo_24 (x := nI (k)) rfl rfl ?_
        refine vv_iconst (q := 26) hC (nI 1) dX2_recordsUpTo_25 (by decide) rfl ?_
        refine vv_addN (x := k) (y := 1) (q := 27) hC dX2_recordsUpTo_26 rfl ?_
        refine vv_istore_n (L' := [(0, .ref (Y.2.1 (2))), (1, .int (nI (s))), (2, .int (nI (k + 1))), (3, .int (nI (k)))]) (q := 28) hC dX2_recordsUpTo_27 (by decide) rfl rfl rfl ?_
        refine vv_iincN (x := k) (L' := [(0, .ref (Y.2.1 (2))), (1, .int (nI (s))), (2, .int (nI (k + 1))), (3, .int (nI (k + 1)))]) (q := 31) hC dX2_recordsUpTo_28 rfl (by decide) rfl rfl rfl ?_
        refine vv_goto (tgt := 4) hC dX2_recordsUpTo_31 (by decide) ?_
        refine vv_loc (L' := [(0, .ref (Y.2.1 (2))), (1, .int (nI (s))), (2, .int (nI (pc_upto σ o s (k + 1)))), (3, .int (nI ((k + 1))))]) (by rw [show pc_upto σ o s (k + 1) = _ from by first | exact if_pos c_21 | exact if_neg c_21]) ?_
        exact ih_4 (k + 1) (by first | omega | (dsimp only; omega))  (by omega)
  exact lp_4 0 (by omega)
set_option maxRecDepth 100000 in
set_option maxHeartbeats 4000000 in
theorem cm_X2_recordsToFree (l : Launch) (Y : vv_Y) (n : Nat) (hY : pc_sys Y n) (σ : vv_S) (o : Nat) (r : Nat) (c : Int32) (ho : σ 2 1 = nI o) (ho11 : o < 11) (hr : σ 2 2 = nI r) (hr10 : r ≤ 10) : vv_M l Y yX2_recordsToFree wsX2_recordsToFree { frames := 2, cells := 0, slots := 0, locals := 40 } [.ref (Y.2.1 (2)), .int (c)] σ (vv_R (.int (nI (pc_tf σ o r c r 0))) σ) := by
  refine vv_M.of (cc := cX2_recordsToFree) (maxL := 4) (ret := (some .int)) hY.ok (by decide) rfl (Nat.le_of_ble_eq_true rfl) ?_
  intro Z hl hp hC
  subst hl
  have hi_X2 : ∀ w ∈ u_ws RX2 TX2 6, w ∈ wsX2_recordsToFree := by decide +kernel
  have hf_records : Cond.fieldLink RX2 21 "ParityRow$Journal" (TX2 2).2.1 (TX2 2).2.2.1 ∈ wsX2_recordsToFree := by decide +kernel
  have hlo := hY.lo
  have hhi := hY.hi
  refine vv_loc (L' := [(0, .ref (Y.2.1 (2))), (1, .int (c))]) rfl ?_
  refine vv_aload_n (q := 1) hC dX2_recordsToFree_0 (x := Y.2.1 (2)) rfl rfl ?_
  refine vv_callV (n := 0) (k := 2) (As := []) (st := []) (q := 4) hC (hY.k (by decide)) (hY.J _) (by rw [hY.cl]; rfl) (cm_X2_freeCells _ Y n hY σ  ) gX2_recordsToFree_X2_freeCells rfl (by decide +kernel) dX2_recordsToFree_1 rfl rfl rfl (vv_kR ?_)
  refine vv_istore_n (L' := [(0, .ref (Y.2.1 (2))), (1, .int (c)), (2, .int (nI 32 - σ 2 3))]) (q := 5) hC dX2_recordsToFree_4 (by decide) rfl rfl rfl ?_
  refine vv_iconst (q := 6) hC (nI 0) dX2_recordsToFree_5 (by decide) rfl ?_
  refine vv_istore_n (L' := [(0, .ref (Y.2.1 (2))), (1, .int (c)), (2, .int (nI 32 - σ 2 3)), (3, .int (nI (0)))]) (q := 7) hC dX2_recordsToFree_6 (by decide) rfl rfl rfl ?_
  have lp_7 : ∀ k : Nat, (k ≤ r) → (pc_tf σ o r c r 0 = pc_tf σ o r c (r - k) k) → vv_V Y 4 Z σ 7 [(0, .ref (Y.2.1 (2))), (1, .int (c)), (2, .int (pc_free σ o k)), (3, .int (nI (k)))] [] := by
    refine vv_ind (fun k => r - k) (fun k ih_7 => ?_)
    intro hk hv
    refine vv_iload_n (q := 8) hC dX2_recordsToFree_7 (x := nI (k)) rfl rfl ?_
    refine vv_aload_n (q := 9) hC dX2_recordsToFree_8 (x := Y.2.1 (2)) rfl rfl ?_
    refine pc_gJ (q := 12) hY hC 2 hi_X2 hf_records (by decide) rfl (v := .int (σ 2 2)) rfl dX2_recordsToFree_9 rfl ?_
    refine vv_top (y := nI (r)) (hr) ?_
    refine vv_icmpN_ge (x := k) (y := r) (q := 15) (tgt := 37) hC dX2_recordsToFree_12 (by decide) (by omega) (by omega) rfl (fun c_12 => ?_) (fun c_12 => ?_)
    · refine vv_iload_n (q := 38) hC dX2_recordsToFree_37 (x := nI (k)) rfl rfl ?_
      refine vv_iret (v := nI (k)) hC dX2_recordsToFree_38 ?_
      rw [hp]
      rw [hv]
      first
        | (rw [show r - k = 0 by omega]; exact ⟨rfl, rfl⟩)
        | (rw [show r - k = (r - (k + 1)) + 1 by omega, show pc_tf σ o r c (r - (k + 1) + 1) k = k from if_neg (fun z => absurd z.2 (Int32.not_lt.mpr c_17))]; exact ⟨rfl, rfl⟩)
    · refine vv_iload_n (q := 16) hC dX2_recordsToFree_15 (x := pc_free σ o k) rfl rfl ?_
      refine vv_iload_n (q := 17) hC dX2_recordsToFree_16 (x := c) rfl rfl ?_
      refine vv_icmp_ge (x := pc_free σ o k) (y := c) (q := 20) (tgt := 37) hC dX2_recordsToFree_17 (by decide) rfl (fun c_17 => ?_) (fun c_17 => ?_)
      · refine vv_iload_n (q := 38) hC dX2_recordsToFree_37 (x := nI (k)) rfl rfl ?_
        refine vv_iret (v := nI (k)) hC dX2_recordsToFree_38 ?_
        rw [hp]
        rw [hv]
        first
          | (rw [show r - k = 0 by omega]; exact ⟨rfl, rfl⟩)
          | (rw [show r - k = (r - (k + 1)) + 1 by omega, show pc_tf σ o r c (r - (k + 1) + 1) k = k from if_neg (fun z => absurd z.2 (Int32.not_lt.mpr c_17))]; exact ⟨rfl, rfl⟩)
      · refine vv_iload_n (q := 21) hC dX2_recordsToFree_20 (x := pc_free σ o k) rfl rfl ?_
        refine vv_aload_n (q := 22) hC dX2_recordsToFree_21 (x := Y.2.1 (2)) rfl rfl ?_
        refine vv_iload_n (q := 23) hC dX2_recordsToFree_22 (x := nI (k)) rfl rfl ?_
        refine vv_callV (n := 1) (k := 2) (As := [.int (nI (k))]) (st := [.int (pc_free σ o k)]) (q := 26) hC (hY.k (by decide)) (hY.J _) (by rw [hY.cl]; rfl) (cm_X2_entry _ Y n hY σ o k ho ho11 (by omega)) gX2_recordsToFree_X2_entry rfl (by decide +kernel) dX2_recordsToFree_23 rfl rfl rfl (vv_kR ?_)
        refine vv_callVN (n := 0) (k := pc_e (pc_re o k)) (As := []) (st := [.int (pc_free σ o k)]) (q := 29) hC (hY.ke (j := 0) (Nat.mod_lt _ (by decide)) (by decide)) (hY.E (Nat.mod_lt _ (by decide)) _) (by rw [hY.cl]; rfl) (cm_X1_cells _ Y n hY σ (pc_re o k) (Nat.mod_lt _ (by decide))) gX2_recordsToFree_X1_cells_n44 rfl (hY.nw nw_X2_44) (by decide +kernel) (by decide +kernel) (by decide +kernel) (by decide +kernel) dX2_recordsToFree_26 rfl rfl rfl (vv_kR ?_)
        refine vv_iadd (x := pc_free σ o k) (y := pc_cells (σ (pc_e (pc_re o k)) 2)) (q := 30) hC dX2_recordsToFree_29 rfl ?_
        refine vv_istore_n (L' := [(0, .ref (Y.2.1 (2))), (1, .int (c)), (2, .int ((pc_free σ o k) + (pc_cells (σ (pc_e (pc_re o k)) 2)))), (3, .int (nI (k)))]) (q := 31) hC dX2_recordsToFree_30 (by decide) rfl rfl rfl ?_
        refine vv_iincN (x := k) (L' := [(0, .ref (Y.2.1 (2))), (1, .int (c)), (2, .int ((pc_free σ o k) + (pc_cells (σ (pc_e (pc_re o k)) 2)))), (3, .int (nI (k + 1)))]) (q := 34) hC dX2_recordsToFree_31 rfl (by decide) rfl rfl rfl ?_
        refine vv_goto (tgt := 7) hC dX2_recordsToFree_34 (by decide) ?_
        exact ih_7 (k + 1) (by first | omega | (dsimp only; omega))  (by omega) (by rw [hv, show r - k = (r - (k + 1)) + 1 by omega]; exact if_pos ⟨by omega, Int32.not_le.mp c_17⟩)
  exact lp_7 0 (by omega) rfl
