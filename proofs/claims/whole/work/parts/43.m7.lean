set_option maxRecDepth 100000 in
set_option maxHeartbeats 4000000 in
theorem cm_X4_spare (l : Launch) (Y : vv_Y) (n : Nat) (hY : pm_sys Y n) (σ : vv_S) : vv_M l Y yX4_spare wsX4_spare { frames := 1, cells := 0, slots := 0, locals := 22 } [.ref (Y.2.1 (0))] σ (vv_R (.int ((pm_spare σ n).1)) ((pm_spare σ n).2)) := by
  refine vv_M.of (cc := cX4_spare) (maxL := 5) (ret := (some .int)) hY.ok (by decide) rfl (Nat.le_of_ble_eq_true rfl) ?_
  intro Z hl hp hC
  subst hl
  have hi_X4 : ∀ w ∈ u_ws RX4 TX4 25, w ∈ wsX4_spare := by decide +kernel
  have hf_down : Cond.fieldLink RX4 103 "ParityRowModel" (TX4 18).2.1 (TX4 18).2.2.1 ∈ wsX4_spare := by decide +kernel
  have hf_state : Cond.fieldLink RX4 24 "ParityRowModel" (TX4 5).2.1 (TX4 5).2.2.1 ∈ wsX4_spare := by decide +kernel
  have hf_built : Cond.fieldLink RX4 27 "ParityRowModel" (TX4 6).2.1 (TX4 6).2.2.1 ∈ wsX4_spare := by decide +kernel
  have hf_torn : Cond.fieldLink RX4 20 "ParityRowModel" (TX4 4).2.1 (TX4 4).2.2.1 ∈ wsX4_spare := by decide +kernel
  have hf_sums : Cond.fieldLink RX4 17 "ParityRowModel" (TX4 3).2.1 (TX4 3).2.2.1 ∈ wsX4_spare := by decide +kernel
  have hf_words : Cond.fieldLink RX4 13 "ParityRowModel" (TX4 2).2.1 (TX4 2).2.2.1 ∈ wsX4_spare := by decide +kernel
  have hlo := hY.lo
  have hhi := hY.hi
  obtain ⟨mm, hmm⟩ : ∃ k, k = (pm_nt σ n 0).toNatClampNeg := ⟨_, rfl⟩
  refine vv_loc (L' := [(0, .ref (Y.2.1 (0)))]) rfl ?_
  refine vv_aload_n (q := 1) hC dX4_spare_0 (x := Y.2.1 (0)) rfl rfl ?_
  refine pm_gM (q := 4) hY hC 18 hi_X4 hf_down (by decide) rfl (v := .int (σ 0 18)) rfl dX4_spare_1 rfl ?_
  refine vv_if_eq (x := σ 0 18) (q := 7) (tgt := 10) hC dX4_spare_4 (by decide) rfl (fun c_4 => ?_) (fun c_4 => ?_)
  · refine vv_aload_n (q := 11) hC dX4_spare_10 (x := Y.2.1 (0)) rfl rfl ?_
    refine vv_callV (n := 0) (k := 0) (As := []) (st := []) (q := 14) hC (hY.k (by decide)) (hY.M _) (by rw [hY.cl]; rfl) (cm_X4_notOn _ Y n hY σ  ) gX4_spare_X4_notOn rfl (by decide +kernel) dX4_spare_11 rfl rfl rfl (vv_kR ?_)
    refine vv_istore_n (L' := [(0, .ref (Y.2.1 (0))), (1, .int (pm_nt σ n 0))]) (q := 15) hC dX4_spare_14 (by decide) rfl rfl rfl ?_
    refine vv_iload_n (q := 16) hC dX4_spare_15 (x := pm_nt σ n 0) rfl rfl ?_
    refine vv_iconst (q := 17) hC ((-1)) dX4_spare_16 (by decide) rfl ?_
    refine vv_icmp_eq (x := pm_nt σ n 0) (y := (-1)) (q := 20) (tgt := 30) hC dX4_spare_17 (by decide) rfl (fun c_17 => ?_) (fun c_17 => ?_)
    · refine vv_bipush (q := 32) hC ((-103)) dX4_spare_30 (by decide) rfl ?_
      refine vv_iret (v := (-103)) hC dX4_spare_32 ?_
      rw [hp]
      unfold pm_spare
      rw [if_pos c_4, if_pos c_17]
      exact ⟨rfl, rfl⟩
    · have hm := pm_nt_nat hhi c_17
      rw [← hmm] at hm
      have hmn := hm.2
      refine vv_loc (L' := [(0, .ref (Y.2.1 (0))), (1, .int (nI (mm)))]) (by rw [← hm.1]) ?_
      refine vv_aload_n (q := 21) hC dX4_spare_20 (x := Y.2.1 (0)) rfl rfl ?_
      refine pm_gM (q := 24) hY hC 5 hi_X4 hf_state (by decide) rfl (v := .ref (Y.2.1 (4))) rfl dX4_spare_21 rfl ?_
      refine vv_iload_n (q := 25) hC dX4_spare_24 (x := nI (mm)) rfl rfl ?_
      refine pm_ld_state (q := 26) hY hC (i := mm) (by omega) dX4_spare_25 rfl ?_
      refine vv_iconst (q := 27) hC (nI 1) dX4_spare_26 (by decide) rfl ?_
      refine vv_icmp_eq (x := σ 4 mm) (y := nI (1)) (q := 30) (tgt := 33) hC dX4_spare_27 (by decide) rfl (fun c_27 => ?_) (fun c_27 => ?_)
      · refine vv_aload_n (q := 34) hC dX4_spare_33 (x := Y.2.1 (0)) rfl rfl ?_
        refine pm_gM (q := 37) hY hC 5 hi_X4 hf_state (by decide) rfl (v := .ref (Y.2.1 (4))) rfl dX4_spare_34 rfl ?_
        refine vv_iload_n (q := 38) hC dX4_spare_37 (x := nI (mm)) rfl rfl ?_
        refine vv_iconst (q := 39) hC (nI 2) dX4_spare_38 (by decide) rfl ?_
        refine pm_st_state (q := 40) hY hC (i := mm) (x := nI (2)) (by omega) dX4_spare_39 rfl ?_
        refine vv_aload_n (q := 41) hC dX4_spare_40 (x := Y.2.1 (0)) rfl rfl ?_
        refine pm_gM (q := 44) hY hC 6 hi_X4 hf_built (by decide) rfl (v := .ref (Y.2.1 (5))) rfl dX4_spare_41 rfl ?_
        refine vv_iload_n (q := 45) hC dX4_spare_44 (x := nI (mm)) rfl rfl ?_
        refine vv_iconst (q := 46) hC (nI 0) dX4_spare_45 (by decide) rfl ?_
        refine pm_st_built (q := 47) hY hC (i := mm) (x := nI (0)) (by omega) dX4_spare_46 rfl ?_
        refine vv_iconst (q := 48) hC (nI 0) dX4_spare_47 (by decide) rfl ?_
        refine vv_istore_n (L' := [(0, .ref (Y.2.1 (0))), (1, .int (nI (mm))), (2, .int (nI (0)))]) (q := 49) hC dX4_spare_48 (by decide) rfl rfl rfl ?_
        have lp_49 : ∀ s : Nat, (s ≤ 24) → vv_V Y 5 Z (pm_zr (vv_up (vv_up σ 4 mm (nI 2)) 5 mm (nI 0)) mm s (8 * s)) 49 [(0, .ref (Y.2.1 (0))), (1, .int (nI (mm))), (2, .int (nI (s)))] [] := by
          refine vv_ind (fun s => 24 - s) (fun s ih_49 => ?_)
          intro hs
          refine vv_iload_n (q := 50) hC dX4_spare_49 (x := nI (s)) rfl rfl ?_
          refine vv_bipush (q := 52) hC (nI 24) dX4_spare_50 (by decide) rfl ?_
          refine vv_icmpN_ge (x := s) (y := 24) (q := 55) (tgt := 111) hC dX4_spare_52 (by decide) (by omega) (by omega) rfl (fun c_52 => ?_) (fun c_52 => ?_)
          · refine vv_st (σ' := pm_sp σ mm) (by unfold pm_sp; rw [show s = 24 by omega]) ?_
            refine vv_iload_n (q := 112) hC dX4_spare_111 (x := nI (mm)) rfl rfl ?_
            refine vv_iret (v := nI (mm)) hC dX4_spare_112 ?_
            rw [hp]
            unfold pm_spare
            rw [if_pos c_4, if_neg c_17, ← hmm, if_pos c_27]
            exact ⟨congrArg (fun z => some (Value.int z)) hm.1.symm, rfl⟩
          · refine vv_aload_n (q := 56) hC dX4_spare_55 (x := Y.2.1 (0)) rfl rfl ?_
            refine vv_iload_n (q := 57) hC dX4_spare_56 (x := nI (mm)) rfl rfl ?_
            refine vv_iload_n (q := 58) hC dX4_spare_57 (x := nI (s)) rfl rfl ?_
            refine vv_callV (n := 2) (k := 0) (As := [.int (nI (mm)), .int (nI (s))]) (st := []) (q := 61) hC (hY.k (by decide)) (hY.M _) (by rw [hY.cl]; rfl) (cm_X4_at _ Y n hY (pm_zr (vv_up (vv_up σ 4 mm (nI 2)) 5 mm (nI 0)) mm s (8 * s)) mm s ) gX4_spare_X4_at rfl (by decide +kernel) dX4_spare_58 rfl rfl rfl (vv_kR ?_)
            refine vv_istore_n (L' := [(0, .ref (Y.2.1 (0))), (1, .int (nI (mm))), (2, .int (nI (s))), (3, .int (nI (24 * mm + s)))]) (q := 62) hC dX4_spare_61 (by decide) rfl rfl rfl ?_
            refine vv_aload_n (q := 63) hC dX4_spare_62 (x := Y.2.1 (0)) rfl rfl ?_
            refine pm_gM (q := 66) hY hC 4 hi_X4 hf_torn (by decide) rfl (v := .ref (Y.2.1 (3))) rfl dX4_spare_63 rfl ?_
            refine vv_iload_n (q := 67) hC dX4_spare_66 (x := nI (24 * mm + s)) rfl rfl ?_
            refine vv_iconst (q := 68) hC (nI 0) dX4_spare_67 (by decide) rfl ?_
            refine pm_st_torn (q := 69) hY hC (i := 24 * mm + s) (x := nI (0)) (by omega) dX4_spare_68 rfl ?_
            refine vv_aload_n (q := 70) hC dX4_spare_69 (x := Y.2.1 (0)) rfl rfl ?_
            refine pm_gM (q := 73) hY hC 3 hi_X4 hf_sums (by decide) rfl (v := .ref (Y.2.1 (2))) rfl dX4_spare_70 rfl ?_
            refine vv_iload_n (q := 74) hC dX4_spare_73 (x := nI (24 * mm + s)) rfl rfl ?_
            refine vv_iconst (q := 75) hC (nI 0) dX4_spare_74 (by decide) rfl ?_
            refine pm_st_sums (q := 76) hY hC (i := 24 * mm + s) (x := nI (0)) (by omega) dX4_spare_75 rfl ?_
            refine vv_st (σ' := pm_zr (vv_up (vv_up σ 4 mm (nI 2)) 5 mm (nI 0)) mm (s + 1) (8 * s)) (by rw [show vp_nar .boolean (nI 0) = nI 0 from by decide]; exact pm_zr_s) ?_
            refine vv_iconst (q := 77) hC (nI 0) dX4_spare_76 (by decide) rfl ?_
            refine vv_istore (L' := [(0, .ref (Y.2.1 (0))), (1, .int (nI (mm))), (2, .int (nI (s))), (3, .int (nI (24 * mm + s))), (4, .int (nI (0)))]) (q := 79) hC dX4_spare_77 (by decide) rfl rfl rfl ?_
            have lp_79 : ∀ i : Nat, (i ≤ 8) → vv_V Y 5 Z (pm_zr (vv_up (vv_up σ 4 mm (nI 2)) 5 mm (nI 0)) mm (s + 1) (8 * s + i)) 79 [(0, .ref (Y.2.1 (0))), (1, .int (nI (mm))), (2, .int (nI (s))), (3, .int (nI (24 * mm + s))), (4, .int (nI (i)))] [] := by
              refine vv_ind (fun i => 8 - i) (fun i ih_79 => ?_)
              intro hi8
              refine vv_iload (q := 81) hC dX4_spare_79 (x := nI (i)) rfl rfl ?_
              refine vv_bipush (q := 83) hC (nI 8) dX4_spare_81 (by decide) rfl ?_
              refine vv_icmpN_ge (x := i) (y := 8) (q := 86) (tgt := 105) hC dX4_spare_83 (by decide) (by omega) (by omega) rfl (fun c_83 => ?_) (fun c_83 => ?_)
              · refine vv_st (σ' := pm_zr (vv_up (vv_up σ 4 mm (nI 2)) 5 mm (nI 0)) mm (s + 1) (8 * (s + 1))) (by rw [show 8 * (s + 1) = 8 * s + i by omega]) ?_
                refine vv_iincN (x := s) (L' := [(0, .ref (Y.2.1 (0))), (1, .int (nI (mm))), (2, .int (nI (s + 1))), (3, .int (nI (24 * mm + s))), (4, .int (nI (i)))]) (q := 108) hC dX4_spare_105 rfl (by decide) rfl rfl rfl ?_
                refine vv_goto (tgt := 49) hC dX4_spare_108 (by decide) ?_
                refine vv_sub (L' := [(0, .ref (Y.2.1 (0))), (1, .int (nI (mm))), (2, .int (nI (s + 1)))]) (by simp) ?_
                exact ih_49 (s + 1) (by first | omega | (dsimp only; omega))  (by omega)
              · refine vv_aload_n (q := 87) hC dX4_spare_86 (x := Y.2.1 (0)) rfl rfl ?_
                refine pm_gM (q := 90) hY hC 2 hi_X4 hf_words (by decide) rfl (v := .ref (Y.2.1 (1))) rfl dX4_spare_87 rfl ?_
                refine vv_bipush (q := 92) hC (nI 8) dX4_spare_90 (by decide) rfl ?_
                refine vv_iload_n (q := 93) hC dX4_spare_92 (x := nI (24 * mm + s)) rfl rfl ?_
                refine vv_mulN (x := 8) (y := 24 * mm + s) (q := 94) hC dX4_spare_93 rfl ?_
                refine vv_iload (q := 96) hC dX4_spare_94 (x := nI (i)) rfl rfl ?_
                refine vv_addN (x := 8 * (24 * mm + s)) (y := i) (q := 97) hC dX4_spare_96 rfl ?_
                refine vv_iconst (q := 98) hC (nI 0) dX4_spare_97 (by decide) rfl ?_
                refine pm_st_words (q := 99) hY hC (i := (8 * (24 * mm + s)) + i) (x := nI (0)) (by omega) dX4_spare_98 rfl ?_
                refine vv_iincN (x := i) (L' := [(0, .ref (Y.2.1 (0))), (1, .int (nI (mm))), (2, .int (nI (s))), (3, .int (nI (24 * mm + s))), (4, .int (nI (i + 1)))]) (q := 102) hC dX4_spare_99 rfl (by decide) rfl rfl rfl ?_
                refine vv_goto (tgt := 79) hC dX4_spare_102 (by decide) ?_
                refine vv_st (σ' := pm_zr (vv_up (vv_up σ 4 mm (nI 2)) 5 mm (nI 0)) mm (s + 1) (8 * s + (i + 1))) (by rw [show 8 * ((24 * mm) + s) + i = 192 * mm + (8 * s + i) by omega]; exact pm_zr_c) ?_
                exact ih_79 (i + 1) (by first | omega | (dsimp only; omega))  (by omega)
            exact lp_79 0 (by omega)
        refine vv_st (σ' := pm_zr (vv_up (vv_up σ 4 mm (nI 2)) 5 mm (nI 0)) mm 0 (8 * 0)) (pm_zr_0.symm) ?_
        exact lp_49 0 (by omega)
      · refine vv_bipush (q := 32) hC ((-103)) dX4_spare_30 (by decide) rfl ?_
        refine vv_iret (v := (-103)) hC dX4_spare_32 ?_
        rw [hp]
        unfold pm_spare
        rw [if_pos c_4, if_neg c_17, ← hmm, if_neg c_27]
        exact ⟨rfl, rfl⟩
  · refine vv_bipush (q := 9) hC ((-100)) dX4_spare_7 (by decide) rfl ?_
    refine vv_iret (v := (-100)) hC dX4_spare_9 ?_
    rw [hp]
    unfold pm_spare
    rw [if_neg c_4]
    exact ⟨rfl, rfl⟩
set_option maxRecDepth 100000 in
set_option maxHeartbeats 4000000 in
theorem cm_X4_build (l : Launch) (Y : vv_Y) (n : Nat) (hY : pm_sys Y n) (σ : vv_S) (x : Int32) (hG : pm_bok n (pm_nt σ n 0).toNatClampNeg x.toNatClampNeg σ) : vv_M l Y yX4_build wsX4_build { frames := 5, cells := 0, slots := 0, locals := 120 } [.ref (Y.2.1 (0)), .int (x)] σ (vv_R (.int ((pm_build σ n x).1)) ((pm_build σ n x).2)) := by
  refine vv_M.of (cc := cX4_build) (maxL := 4) (ret := (some .int)) hY.ok (by decide) rfl (Nat.le_of_ble_eq_true rfl) ?_
  intro Z hl hp hC
  subst hl
  have hi_X4 : ∀ w ∈ u_ws RX4 TX4 25, w ∈ wsX4_build := by decide +kernel
  have hf_down : Cond.fieldLink RX4 103 "ParityRowModel" (TX4 18).2.1 (TX4 18).2.2.1 ∈ wsX4_build := by decide +kernel
  have hf_state : Cond.fieldLink RX4 24 "ParityRowModel" (TX4 5).2.1 (TX4 5).2.2.1 ∈ wsX4_build := by decide +kernel
  have hf_built : Cond.fieldLink RX4 27 "ParityRowModel" (TX4 6).2.1 (TX4 6).2.2.1 ∈ wsX4_build := by decide +kernel
  have hlo := hY.lo
  have hhi := hY.hi
  obtain ⟨kx, hkx⟩ : ∃ k, k = x.toNatClampNeg := ⟨_, rfl⟩
  obtain ⟨mm, hmm⟩ : ∃ k, k = (pm_nt σ n 0).toNatClampNeg := ⟨_, rfl⟩
  rw [← hmm, ← hkx] at hG
  refine vv_loc (L' := [(0, .ref (Y.2.1 (0))), (1, .int (x))]) rfl ?_
  refine vv_aload_n (q := 1) hC dX4_build_0 (x := Y.2.1 (0)) rfl rfl ?_
  refine pm_gM (q := 4) hY hC 18 hi_X4 hf_down (by decide) rfl (v := .int (σ 0 18)) rfl dX4_build_1 rfl ?_
  refine vv_if_eq (x := σ 0 18) (q := 7) (tgt := 10) hC dX4_build_4 (by decide) rfl (fun c_4 => ?_) (fun c_4 => ?_)
  · refine vv_iload_n (q := 11) hC dX4_build_10 (x := x) rfl rfl ?_
    refine vv_i2l (q := 12) hC (x.toInt64) dX4_build_11 rfl rfl ?_
    refine vv_lconst (q := 13) hC (lN 1) dX4_build_12 rfl rfl ?_
    refine vv_ldc2 (v := 24) (q := 16) hC (by decide +kernel) dX4_build_13 rfl ?_
    refine vv_callS (n := 3) (As := [.long (x.toInt64), .long (lN 1), .long (24)]) (st := []) (q := 19) hC (cm_X4_in _ Y n hY σ x.toInt64 (lN 1) 24 ) gX4_build_X4_in rfl (by decide +kernel) dX4_build_16 rfl rfl rfl (vv_kR ?_)
    refine vv_top (y := vv_B (¬ x < nI 1 ∧ x ≤ nI 24)) (vv_B_congr (by rw [show (24 : Int64) = lN 24 from rfl, pm_in1 (by omega)])) ?_
    refine vv_ifB_ne (b := ¬ x < nI 1 ∧ x ≤ nI 24) (q := 22) (tgt := 25) hC dX4_build_19 (by decide) rfl (fun c_19 => ?_) (fun c_19 => ?_)
    · have hx := pc_rng c_19.1 c_19.2 (by decide)
      rw [← hkx] at hx
      refine vv_loc (L' := [(0, .ref (Y.2.1 (0))), (1, .int (nI (kx)))]) (by rw [← hx.1]) ?_
      refine vv_aload_n (q := 26) hC dX4_build_25 (x := Y.2.1 (0)) rfl rfl ?_
      refine vv_callV (n := 0) (k := 0) (As := []) (st := []) (q := 29) hC (hY.k (by decide)) (hY.M _) (by rw [hY.cl]; rfl) (cm_X4_notOn _ Y n hY σ  ) gX4_build_X4_notOn rfl (by decide +kernel) dX4_build_26 rfl rfl rfl (vv_kR ?_)
      refine vv_istore_n (L' := [(0, .ref (Y.2.1 (0))), (1, .int (nI (kx))), (2, .int (pm_nt σ n 0))]) (q := 30) hC dX4_build_29 (by decide) rfl rfl rfl ?_
      refine vv_iload_n (q := 31) hC dX4_build_30 (x := pm_nt σ n 0) rfl rfl ?_
      refine vv_iconst (q := 32) hC ((-1)) dX4_build_31 (by decide) rfl ?_
      refine vv_icmp_eq (x := pm_nt σ n 0) (y := (-1)) (q := 35) (tgt := 45) hC dX4_build_32 (by decide) rfl (fun c_32 => ?_) (fun c_32 => ?_)
      · refine vv_bipush (q := 47) hC ((-103)) dX4_build_45 (by decide) rfl ?_
        refine vv_iret (v := (-103)) hC dX4_build_47 ?_
        rw [hp]
        unfold pm_build
        rw [if_pos c_4, if_pos c_19, if_pos c_32]
        exact ⟨rfl, rfl⟩
      · have hm := pm_nt_nat hhi c_32
        rw [← hmm] at hm
        have hmn := hm.2
        refine vv_loc (L' := [(0, .ref (Y.2.1 (0))), (1, .int (nI (kx))), (2, .int (nI (mm)))]) (by rw [← hm.1]) ?_
        refine vv_aload_n (q := 36) hC dX4_build_35 (x := Y.2.1 (0)) rfl rfl ?_
        refine pm_gM (q := 39) hY hC 5 hi_X4 hf_state (by decide) rfl (v := .ref (Y.2.1 (4))) rfl dX4_build_36 rfl ?_
        refine vv_iload_n (q := 40) hC dX4_build_39 (x := nI (mm)) rfl rfl ?_
        refine pm_ld_state (q := 41) hY hC (i := mm) (by omega) dX4_build_40 rfl ?_
        refine vv_iconst (q := 42) hC (nI 2) dX4_build_41 (by decide) rfl ?_
        refine vv_icmp_eq (x := σ 4 mm) (y := nI (2)) (q := 45) (tgt := 48) hC dX4_build_42 (by decide) rfl (fun c_42 => ?_) (fun c_42 => ?_)
        · refine vv_iconst (q := 49) hC (nI 0) dX4_build_48 (by decide) rfl ?_
          refine vv_istore_n (L' := [(0, .ref (Y.2.1 (0))), (1, .int (nI (kx))), (2, .int (nI (mm))), (3, .int (nI (0)))]) (q := 50) hC dX4_build_49 (by decide) rfl rfl rfl ?_
          have lp_50 : ∀ k : Nat, ∀ τ : vv_S, (k ≤ kx) → (pm_bok n mm (kx - k) τ) → (pm_bl n mm kx σ = pm_bl n mm (kx - k) τ) → vv_V Y 4 Z τ 50 [(0, .ref (Y.2.1 (0))), (1, .int (nI (kx))), (2, .int (nI (mm))), (3, .int (nI (k)))] [] := by
            refine vv_ind (fun k => kx - k) (fun k ih_50 => ?_)
            intro τ hk hg hv
            refine vv_iload_n (q := 51) hC dX4_build_50 (x := nI (k)) rfl rfl ?_
            refine vv_iload_n (q := 52) hC dX4_build_51 (x := nI (kx)) rfl rfl ?_
            refine vv_icmpN_ge (x := k) (y := kx) (q := 55) (tgt := 82) hC dX4_build_52 (by decide) (by omega) (by omega) rfl (fun c_52 => ?_) (fun c_52 => ?_)
            · refine vv_aload_n (q := 83) hC dX4_build_82 (x := Y.2.1 (0)) rfl rfl ?_
              refine pm_gM (q := 86) hY hC 5 hi_X4 hf_state (by decide) rfl (v := .ref (Y.2.1 (4))) rfl dX4_build_83 rfl ?_
              refine vv_iload_n (q := 87) hC dX4_build_86 (x := nI (mm)) rfl rfl ?_
              refine pm_ld_state (q := 88) hY hC (i := mm) (by omega) dX4_build_87 rfl ?_
              refine vv_iconst (q := 89) hC (nI 2) dX4_build_88 (by decide) rfl ?_
              refine vv_icmp_ne (x := τ 4 mm) (y := nI (2)) (q := 92) (tgt := 104) hC dX4_build_89 (by decide) rfl (fun c_89 => ?_) (fun c_89 => ?_)
              · refine vv_iconst (q := 105) hC (nI 0) dX4_build_104 (by decide) rfl ?_
                refine vv_iret (v := nI (0)) hC dX4_build_105 ?_
                rw [hp]
                unfold pm_build
                have hw : pm_bl n mm kx σ = (true, τ) := by rw [hv, show kx - k = 0 by omega]; rfl
                rw [if_pos c_4, if_pos c_19, if_neg c_32, ← hmm, if_pos c_42, ← hkx, if_pos (by rw [hw]), hw]
                exact ⟨congrArg (fun z => some (Value.int z)) (if_neg c_89).symm, rfl⟩
              · refine vv_bipush (q := 94) hC (nI 24) dX4_build_92 (by decide) rfl ?_
                refine vv_aload_n (q := 95) hC dX4_build_94 (x := Y.2.1 (0)) rfl rfl ?_
                refine pm_gM (q := 98) hY hC 6 hi_X4 hf_built (by decide) rfl (v := .ref (Y.2.1 (5))) rfl dX4_build_95 rfl ?_
                refine vv_iload_n (q := 99) hC dX4_build_98 (x := nI (mm)) rfl rfl ?_
                refine pm_ld_built (q := 100) hY hC (i := mm) (by omega) dX4_build_99 rfl ?_
                refine vv_isub (x := nI (24)) (y := τ 5 mm) (q := 101) hC dX4_build_100 rfl ?_
                refine vv_goto (tgt := 105) hC dX4_build_101 (by decide) ?_
                refine vv_iret (v := (nI (24)) - (τ 5 mm)) hC dX4_build_105 ?_
                rw [hp]
                unfold pm_build
                have hw : pm_bl n mm kx σ = (true, τ) := by rw [hv, show kx - k = 0 by omega]; rfl
                rw [if_pos c_4, if_pos c_19, if_neg c_32, ← hmm, if_pos c_42, ← hkx, if_pos (by rw [hw]), hw]
                exact ⟨congrArg (fun z => some (Value.int z)) (if_pos c_89).symm, rfl⟩
            · refine vv_aload_n (q := 56) hC dX4_build_55 (x := Y.2.1 (0)) rfl rfl ?_
              refine pm_gM (q := 59) hY hC 5 hi_X4 hf_state (by decide) rfl (v := .ref (Y.2.1 (4))) rfl dX4_build_56 rfl ?_
              refine vv_iload_n (q := 60) hC dX4_build_59 (x := nI (mm)) rfl rfl ?_
              refine pm_ld_state (q := 61) hY hC (i := mm) (by omega) dX4_build_60 rfl ?_
              refine vv_iconst (q := 62) hC (nI 2) dX4_build_61 (by decide) rfl ?_
              refine vv_icmp_ne (x := τ 4 mm) (y := nI (2)) (q := 65) (tgt := 82) hC dX4_build_62 (by decide) rfl (fun c_62 => ?_) (fun c_62 => ?_)
              · refine vv_aload_n (q := 83) hC dX4_build_82 (x := Y.2.1 (0)) rfl rfl ?_
                refine pm_gM (q := 86) hY hC 5 hi_X4 hf_state (by decide) rfl (v := .ref (Y.2.1 (4))) rfl dX4_build_83 rfl ?_
                refine vv_iload_n (q := 87) hC dX4_build_86 (x := nI (mm)) rfl rfl ?_
                refine pm_ld_state (q := 88) hY hC (i := mm) (by omega) dX4_build_87 rfl ?_
                refine vv_iconst (q := 89) hC (nI 2) dX4_build_88 (by decide) rfl ?_
                refine vv_icmp_ne (x := τ 4 mm) (y := nI (2)) (q := 92) (tgt := 104) hC dX4_build_89 (by decide) rfl (fun c_89 => ?_) (fun c_89 => ?_)
                · refine vv_iconst (q := 105) hC (nI 0) dX4_build_104 (by decide) rfl ?_
                  refine vv_iret (v := nI (0)) hC dX4_build_105 ?_
                  rw [hp]
                  unfold pm_build
                  have hw : pm_bl n mm kx σ = (true, τ) := by rw [hv, show kx - k = (kx - (k + 1)) + 1 by omega]; exact if_neg c_62
                  rw [if_pos c_4, if_pos c_19, if_neg c_32, ← hmm, if_pos c_42, ← hkx, if_pos (by rw [hw]), hw]
                  exact ⟨congrArg (fun z => some (Value.int z)) (if_neg c_89).symm, rfl⟩
                · refine vv_bipush (q := 94) hC (nI 24) dX4_build_92 (by decide) rfl ?_
                  refine vv_aload_n (q := 95) hC dX4_build_94 (x := Y.2.1 (0)) rfl rfl ?_
                  refine pm_gM (q := 98) hY hC 6 hi_X4 hf_built (by decide) rfl (v := .ref (Y.2.1 (5))) rfl dX4_build_95 rfl ?_
                  refine vv_iload_n (q := 99) hC dX4_build_98 (x := nI (mm)) rfl rfl ?_
                  refine pm_ld_built (q := 100) hY hC (i := mm) (by omega) dX4_build_99 rfl ?_
                  refine vv_isub (x := nI (24)) (y := τ 5 mm) (q := 101) hC dX4_build_100 rfl ?_
                  refine vv_goto (tgt := 105) hC dX4_build_101 (by decide) ?_
                  refine vv_iret (v := (nI (24)) - (τ 5 mm)) hC dX4_build_105 ?_
                  rw [hp]
                  unfold pm_build
                  have hw : pm_bl n mm kx σ = (true, τ) := by rw [hv, show kx - k = (kx - (k + 1)) + 1 by omega]; exact if_neg c_62
                  rw [if_pos c_4, if_pos c_19, if_neg c_32, ← hmm, if_pos c_42, ← hkx, if_pos (by rw [hw]), hw]
                  exact ⟨congrArg (fun z => some (Value.int z)) (if_pos c_89).symm, rfl⟩
              · have hgo := (by rw [show kx - k = (kx - (k + 1)) + 1 by omega] at hg; exact hg c_62 : pm_J τ ∧ τ 5 mm = nI (pm_bb τ mm) ∧ pm_bb τ mm < 24 ∧ ((pm_bu τ n mm (pm_bb τ mm) (pm_t τ)).1 = true → pm_bok n mm (kx - (k + 1)) (pm_bu τ n mm (pm_bb τ mm) (pm_t τ)).2))
                refine vv_aload_n (q := 66) hC dX4_build_65 (x := Y.2.1 (0)) rfl rfl ?_
                refine vv_iload_n (q := 67) hC dX4_build_66 (x := nI (mm)) rfl rfl ?_
                refine vv_callV (n := 1) (k := 0) (As := [.int (nI (mm))]) (st := []) (q := 70) hC (hY.k (by decide)) (hY.M _) (by rw [hY.cl]; rfl) (cm_X4_buildsUp _ Y n hY τ mm (pm_bb τ mm) (pm_t τ) (by omega) hgo.2.2.1 hgo.1 hgo.2.1 rfl) gX4_build_X4_buildsUp rfl (by decide +kernel) dX4_build_67 rfl rfl rfl (vv_kR ?_)
                refine vv_ifB_ne (b := (pm_bu τ n mm (pm_bb τ mm) (pm_t τ)).1 = true) (q := 73) (tgt := 76) hC dX4_build_70 (by decide) rfl (fun c_70 => ?_) (fun c_70 => ?_)
                · refine vv_iincN (x := k) (L' := [(0, .ref (Y.2.1 (0))), (1, .int (nI (kx))), (2, .int (nI (mm))), (3, .int (nI (k + 1)))]) (q := 79) hC dX4_build_76 rfl (by decide) rfl rfl rfl ?_
                  refine vv_goto (tgt := 50) hC dX4_build_79 (by decide) ?_
                  exact ih_50 (k + 1) (by first | omega | (dsimp only; omega)) ((pm_bu τ n mm (pm_bb τ mm) (pm_t τ)).2) (by omega) (hgo.2.2.2 c_70) (by rw [hv, show kx - k = (kx - (k + 1)) + 1 by omega]; exact (if_pos c_62).trans (if_pos c_70))
                · refine vv_bipush (q := 75) hC ((-106)) dX4_build_73 (by decide) rfl ?_
                  refine vv_iret (v := (-106)) hC dX4_build_75 ?_
                  rw [hp]
                  unfold pm_build
                  have hw : pm_bl n mm kx σ = (false, (pm_bu τ n mm (pm_bb τ mm) (pm_t τ)).2) := by rw [hv, show kx - k = (kx - (k + 1)) + 1 by omega]; exact (if_pos c_62).trans (if_neg c_70)
                  rw [if_pos c_4, if_pos c_19, if_neg c_32, ← hmm, if_pos c_42, ← hkx, if_neg (by rw [hw]; exact fun z => by cases z), hw]
                  exact ⟨rfl, rfl⟩
          exact lp_50 0 σ (by omega) hG rfl
        · refine vv_bipush (q := 47) hC ((-103)) dX4_build_45 (by decide) rfl ?_
          refine vv_iret (v := (-103)) hC dX4_build_47 ?_
          rw [hp]
          unfold pm_build
          rw [if_pos c_4, if_pos c_19, if_neg c_32, ← hmm, if_neg c_42]
          exact ⟨rfl, rfl⟩
    · refine vv_bipush (q := 24) hC ((-102)) dX4_build_22 (by decide) rfl ?_
      refine vv_iret (v := (-102)) hC dX4_build_24 ?_
      rw [hp]
      unfold pm_build
      rw [if_pos c_4, if_neg c_19]
      exact ⟨rfl, rfl⟩
  · refine vv_bipush (q := 9) hC ((-100)) dX4_build_7 (by decide) rfl ?_
    refine vv_iret (v := (-100)) hC dX4_build_9 ?_
    rw [hp]
    unfold pm_build
    rw [if_neg c_4]
    exact ⟨rfl, rfl⟩
set_option maxRecDepth 100000 in
set_option maxHeartbeats 4000000 in
theorem cm_X4_write (l : Launch) (Y : vv_Y) (n : Nat) (hY : pm_sys Y n) (σ : vv_S) (b : Int32) (c : Int32) (v : Int32) (hG : σ 0 18 = 0 → pc_isb n b → (¬ c < nI 1 ∧ c ≤ nI (2 * (n - 1))) → pc_isb n (nI (b.toNatClampNeg + c.toNatClampNeg - 1)) → pm_wok n b.toNatClampNeg c.toNatClampNeg v c.toNatClampNeg 0 σ) : vv_M l Y yX4_write wsX4_write { frames := 7, cells := 0, slots := 0, locals := 165 } [.ref (Y.2.1 (0)), .int (b), .int (c), .int (v)] σ (vv_R (.int ((pm_write σ n b c v).1)) ((pm_write σ n b c v).2)) := by
  refine vv_M.of (cc := cX4_write) (maxL := 9) (ret := (some .int)) hY.ok (by decide) rfl (Nat.le_of_ble_eq_true rfl) ?_
  intro Z hl hp hC
  subst hl
  have hi_X4 : ∀ w ∈ u_ws RX4 TX4 25, w ∈ wsX4_write := by decide +kernel
  have hf_down : Cond.fieldLink RX4 103 "ParityRowModel" (TX4 18).2.1 (TX4 18).2.2.1 ∈ wsX4_write := by decide +kernel
  have hf_many : Cond.fieldLink RX4 69 "ParityRowModel" (TX4 1).2.1 (TX4 1).2.2.1 ∈ wsX4_write := by decide +kernel
  have hf_given : Cond.fieldLink RX4 66 "ParityRowModel" (TX4 24).2.1 (TX4 24).2.2.1 ∈ wsX4_write := by decide +kernel
  have hlo := hY.lo
  have hhi := hY.hi
  obtain ⟨kb, hkb⟩ : ∃ k, k = b.toNatClampNeg := ⟨_, rfl⟩
  obtain ⟨kc, hkc⟩ : ∃ k, k = c.toNatClampNeg := ⟨_, rfl⟩
  have hd0 : 0 < n - 1 := by omega
  rw [← hkb, ← hkc] at hG
  refine vv_loc (L' := [(0, .ref (Y.2.1 (0))), (1, .int (b)), (2, .int (c)), (3, .int (v))]) rfl ?_
  refine vv_aload_n (q := 1) hC dX4_write_0 (x := Y.2.1 (0)) rfl rfl ?_
  refine pm_gM (q := 4) hY hC 18 hi_X4 hf_down (by decide) rfl (v := .int (σ 0 18)) rfl dX4_write_1 rfl ?_
  refine vv_if_eq (x := σ 0 18) (q := 7) (tgt := 10) hC dX4_write_4 (by decide) rfl (fun c_4 => ?_) (fun c_4 => ?_)
  · refine vv_aload_n (q := 11) hC dX4_write_10 (x := Y.2.1 (0)) rfl rfl ?_
    refine vv_iload_n (q := 12) hC dX4_write_11 (x := b) rfl rfl ?_
    refine vv_i2l (q := 13) hC (b.toInt64) dX4_write_12 rfl rfl ?_
    refine vv_callV (n := 1) (k := 0) (As := [.long (b.toInt64)]) (st := []) (q := 16) hC (hY.k (by decide)) (hY.M _) (by rw [hY.cl]; rfl) (cm_X4_isBlock _ Y n hY σ b.toInt64 ) gX4_write_X4_isBlock rfl (by decide +kernel) dX4_write_13 rfl rfl rfl (vv_kR ?_)
    refine vv_top (y := vv_B (pc_isb n b)) (vv_B_congr (pm_blk hlo hhi)) ?_
    refine vv_ifB_ne (b := pc_isb n b) (q := 19) (tgt := 22) hC dX4_write_16 (by decide) rfl (fun c_16 => ?_) (fun c_16 => ?_)
    · refine vv_iload_n (q := 23) hC dX4_write_22 (x := c) rfl rfl ?_
      refine vv_i2l (q := 24) hC (c.toInt64) dX4_write_23 rfl rfl ?_
      refine vv_lconst (q := 25) hC (lN 1) dX4_write_24 rfl rfl ?_
      refine vv_iconst (q := 26) hC (nI 2) dX4_write_25 (by decide) rfl ?_
      refine vv_aload_n (q := 27) hC dX4_write_26 (x := Y.2.1 (0)) rfl rfl ?_
      refine pm_gM (q := 30) hY hC 1 hi_X4 hf_many (by decide) rfl (v := .int (nI (n))) rfl dX4_write_27 rfl ?_
      refine vv_iconst (q := 31) hC (nI 1) dX4_write_30 (by decide) rfl ?_
      refine vv_subN (x := n) (y := 1) (q := 32) hC dX4_write_31 (by omega) rfl ?_
      refine vv_mulN (x := 2) (y := n - 1) (q := 33) hC dX4_write_32 rfl ?_
      refine vv_i2l (q := 34) hC ((nI (2 * (n - 1))).toInt64) dX4_write_33 rfl rfl ?_
      refine vv_callS (n := 3) (As := [.long (c.toInt64), .long (lN 1), .long ((nI (2 * (n - 1))).toInt64)]) (st := []) (q := 37) hC (cm_X4_in _ Y n hY σ c.toInt64 (lN 1) ((nI (2 * (n - 1))).toInt64) ) gX4_write_X4_in rfl (by decide +kernel) dX4_write_34 rfl rfl rfl (vv_kR ?_)
      refine vv_top (y := vv_B (¬ c < nI 1 ∧ c ≤ nI (2 * (n - 1)))) (vv_B_congr (by rw [pm_l (by omega), pm_in1 (by omega)])) ?_
      refine vv_ifB_ne (b := ¬ c < nI 1 ∧ c ≤ nI (2 * (n - 1))) (q := 40) (tgt := 43) hC dX4_write_37 (by decide) rfl (fun c_37 => ?_) (fun c_37 => ?_)
      · have hn_b := pc_nat (b := b) (N := 24 * (n - 1)) c_16 (by omega)
        have hx := pc_rng c_37.1 c_37.2 (by omega)
        rw [← hkb] at hn_b
        rw [← hkc] at hx
        refine vv_loc (L' := [(0, .ref (Y.2.1 (0))), (1, .int (nI (kb))), (2, .int (nI (kc))), (3, .int (v))]) (by rw [← hn_b.1, ← hx.1]) ?_
        refine vv_aload_n (q := 44) hC dX4_write_43 (x := Y.2.1 (0)) rfl rfl ?_
        refine vv_iload_n (q := 45) hC dX4_write_44 (x := nI (kb)) rfl rfl ?_
        refine vv_i2l (q := 46) hC ((nI (kb)).toInt64) dX4_write_45 rfl rfl ?_
        refine vv_iload_n (q := 47) hC dX4_write_46 (x := nI (kc)) rfl rfl ?_
        refine vv_i2l (q := 48) hC ((nI (kc)).toInt64) dX4_write_47 rfl rfl ?_
        refine vv_ladd (q := 49) hC dX4_write_48 rfl ?_
        refine vv_lconst (q := 50) hC (lN 1) dX4_write_49 rfl rfl ?_
        refine vv_lsub (q := 51) hC dX4_write_50 rfl ?_
        refine vv_topl (y := lN (kb + kc - 1)) (by rw [pm_l (by omega), pm_l (by omega), lN_add, lN_sub (by omega)]) ?_
        refine vv_callV (n := 1) (k := 0) (As := [.long (lN (kb + kc - 1))]) (st := []) (q := 54) hC (hY.k (by decide)) (hY.M _) (by rw [hY.cl]; rfl) (cm_X4_isBlock _ Y n hY σ (lN (kb + kc - 1)) ) gX4_write_X4_isBlock rfl (by decide +kernel) dX4_write_51 rfl rfl rfl (vv_kR ?_)
        refine vv_top (y := vv_B (pc_isb n (nI (kb + kc - 1)))) (vv_B_congr (by rw [← pm_l (k := kb + kc - 1) (by omega)]; exact pm_blk hlo hhi)) ?_
        refine vv_ifB_ne (b := pc_isb n (nI (kb + kc - 1))) (q := 57) (tgt := 60) hC dX4_write_54 (by decide) rfl (fun c_54 => ?_) (fun c_54 => ?_)
        · have hg0 := hG c_4 c_16 c_37 c_54
          have hl : kb + kc - 1 < 24 * (n - 1) := (nI_ltI (by omega) (by omega)).mp c_54.2
          refine vv_iconst (q := 61) hC (nI 0) dX4_write_60 (by decide) rfl ?_
          refine vv_istore (L' := [(0, .ref (Y.2.1 (0))), (1, .int (nI (kb))), (2, .int (nI (kc))), (3, .int (v)), (4, .int (nI (0)))]) (q := 63) hC dX4_write_61 (by decide) rfl rfl rfl ?_
          have lp_63 : ∀ f : Nat, ∀ k : Nat, ∀ τ : vv_S, (kc - k ≤ f) → (k ≤ kc) → (pm_wok n kb kc v f k τ) → (pm_wr n kb kc v kc 0 σ = pm_wr n kb kc v f k τ) → vv_V Y 9 Z τ 63 [(0, .ref (Y.2.1 (0))), (1, .int (nI (kb))), (2, .int (nI (kc))), (3, .int (v)), (4, .int (nI (k)))] [] := by
            refine vv_ind (fun f => f) (fun f ih_63 => ?_)
            intro k τ hfk hkc2 hg hv
            refine vv_iload (q := 65) hC dX4_write_63 (x := nI (k)) rfl rfl ?_
            refine vv_iload_n (q := 66) hC dX4_write_65 (x := nI (kc)) rfl rfl ?_
            refine vv_icmpN_ge (x := k) (y := kc) (q := 69) (tgt := 195) hC dX4_write_66 (by decide) (by omega) (by omega) rfl (fun c_66 => ?_) (fun c_66 => ?_)
            · refine vv_iload_n (q := 196) hC dX4_write_195 (x := nI (kc)) rfl rfl ?_
              refine vv_iret (v := nI (kc)) hC dX4_write_196 ?_
              rw [hp]
              unfold pm_write
              rw [← hkb, ← hkc]
              have hw : pm_wr n kb kc v kc 0 σ = (nI 0, τ) := by
                rw [hv]
                rcases f with _ | f
                · rfl
                · exact if_neg (by omega)
              rw [if_pos c_4, if_pos c_16, if_pos c_37, if_pos c_54, if_pos (by rw [hw]; rfl), hw]
              exact ⟨congrArg (fun z => some (Value.int z)) hx.1.symm, rfl⟩
            · have hgo := (by rw [show f = (f - 1) + 1 by omega] at hg; exact hg (by omega) : pm_J τ ∧ ((pm_ww τ n kb kc k v).1 = 0 → pm_wok n kb kc v (f - 1) (pm_wt τ n kb kc k v).1 (pm_ww τ n kb kc k v).2))
              have hs24 : (kb + k) / (n - 1) < 24 := (pc_dm hlo (show kb + k < 24 * (n - 1) by omega)).1
              refine vv_iload_n (q := 70) hC dX4_write_69 (x := nI (kb)) rfl rfl ?_
              refine vv_iload (q := 72) hC dX4_write_70 (x := nI (k)) rfl rfl ?_
              refine vv_addN (x := kb) (y := k) (q := 73) hC dX4_write_72 rfl ?_
              refine vv_aload_n (q := 74) hC dX4_write_73 (x := Y.2.1 (0)) rfl rfl ?_
              refine pm_gM (q := 77) hY hC 1 hi_X4 hf_many (by decide) rfl (v := .int (nI (n))) rfl dX4_write_74 rfl ?_
              refine vv_iconst (q := 78) hC (nI 1) dX4_write_77 (by decide) rfl ?_
              refine vv_subN (x := n) (y := 1) (q := 79) hC dX4_write_78 (by omega) rfl ?_
              refine vv_divN (x := kb + k) (y := n - 1) (q := 80) hC dX4_write_79 (by omega) (by omega) (by omega) rfl ?_
              refine vv_istore (L' := [(0, .ref (Y.2.1 (0))), (1, .int (nI (kb))), (2, .int (nI (kc))), (3, .int (v)), (4, .int (nI (k))), (5, .int (nI ((kb + k) / (n - 1))))]) (q := 82) hC dX4_write_80 (by decide) rfl rfl rfl ?_
              refine vv_iconst (q := 83) hC (nI 0) dX4_write_82 (by decide) rfl ?_
              refine vv_istore (L' := [(0, .ref (Y.2.1 (0))), (1, .int (nI (kb))), (2, .int (nI (kc))), (3, .int (v)), (4, .int (nI (k))), (5, .int (nI ((kb + k) / (n - 1)))), (6, .int (nI (0)))]) (q := 85) hC dX4_write_83 (by decide) rfl rfl rfl ?_
              have lp_85 : ∀ j : Nat, ∀ y : Int32, ∀ ρ : vv_S, (k ≤ j) → (j ≤ kc) → (pm_wb n kb kc ((kb + k) / (n - 1)) v (kc - k) k (nI 0) τ = pm_wb n kb kc ((kb + k) / (n - 1)) v (kc - j) j y ρ) → vv_V Y 9 Z ρ 85 [(0, .ref (Y.2.1 (0))), (1, .int (nI (kb))), (2, .int (nI (kc))), (3, .int (v)), (4, .int (nI (j))), (5, .int (nI ((kb + k) / (n - 1)))), (6, .int (y))] [] := by
                refine vv_ind (fun j => kc - j) (fun j ih_85 => ?_)
                intro y ρ hkj hjc hu
                have hdl := Nat.mod_lt (kb + j) hd0
                have hjd : (kb + j) / (n - 1) ≤ kb + j := Nat.div_le_self _ _
                refine vv_iload (q := 87) hC dX4_write_85 (x := nI (j)) rfl rfl ?_
                refine vv_iload_n (q := 88) hC dX4_write_87 (x := nI (kc)) rfl rfl ?_
                refine vv_icmpN_ge (x := j) (y := kc) (q := 91) (tgt := 174) hC dX4_write_88 (by decide) (by omega) (by omega) rfl (fun c_88 => ?_) (fun c_88 => ?_)
                · have hwt : pm_wt τ n kb kc k v = (j, y, ρ) := by
                    unfold pm_wt
                    rw [hu]
                    rw [show kc - j = 0 by omega]; rfl
                  have hrow : ∀ i, i ≠ 15 → ρ i = τ i := fun i hi => by
                    have := pm_wb_o (n := n) (kb := kb) (kc := kc) (s := (kb + k) / (n - 1)) (v := v) hi (kc - k) k (nI 0) τ
                    unfold pm_wt at hwt
                    rw [hwt] at this
                    exact this
                  have hww : pm_ww τ n kb kc k v = pm_st ρ n (pm_r τ) ((kb + k) / (n - 1)) y := by unfold pm_ww; rw [hwt]
                  have hgt : k < j := by have := pm_wt_gt (τ := τ) (n := n) (kb := kb) (v := v) (show k < kc by omega); rw [hwt] at this; exact this
                  refine vv_aload_n (q := 175) hC dX4_write_174 (x := Y.2.1 (0)) rfl rfl ?_
                  refine vv_iload (q := 177) hC dX4_write_175 (x := nI ((kb + k) / (n - 1))) rfl rfl ?_
                  refine vv_iload (q := 179) hC dX4_write_177 (x := y) rfl rfl ?_
                  refine vv_callV (n := 2) (k := 0) (As := [.int (nI ((kb + k) / (n - 1))), .int (y)]) (st := []) (q := 182) hC (hY.k (by decide)) (hY.M _) (by rw [hY.cl]; rfl) (cm_X4_stripeIs _ Y n hY ρ (pm_r τ) ((kb + k) / (n - 1)) y (hgo.1.same (congrFun (hrow 0 (by decide)) 8) (congrFun (hrow 0 (by decide)) 20) (hrow 7 (by decide)) (hrow 10 (by decide))) (by unfold pm_r; rw [hrow 0 (by decide)]) hs24) gX4_write_X4_stripeIs rfl (by decide +kernel) dX4_write_179 rfl rfl rfl (vv_kR ?_)
                  refine vv_istore (L' := [(0, .ref (Y.2.1 (0))), (1, .int (nI (kb))), (2, .int (nI (kc))), (3, .int (v)), (4, .int (nI (j))), (5, .int (nI ((kb + k) / (n - 1)))), (6, .int (y)), (7, .int ((pm_st ρ n (pm_r τ) ((kb + k) / (n - 1)) y).1))]) (q := 184) hC dX4_write_182 (by decide) rfl rfl rfl ?_
                  refine vv_iload (q := 186) hC dX4_write_184 (x := (pm_st ρ n (pm_r τ) ((kb + k) / (n - 1)) y).1) rfl rfl ?_
                  refine vv_if_eq (x := (pm_st ρ n (pm_r τ) ((kb + k) / (n - 1)) y).1) (q := 189) (tgt := 192) hC dX4_write_186 (by decide) rfl (fun c_186 => ?_) (fun c_186 => ?_)
                  · refine vv_goto (tgt := 63) hC dX4_write_192 (by decide) ?_
                    refine vv_sub (L' := [(0, .ref (Y.2.1 (0))), (1, .int (nI (kb))), (2, .int (nI (kc))), (3, .int (v)), (4, .int (nI (j)))]) (by simp) ?_
                    exact ih_63 (f - 1) (by first | omega | (dsimp only; omega)) j ((pm_st ρ n (pm_r τ) ((kb + k) / (n - 1)) y).2) (by omega) (by omega) (by have h9 := hgo.2 (by rw [hww]; exact c_186); rw [hwt, hww] at h9; exact h9) (by rw [hv, show f = (f - 1) + 1 by omega]; show (if _ then _ else _) = _; rw [if_pos (by omega), if_pos (by rw [hww]; exact c_186), hww, hwt]; rfl)
                  · refine vv_iload (q := 191) hC dX4_write_189 (x := (pm_st ρ n (pm_r τ) ((kb + k) / (n - 1)) y).1) rfl rfl ?_
                    refine vv_iret (v := (pm_st ρ n (pm_r τ) ((kb + k) / (n - 1)) y).1) hC dX4_write_191 ?_
                    rw [hp]
                    unfold pm_write
                    rw [← hkb, ← hkc]
                    have hw : pm_wr n kb kc v kc 0 σ = pm_ww τ n kb kc k v := by rw [hv, show f = (f - 1) + 1 by omega]; exact (if_pos (by omega)).trans (if_neg (by rw [hww]; exact c_186))
                    rw [if_pos c_4, if_pos c_16, if_pos c_37, if_pos c_54, if_neg (by rw [hw, hww]; exact c_186), hw, hww]
                    exact ⟨rfl, rfl⟩
                · refine vv_iload_n (q := 92) hC dX4_write_91 (x := nI (kb)) rfl rfl ?_
                  refine vv_iload (q := 94) hC dX4_write_92 (x := nI (j)) rfl rfl ?_
                  refine vv_addN (x := kb) (y := j) (q := 95) hC dX4_write_94 rfl ?_
                  refine vv_aload_n (q := 96) hC dX4_write_95 (x := Y.2.1 (0)) rfl rfl ?_
                  refine pm_gM (q := 99) hY hC 1 hi_X4 hf_many (by decide) rfl (v := .int (nI (n))) rfl dX4_write_96 rfl ?_
                  refine vv_iconst (q := 100) hC (nI 1) dX4_write_99 (by decide) rfl ?_
                  refine vv_subN (x := n) (y := 1) (q := 101) hC dX4_write_100 (by omega) rfl ?_
                  refine vv_divN (x := kb + j) (y := n - 1) (q := 102) hC dX4_write_101 (by omega) (by omega) (by omega) rfl ?_
                  refine vv_iload (q := 104) hC dX4_write_102 (x := nI ((kb + k) / (n - 1))) rfl rfl ?_
                  refine vv_icmpN_ne (x := (kb + j) / (n - 1)) (y := (kb + k) / (n - 1)) (q := 107) (tgt := 174) hC dX4_write_104 (by decide) (by omega) (by omega) rfl (fun c_104 => ?_) (fun c_104 => ?_)
                  · have hwt : pm_wt τ n kb kc k v = (j, y, ρ) := by
                      unfold pm_wt
                      rw [hu]
                      rw [show kc - j = (kc - (j + 1)) + 1 by omega]; exact if_neg (fun z => c_104 z.2)
                    have hrow : ∀ i, i ≠ 15 → ρ i = τ i := fun i hi => by
                      have := pm_wb_o (n := n) (kb := kb) (kc := kc) (s := (kb + k) / (n - 1)) (v := v) hi (kc - k) k (nI 0) τ
                      unfold pm_wt at hwt
                      rw [hwt] at this
                      exact this
                    have hww : pm_ww τ n kb kc k v = pm_st ρ n (pm_r τ) ((kb + k) / (n - 1)) y := by unfold pm_ww; rw [hwt]
                    have hgt : k < j := by have := pm_wt_gt (τ := τ) (n := n) (kb := kb) (v := v) (show k < kc by omega); rw [hwt] at this; exact this
                    refine vv_aload_n (q := 175) hC dX4_write_174 (x := Y.2.1 (0)) rfl rfl ?_
                    refine vv_iload (q := 177) hC dX4_write_175 (x := nI ((kb + k) / (n - 1))) rfl rfl ?_
                    refine vv_iload (q := 179) hC dX4_write_177 (x := y) rfl rfl ?_
                    refine vv_callV (n := 2) (k := 0) (As := [.int (nI ((kb + k) / (n - 1))), .int (y)]) (st := []) (q := 182) hC (hY.k (by decide)) (hY.M _) (by rw [hY.cl]; rfl) (cm_X4_stripeIs _ Y n hY ρ (pm_r τ) ((kb + k) / (n - 1)) y (hgo.1.same (congrFun (hrow 0 (by decide)) 8) (congrFun (hrow 0 (by decide)) 20) (hrow 7 (by decide)) (hrow 10 (by decide))) (by unfold pm_r; rw [hrow 0 (by decide)]) hs24) gX4_write_X4_stripeIs rfl (by decide +kernel) dX4_write_179 rfl rfl rfl (vv_kR ?_)
                    refine vv_istore (L' := [(0, .ref (Y.2.1 (0))), (1, .int (nI (kb))), (2, .int (nI (kc))), (3, .int (v)), (4, .int (nI (j))), (5, .int (nI ((kb + k) / (n - 1)))), (6, .int (y)), (7, .int ((pm_st ρ n (pm_r τ) ((kb + k) / (n - 1)) y).1))]) (q := 184) hC dX4_write_182 (by decide) rfl rfl rfl ?_
                    refine vv_iload (q := 186) hC dX4_write_184 (x := (pm_st ρ n (pm_r τ) ((kb + k) / (n - 1)) y).1) rfl rfl ?_
                    refine vv_if_eq (x := (pm_st ρ n (pm_r τ) ((kb + k) / (n - 1)) y).1) (q := 189) (tgt := 192) hC dX4_write_186 (by decide) rfl (fun c_186 => ?_) (fun c_186 => ?_)
                    · refine vv_goto (tgt := 63) hC dX4_write_192 (by decide) ?_
                      refine vv_sub (L' := [(0, .ref (Y.2.1 (0))), (1, .int (nI (kb))), (2, .int (nI (kc))), (3, .int (v)), (4, .int (nI (j)))]) (by simp) ?_
                      exact ih_63 (f - 1) (by first | omega | (dsimp only; omega)) j ((pm_st ρ n (pm_r τ) ((kb + k) / (n - 1)) y).2) (by omega) (by omega) (by have h9 := hgo.2 (by rw [hww]; exact c_186); rw [hwt, hww] at h9; exact h9) (by rw [hv, show f = (f - 1) + 1 by omega]; show (if _ then _ else _) = _; rw [if_pos (by omega), if_pos (by rw [hww]; exact c_186), hww, hwt]; rfl)
                    · refine vv_iload (q := 191) hC dX4_write_189 (x := (pm_st ρ n (pm_r τ) ((kb + k) / (n - 1)) y).1) rfl rfl ?_
                      refine vv_iret (v := (pm_st ρ n (pm_r τ) ((kb + k) / (n - 1)) y).1) hC dX4_write_191 ?_
                      rw [hp]
                      unfold pm_write
                      rw [← hkb, ← hkc]
                      have hw : pm_wr n kb kc v kc 0 σ = pm_ww τ n kb kc k v := by rw [hv, show f = (f - 1) + 1 by omega]; exact (if_pos (by omega)).trans (if_neg (by rw [hww]; exact c_186))
                      rw [if_pos c_4, if_pos c_16, if_pos c_37, if_pos c_54, if_neg (by rw [hw, hww]; exact c_186), hw, hww]
                      exact ⟨rfl, rfl⟩
                  · refine vv_iload_n (q := 108) hC dX4_write_107 (x := nI (kb)) rfl rfl ?_
                    refine vv_iload (q := 110) hC dX4_write_108 (x := nI (j)) rfl rfl ?_
                    refine vv_addN (x := kb) (y := j) (q := 111) hC dX4_write_110 rfl ?_
                    refine vv_aload_n (q := 112) hC dX4_write_111 (x := Y.2.1 (0)) rfl rfl ?_
                    refine pm_gM (q := 115) hY hC 1 hi_X4 hf_many (by decide) rfl (v := .int (nI (n))) rfl dX4_write_112 rfl ?_
                    refine vv_iconst (q := 116) hC (nI 1) dX4_write_115 (by decide) rfl ?_
                    refine vv_subN (x := n) (y := 1) (q := 117) hC dX4_write_116 (by omega) rfl ?_
                    refine vv_remN (x := kb + j) (y := n - 1) (q := 118) hC dX4_write_117 (by omega) (by omega) (by omega) rfl ?_
                    refine vv_istore (L' := [(0, .ref (Y.2.1 (0))), (1, .int (nI (kb))), (2, .int (nI (kc))), (3, .int (v)), (4, .int (nI (j))), (5, .int (nI ((kb + k) / (n - 1)))), (6, .int (y)), (7, .int (nI ((kb + j) % (n - 1))))]) (q := 120) hC dX4_write_118 (by decide) rfl rfl rfl ?_
                    refine vv_iload (q := 122) hC dX4_write_120 (x := y) rfl rfl ?_
                    refine vv_iconst (q := 123) hC (nI 1) dX4_write_122 (by decide) rfl ?_
                    refine vv_iload (q := 125) hC dX4_write_123 (x := nI ((kb + j) % (n - 1))) rfl rfl ?_
                    refine vv_ishl (x := nI (1)) (y := nI ((kb + j) % (n - 1))) (q := 126) hC dX4_write_125 rfl ?_
                    refine vv_ior (x := y) (y := (nI (1)) <<< ((nI ((kb + j) % (n - 1))) &&& 31)) (q := 127) hC dX4_write_126 rfl ?_
                    refine vv_istore (L' := [(0, .ref (Y.2.1 (0))), (1, .int (nI (kb))), (2, .int (nI (kc))), (3, .int (v)), (4, .int (nI (j))), (5, .int (nI ((kb + k) / (n - 1)))), (6, .int (y ||| ((nI (1)) <<< ((nI ((kb + j) % (n - 1))) &&& 31)))), (7, .int (nI ((kb + j) % (n - 1))))]) (q := 129) hC dX4_write_127 (by decide) rfl rfl rfl ?_
                    refine vv_iconst (q := 130) hC (nI 0) dX4_write_129 (by decide) rfl ?_
                    refine vv_istore (L' := [(0, .ref (Y.2.1 (0))), (1, .int (nI (kb))), (2, .int (nI (kc))), (3, .int (v)), (4, .int (nI (j))), (5, .int (nI ((kb + k) / (n - 1)))), (6, .int (y ||| ((nI (1)) <<< ((nI ((kb + j) % (n - 1))) &&& 31)))), (7, .int (nI ((kb + j) % (n - 1)))), (8, .int (nI (0)))]) (q := 132) hC dX4_write_130 (by decide) rfl rfl rfl ?_
                    have lp_132 : ∀ i : Nat, (i ≤ 8) → vv_V Y 9 Z (pm_gv ρ ((kb + j) % (n - 1)) (v + nI (8 * j)) i) 132 [(0, .ref (Y.2.1 (0))), (1, .int (nI (kb))), (2, .int (nI (kc))), (3, .int (v)), (4, .int (nI (j))), (5, .int (nI ((kb + k) / (n - 1)))), (6, .int (y ||| ((nI (1)) <<< ((nI ((kb + j) % (n - 1))) &&& 31)))), (7, .int (nI ((kb + j) % (n - 1)))), (8, .int (nI (i)))] [] := by
                      refine vv_ind (fun i => 8 - i) (fun i ih_132 => ?_)
                      intro hi8
                      refine vv_iload (q := 134) hC dX4_write_132 (x := nI (i)) rfl rfl ?_
                      refine vv_bipush (q := 136) hC (nI 8) dX4_write_134 (by decide) rfl ?_
                      refine vv_icmpN_ge (x := i) (y := 8) (q := 139) (tgt := 168) hC dX4_write_136 (by decide) (by omega) (by omega) rfl (fun c_136 => ?_) (fun c_136 => ?_)
                      · have ei : i = 8 := by omega
                        refine vv_st (σ' := pm_gv ρ ((kb + j) % (n - 1)) (v + nI (8 * j)) 8) (by rw [ei]) ?_
                        refine vv_iincN (x := j) (L' := [(0, .ref (Y.2.1 (0))), (1, .int (nI (kb))), (2, .int (nI (kc))), (3, .int (v)), (4, .int (nI (j + 1))), (5, .int (nI ((kb + k) / (n - 1)))), (6, .int (y ||| ((nI (1)) <<< ((nI ((kb + j) % (n - 1))) &&& 31)))), (7, .int (nI ((kb + j) % (n - 1)))), (8, .int (nI (i)))]) (q := 171) hC dX4_write_168 rfl (by decide) rfl rfl rfl ?_
                        refine vv_goto (tgt := 85) hC dX4_write_171 (by decide) ?_
                        refine vv_sub (L' := [(0, .ref (Y.2.1 (0))), (1, .int (nI (kb))), (2, .int (nI (kc))), (3, .int (v)), (4, .int (nI (j + 1))), (5, .int (nI ((kb + k) / (n - 1)))), (6, .int (y ||| ((nI (1)) <<< ((nI ((kb + j) % (n - 1))) &&& 31))))]) (by simp) ?_
                        exact ih_85 (j + 1) (by first | omega | (dsimp only; omega)) (y ||| (nI 1 <<< (nI ((kb + j) % (n - 1)) &&& 31))) (pm_gv ρ ((kb + j) % (n - 1)) (v + nI (8 * j)) 8) (by omega) (by omega) (by rw [hu, show kc - j = (kc - (j + 1)) + 1 by omega]; exact if_pos ⟨by omega, c_104⟩)
                      · refine vv_aload_n (q := 140) hC dX4_write_139 (x := Y.2.1 (0)) rfl rfl ?_
                        refine pm_gM (q := 143) hY hC 24 hi_X4 hf_given (by decide) rfl (v := .ref (Y.2.1 (15))) rfl dX4_write_140 rfl ?_
                        refine vv_bipush (q := 145) hC (nI 8) dX4_write_143 (by decide) rfl ?_
                        refine vv_iload (q := 147) hC dX4_write_145 (x := nI ((kb + j) % (n - 1))) rfl rfl ?_
                        refine vv_mulN (x := 8) (y := (kb + j) % (n - 1)) (q := 148) hC dX4_write_147 rfl ?_
                        refine vv_iload (q := 150) hC dX4_write_148 (x := nI (i)) rfl rfl ?_
                        refine vv_addN (x := 8 * ((kb + j) % (n - 1))) (y := i) (q := 151) hC dX4_write_150 rfl ?_
                        refine vv_iload_n (q := 152) hC dX4_write_151 (x := v) rfl rfl ?_
                        refine vv_bipush (q := 154) hC (nI 8) dX4_write_152 (by decide) rfl ?_
                        refine vv_iload (q := 156) hC dX4_write_154 (x := nI (j)) rfl rfl ?_
                        refine vv_mulN (x := 8) (y := j) (q := 157) hC dX4_write_156 rfl ?_
                        refine vv_iadd (x := v) (y := nI (8 * j)) (q := 158) hC dX4_write_157 rfl ?_
                        refine vv_iload (q := 160) hC dX4_write_158 (x := nI (i)) rfl rfl ?_
                        refine vv_iadd (x := v + (nI (8 * j))) (y := nI (i)) (q := 161) hC dX4_write_160 rfl ?_
                        refine pm_st_given (q := 162) hY hC (i := (8 * ((kb + j) % (n - 1))) + i) (x := (v + (nI (8 * j))) + (nI (i))) (by omega) dX4_write_161 rfl ?_
                        refine vv_iincN (x := i) (L' := [(0, .ref (Y.2.1 (0))), (1, .int (nI (kb))), (2, .int (nI (kc))), (3, .int (v)), (4, .int (nI (j))), (5, .int (nI ((kb + k) / (n - 1)))), (6, .int (y ||| ((nI (1)) <<< ((nI ((kb + j) % (n - 1))) &&& 31)))), (7, .int (nI ((kb + j) % (n - 1)))), (8, .int (nI (i + 1)))]) (q := 165) hC dX4_write_162 rfl (by decide) rfl rfl rfl ?_
                        refine vv_goto (tgt := 132) hC dX4_write_165 (by decide) ?_
                        refine vv_st (σ' := pm_gv ρ ((kb + j) % (n - 1)) (v + nI (8 * j)) (i + 1)) (pm_gv_s) ?_
                        exact ih_132 (i + 1) (by first | omega | (dsimp only; omega))  (by omega)
                    refine vv_st (σ' := pm_gv ρ ((kb + j) % (n - 1)) (v + nI (8 * j)) 0) (pm_gv_0.symm) ?_
                    exact lp_132 0 (by omega)
              exact lp_85 k (nI 0) τ (by omega) (by omega) rfl
          exact lp_63 kc 0 σ (by omega) (by omega) hg0 rfl
        · refine vv_bipush (q := 59) hC ((-101)) dX4_write_57 (by decide) rfl ?_
          refine vv_iret (v := (-101)) hC dX4_write_59 ?_
          rw [hp]
          unfold pm_write
          rw [← hkb, ← hkc]
          rw [if_pos c_4, if_pos c_16, if_pos c_37, if_neg c_54]
          exact ⟨rfl, rfl⟩
      · refine vv_bipush (q := 42) hC ((-102)) dX4_write_40 (by decide) rfl ?_
        refine vv_iret (v := (-102)) hC dX4_write_42 ?_
        rw [hp]
        unfold pm_write
        rw [← hkb, ← hkc]
        rw [if_pos c_4, if_pos c_16, if_neg c_37]
        exact ⟨rfl, rfl⟩
    · refine vv_bipush (q := 21) hC ((-101)) dX4_write_19 (by decide) rfl ?_
      refine vv_iret (v := (-101)) hC dX4_write_21 ?_
      rw [hp]
      unfold pm_write
      rw [← hkb, ← hkc]
      rw [if_pos c_4, if_neg c_16]
      exact ⟨rfl, rfl⟩
  · refine vv_bipush (q := 9) hC ((-100)) dX4_write_7 (by decide) rfl ?_
    refine vv_iret (v := (-100)) hC dX4_write_9 ?_
    rw [hp]
    unfold pm_write
    rw [← hkb, ← hkc]
    rw [if_neg c_4]
    exact ⟨rfl, rfl⟩
