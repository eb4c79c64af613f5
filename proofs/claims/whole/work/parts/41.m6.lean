set_option maxRecDepth 100000 in
set_option maxHeartbeats 4000000 in
theorem cm_X4_drain (l : Launch) (Y : vv_Y) (n : Nat) (hY : pm_sys Y n) (σ : vv_S) (x : Int32) (hJ : pm_J σ) : vv_M l Y yX4_drain wsX4_drain { frames := 4, cells := 0, slots := 0, locals := 96 } [.ref (Y.2.1 (0)), .int (x)] σ (vv_R (.int ((pm_drain σ n x).1)) ((pm_drain σ n x).2)) := by
  refine vv_M.of (cc := cX4_drain) (maxL := 3) (ret := (some .int)) hY.ok (by decide) rfl (Nat.le_of_ble_eq_true rfl) ?_
  intro Z hl hp hC
  subst hl
  have hi_X4 : ∀ w ∈ u_ws RX4 TX4 25, w ∈ wsX4_drain := by decide +kernel
  have hf_down : Cond.fieldLink RX4 103 "ParityRowModel" (TX4 18).2.1 (TX4 18).2.2.1 ∈ wsX4_drain := by decide +kernel
  have hf_records : Cond.fieldLink RX4 120 "ParityRowModel" (TX4 8).2.1 (TX4 8).2.2.1 ∈ wsX4_drain := by decide +kernel
  have hlo := hY.lo
  have hhi := hY.hi
  obtain ⟨kx, hkx⟩ : ∃ k, k = x.toNatClampNeg := ⟨_, rfl⟩
  refine vv_loc (L' := [(0, .ref (Y.2.1 (0))), (1, .int (x))]) rfl ?_
  refine vv_aload_n (q := 1) hC dX4_drain_0 (x := Y.2.1 (0)) rfl rfl ?_
  refine pm_gM (q := 4) hY hC 18 hi_X4 hf_down (by decide) rfl (v := .int (σ 0 18)) rfl dX4_drain_1 rfl ?_
  refine vv_if_eq (x := σ 0 18) (q := 7) (tgt := 10) hC dX4_drain_4 (by decide) rfl (fun c_4 => ?_) (fun c_4 => ?_)
  · refine vv_iload_n (q := 11) hC dX4_drain_10 (x := x) rfl rfl ?_
    refine vv_i2l (q := 12) hC (x.toInt64) dX4_drain_11 rfl rfl ?_
    refine vv_lconst (q := 13) hC (lN 1) dX4_drain_12 rfl rfl ?_
    refine vv_ldc2 (v := 32) (q := 16) hC (by decide +kernel) dX4_drain_13 rfl ?_
    refine vv_callS (n := 3) (As := [.long (x.toInt64), .long (lN 1), .long (32)]) (st := []) (q := 19) hC (cm_X4_in _ Y n hY σ x.toInt64 (lN 1) 32 ) gX4_drain_X4_in rfl (by decide +kernel) dX4_drain_16 rfl rfl rfl (vv_kR ?_)
    refine vv_top (y := vv_B (¬ x < nI 1 ∧ x ≤ nI 32)) (vv_B_congr (by rw [show (32 : Int64) = lN 32 from rfl, pm_in1 (by omega)])) ?_
    refine vv_ifB_ne (b := ¬ x < nI 1 ∧ x ≤ nI 32) (q := 22) (tgt := 25) hC dX4_drain_19 (by decide) rfl (fun c_19 => ?_) (fun c_19 => ?_)
    · have hx := pc_rng c_19.1 c_19.2 (by decide)
      rw [← hkx] at hx
      refine vv_loc (L' := [(0, .ref (Y.2.1 (0))), (1, .int (nI (kx)))]) (by rw [← hx.1]) ?_
      refine vv_iconst (q := 26) hC (nI 0) dX4_drain_25 (by decide) rfl ?_
      refine vv_istore_n (L' := [(0, .ref (Y.2.1 (0))), (1, .int (nI (kx))), (2, .int (nI (0)))]) (q := 27) hC dX4_drain_26 (by decide) rfl rfl rfl ?_
      have lp_27 : ∀ k : Nat, ∀ τ : vv_S, (k ≤ kx) → (pm_J τ) → (pm_dl n kx σ = pm_dl n (kx - k) τ) → vv_V Y 3 Z τ 27 [(0, .ref (Y.2.1 (0))), (1, .int (nI (kx))), (2, .int (nI (k)))] [] := by
        refine vv_ind (fun k => kx - k) (fun k ih_27 => ?_)
        intro τ hk hJt hv
        have hr10 := hJt.1.2
        refine vv_iload_n (q := 28) hC dX4_drain_27 (x := nI (k)) rfl rfl ?_
        refine vv_iload_n (q := 29) hC dX4_drain_28 (x := nI (kx)) rfl rfl ?_
        refine vv_icmpN_ge (x := k) (y := kx) (q := 32) (tgt := 55) hC dX4_drain_29 (by decide) (by omega) (by omega) rfl (fun c_29 => ?_) (fun c_29 => ?_)
        · refine vv_aload_n (q := 56) hC dX4_drain_55 (x := Y.2.1 (0)) rfl rfl ?_
          refine pm_gM (q := 59) hY hC 8 hi_X4 hf_records (by decide) rfl (v := .int (τ 0 8)) rfl dX4_drain_56 rfl ?_
          refine vv_top (y := nI (pm_r τ)) (hJt.1.1) ?_
          refine vv_iret (v := nI (pm_r τ)) hC dX4_drain_59 ?_
          rw [hp]
          unfold pm_drain
          have hw : pm_dl n kx σ = (true, τ) := by rw [hv, show kx - k = 0 by omega]; rfl
          rw [if_pos c_4, if_pos c_19, ← hkx, if_pos (by rw [hw]), hw]
          exact ⟨congrArg (fun z => some (Value.int z)) hJt.1.1.symm, rfl⟩
        · refine vv_aload_n (q := 33) hC dX4_drain_32 (x := Y.2.1 (0)) rfl rfl ?_
          refine pm_gM (q := 36) hY hC 8 hi_X4 hf_records (by decide) rfl (v := .int (τ 0 8)) rfl dX4_drain_33 rfl ?_
          refine vv_top (y := nI (pm_r τ)) (hJt.1.1) ?_
          refine vv_if_le (x := nI (pm_r τ)) (q := 39) (tgt := 55) hC dX4_drain_36 (by decide) rfl (fun c_36 => ?_) (fun c_36 => ?_)
          · refine vv_aload_n (q := 56) hC dX4_drain_55 (x := Y.2.1 (0)) rfl rfl ?_
            refine pm_gM (q := 59) hY hC 8 hi_X4 hf_records (by decide) rfl (v := .int (τ 0 8)) rfl dX4_drain_56 rfl ?_
            refine vv_top (y := nI (pm_r τ)) (hJt.1.1) ?_
            refine vv_iret (v := nI (pm_r τ)) hC dX4_drain_59 ?_
            rw [hp]
            unfold pm_drain
            have hw : pm_dl n kx σ = (true, τ) := by rw [hv, show kx - k = (kx - (k + 1)) + 1 by omega]; exact if_pos ((pm_le0 (by omega)).mp c_36)
            rw [if_pos c_4, if_pos c_19, ← hkx, if_pos (by rw [hw]), hw]
            exact ⟨congrArg (fun z => some (Value.int z)) hJt.1.1.symm, rfl⟩
          · have hrp : 0 < pm_r τ := Nat.pos_of_ne_zero (fun z => c_36 ((pm_le0 (by omega)).mpr z))
            refine vv_aload_n (q := 40) hC dX4_drain_39 (x := Y.2.1 (0)) rfl rfl ?_
            refine vv_callV (n := 0) (k := 0) (As := []) (st := []) (q := 43) hC (hY.k (by decide)) (hY.M _) (by rw [hY.cl]; rfl) (cm_X4_drained _ Y n hY τ  hJt hrp) gX4_drain_X4_drained rfl (by decide +kernel) dX4_drain_40 rfl rfl rfl (vv_kR ?_)
            refine vv_ifB_ne (b := (pm_dr1 n τ).1 = true) (q := 46) (tgt := 49) hC dX4_drain_43 (by decide) rfl (fun c_43 => ?_) (fun c_43 => ?_)
            · refine vv_iincN (x := k) (L' := [(0, .ref (Y.2.1 (0))), (1, .int (nI (kx))), (2, .int (nI (k + 1)))]) (q := 52) hC dX4_drain_49 rfl (by decide) rfl rfl rfl ?_
              refine vv_goto (tgt := 27) hC dX4_drain_52 (by decide) ?_
              exact ih_27 (k + 1) (by first | omega | (dsimp only; omega)) ((pm_dr1 n τ).2) (by omega) (pm_dr1_J hJt hrp).1 (by rw [hv, show kx - k = (kx - (k + 1)) + 1 by omega]; exact (if_neg (by omega)).trans (if_pos c_43))
            · refine vv_bipush (q := 48) hC ((-106)) dX4_drain_46 (by decide) rfl ?_
              refine vv_iret (v := (-106)) hC dX4_drain_48 ?_
              rw [hp]
              unfold pm_drain
              have hw : pm_dl n kx σ = (false, (pm_dr1 n τ).2) := by rw [hv, show kx - k = (kx - (k + 1)) + 1 by omega]; exact (if_neg (fun z => c_36 ((pm_le0 (by omega)).mpr z))).trans (if_neg c_43)
              rw [if_pos c_4, if_pos c_19, ← hkx, if_neg (by rw [hw]; exact fun z => by cases z), hw]
              exact ⟨rfl, rfl⟩
      exact lp_27 0 σ (by omega) hJ rfl
    · refine vv_bipush (q := 24) hC ((-102)) dX4_drain_22 (by decide) rfl ?_
      refine vv_iret (v := (-102)) hC dX4_drain_24 ?_
      rw [hp]
      unfold pm_drain
      rw [if_pos c_4, if_neg c_19]
      exact ⟨rfl, rfl⟩
  · refine vv_bipush (q := 9) hC ((-100)) dX4_drain_7 (by decide) rfl ?_
    refine vv_iret (v := (-100)) hC dX4_drain_9 ?_
    rw [hp]
    unfold pm_drain
    rw [if_neg c_4]
    exact ⟨rfl, rfl⟩
set_option maxRecDepth 100000 in
set_option maxHeartbeats 4000000 in
theorem cm_X4_start (l : Launch) (Y : vv_Y) (n : Nat) (hY : pm_sys Y n) (σ : vv_S) (x : Int32) (hJ : pm_J σ) : vv_M l Y yX4_start wsX4_start { frames := 3, cells := 0, slots := 0, locals := 73 } [.ref (Y.2.1 (0)), .int (x)] σ (vv_R (.int ((pm_start σ n x).1)) ((pm_start σ n x).2)) := by
  refine vv_M.of (cc := cX4_start) (maxL := 5) (ret := (some .int)) hY.ok (by decide) rfl (Nat.le_of_ble_eq_true rfl) ?_
  intro Z hl hp hC
  subst hl
  have hi_X4 : ∀ w ∈ u_ws RX4 TX4 25, w ∈ wsX4_start := by decide +kernel
  have hf_down : Cond.fieldLink RX4 103 "ParityRowModel" (TX4 18).2.1 (TX4 18).2.2.1 ∈ wsX4_start := by decide +kernel
  have hf_cut : Cond.fieldLink RX4 57 "ParityRowModel" (TX4 19).2.1 (TX4 19).2.2.1 ∈ wsX4_start := by decide +kernel
  have hf_markCell : Cond.fieldLink RX4 117 "ParityRowModel" (TX4 15).2.1 (TX4 15).2.2.1 ∈ wsX4_start := by decide +kernel
  have hf_markSerial : Cond.fieldLink RX4 51 "ParityRowModel" (TX4 16).2.1 (TX4 16).2.2.1 ∈ wsX4_start := by decide +kernel
  have hf_records : Cond.fieldLink RX4 120 "ParityRowModel" (TX4 8).2.1 (TX4 8).2.2.1 ∈ wsX4_start := by decide +kernel
  have hf_nextSerial : Cond.fieldLink RX4 54 "ParityRowModel" (TX4 17).2.1 (TX4 17).2.2.1 ∈ wsX4_start := by decide +kernel
  have hf_scrubAt : Cond.fieldLink RX4 107 "ParityRowModel" (TX4 21).2.1 (TX4 21).2.2.1 ∈ wsX4_start := by decide +kernel
  have hf_serials : Cond.fieldLink RX4 36 "ParityRowModel" (TX4 10).2.1 (TX4 10).2.2.1 ∈ wsX4_start := by decide +kernel
  have hf_counts : Cond.fieldLink RX4 60 "ParityRowModel" (TX4 22).2.1 (TX4 22).2.2.1 ∈ wsX4_start := by decide +kernel
  have hlo := hY.lo
  have hhi := hY.hi
  have hr10 := hJ.1.2
  refine vv_loc (L' := [(0, .ref (Y.2.1 (0))), (1, .int (x))]) rfl ?_
  refine vv_aload_n (q := 1) hC dX4_start_0 (x := Y.2.1 (0)) rfl rfl ?_
  refine pm_gM (q := 4) hY hC 18 hi_X4 hf_down (by decide) rfl (v := .int (σ 0 18)) rfl dX4_start_1 rfl ?_
  refine vv_if_ne (x := σ 0 18) (q := 7) (tgt := 10) hC dX4_start_4 (by decide) rfl (fun c_4 => ?_) (fun c_4 => ?_)
  · refine vv_iload_n (q := 11) hC dX4_start_10 (x := x) rfl rfl ?_
    refine vv_i2l (q := 12) hC (x.toInt64) dX4_start_11 rfl rfl ?_
    refine vv_ldc2 (v := (-1)) (q := 15) hC (by decide +kernel) dX4_start_12 rfl ?_
    refine vv_ldc2 (v := 1000) (q := 18) hC (by decide +kernel) dX4_start_15 rfl ?_
    refine vv_callS (n := 3) (As := [.long (x.toInt64), .long ((-1)), .long (1000)]) (st := []) (q := 21) hC (cm_X4_in _ Y n hY σ x.toInt64 ((-1)) 1000 ) gX4_start_X4_in rfl (by decide +kernel) dX4_start_18 rfl rfl rfl (vv_kR ?_)
    refine vv_top (y := vv_B (pc_isc x)) (vv_B_congr pm_inc) ?_
    refine vv_ifB_ne (b := pc_isc x) (q := 24) (tgt := 27) hC dX4_start_21 (by decide) rfl (fun c_21 => ?_) (fun c_21 => ?_)
    · refine vv_aload_n (q := 28) hC dX4_start_27 (x := Y.2.1 (0)) rfl rfl ?_
      refine vv_iconst (q := 29) hC (nI 0) dX4_start_28 (by decide) rfl ?_
      refine pm_pM (q := 32) hY hC 18 hi_X4 hf_down (by decide) rfl rfl (x := nI (0)) (ty := .boolean) (by decide +kernel) rfl rfl (fun _ => rfl) dX4_start_29 rfl ?_
      refine vv_aload_n (q := 33) hC dX4_start_32 (x := Y.2.1 (0)) rfl rfl ?_
      refine vv_iload_n (q := 34) hC dX4_start_33 (x := x) rfl rfl ?_
      refine pm_pM (q := 37) hY hC 19 hi_X4 hf_cut (by decide) rfl rfl (x := x) (ty := .int) (by decide +kernel) rfl rfl (fun _ => rfl) dX4_start_34 rfl ?_
      refine vv_st (σ' := pm_st0 σ x) (rfl) ?_
      refine vv_aload_n (q := 38) hC dX4_start_37 (x := Y.2.1 (0)) rfl rfl ?_
      refine pm_gM (q := 41) hY hC 15 hi_X4 hf_markCell (by decide) rfl (v := .int ((pm_st0 σ x) 0 15)) rfl dX4_start_38 rfl ?_
      refine vv_top (y := σ 0 15) (rfl) ?_
      refine vv_istore_n (L' := [(0, .ref (Y.2.1 (0))), (1, .int (x)), (2, .int (σ 0 15))]) (q := 42) hC dX4_start_41 (by decide) rfl rfl rfl ?_
      refine vv_aload_n (q := 43) hC dX4_start_42 (x := Y.2.1 (0)) rfl rfl ?_
      refine pm_gM (q := 46) hY hC 16 hi_X4 hf_markSerial (by decide) rfl (v := .int ((pm_st0 σ x) 0 16)) rfl dX4_start_43 rfl ?_
      refine vv_top (y := σ 0 16) (rfl) ?_
      refine vv_istore_n (L' := [(0, .ref (Y.2.1 (0))), (1, .int (x)), (2, .int (σ 0 15)), (3, .int (σ 0 16))]) (q := 47) hC dX4_start_46 (by decide) rfl rfl rfl ?_
      refine vv_iconst (q := 48) hC (nI 0) dX4_start_47 (by decide) rfl ?_
      refine vv_istore (L' := [(0, .ref (Y.2.1 (0))), (1, .int (x)), (2, .int (σ 0 15)), (3, .int (σ 0 16)), (4, .int (nI (0)))]) (q := 50) hC dX4_start_48 (by decide) rfl rfl rfl ?_
      have lp_50 : ∀ k : Nat, ∀ c : Int32, ∀ q : Int32, ∀ τ : vv_S, (k ≤ pm_r σ) → (pm_J τ) → (pm_r τ = pm_r σ) → (pm_sar σ n x = pm_sa n (pm_r σ - k) k c q τ) → vv_V Y 5 Z τ 50 [(0, .ref (Y.2.1 (0))), (1, .int (x)), (2, .int (c)), (3, .int (q)), (4, .int (nI (k)))] [] := by
        refine vv_ind (fun k => pm_r σ - k) (fun k ih_50 => ?_)
        intro c q τ hk hJt hrt hv
        refine vv_iload (q := 52) hC dX4_start_50 (x := nI (k)) rfl rfl ?_
        refine vv_aload_n (q := 53) hC dX4_start_52 (x := Y.2.1 (0)) rfl rfl ?_
        refine pm_gM (q := 56) hY hC 8 hi_X4 hf_records (by decide) rfl (v := .int (τ 0 8)) rfl dX4_start_53 rfl ?_
        refine vv_top (y := nI (pm_r τ)) (hJt.1.1) ?_
        refine vv_icmpN_ge (x := k) (y := pm_r τ) (q := 59) (tgt := 110) hC dX4_start_56 (by decide) (by omega) (by omega) rfl (fun c_56 => ?_) (fun c_56 => ?_)
        · have hw : pm_sar σ n x = (true, c, q, τ) := by rw [hv, show pm_r σ - k = 0 by omega]; rfl
          refine vv_aload_n (q := 111) hC dX4_start_110 (x := Y.2.1 (0)) rfl rfl ?_
          refine vv_iload_n (q := 112) hC dX4_start_111 (x := c) rfl rfl ?_
          refine vv_iload_n (q := 113) hC dX4_start_112 (x := q) rfl rfl ?_
          refine vv_callV (n := 2) (k := 0) (As := [.int (c), .int (q)]) (st := []) (q := 116) hC (hY.k (by decide)) (hY.M _) (by rw [hY.cl]; rfl) (cm_X4_markIs _ Y n hY τ c q ) gX4_start_X4_markIs rfl (by decide +kernel) dX4_start_113 rfl rfl rfl (vv_kR ?_)
          refine vv_ifB_ne (b := ¬ τ 0 19 = 0) (q := 119) (tgt := 122) hC dX4_start_116 (by decide) rfl (fun c_116 => ?_) (fun c_116 => ?_)
          · refine vv_st (σ' := pm_mk τ n c q) (rfl) ?_
            refine vv_aload_n (q := 123) hC dX4_start_122 (x := Y.2.1 (0)) rfl rfl ?_
            refine pm_gM (q := 126) hY hC 8 hi_X4 hf_records (by decide) rfl (v := .int ((pm_mk τ n c q) 0 8)) rfl dX4_start_123 rfl ?_
            refine vv_istore (L' := [(0, .ref (Y.2.1 (0))), (1, .int (x)), (2, .int (c)), (3, .int (q)), (4, .int ((pm_mk τ n c q) 0 8))]) (q := 128) hC dX4_start_126 (by decide) rfl rfl rfl ?_
            refine vv_aload_n (q := 129) hC dX4_start_128 (x := Y.2.1 (0)) rfl rfl ?_
            refine vv_iconst (q := 130) hC (nI 0) dX4_start_129 (by decide) rfl ?_
            refine pm_pM (q := 133) hY hC 8 hi_X4 hf_records (by decide) rfl rfl (x := nI (0)) (ty := .int) (by decide +kernel) rfl rfl (fun _ => rfl) dX4_start_130 rfl ?_
            refine vv_aload_n (q := 134) hC dX4_start_133 (x := Y.2.1 (0)) rfl rfl ?_
            refine vv_iload_n (q := 135) hC dX4_start_134 (x := q) rfl rfl ?_
            refine pm_pM (q := 138) hY hC 17 hi_X4 hf_nextSerial (by decide) rfl rfl (x := q) (ty := .int) (by decide +kernel) rfl rfl (fun _ => rfl) dX4_start_135 rfl ?_
            refine vv_aload_n (q := 139) hC dX4_start_138 (x := Y.2.1 (0)) rfl rfl ?_
            refine vv_iconst (q := 140) hC ((-1)) dX4_start_139 (by decide) rfl ?_
            refine pm_pM (q := 143) hY hC 19 hi_X4 hf_cut (by decide) rfl rfl (x := (-1)) (ty := .int) (by decide +kernel) rfl rfl (fun _ => rfl) dX4_start_140 rfl ?_
            refine vv_aload_n (q := 144) hC dX4_start_143 (x := Y.2.1 (0)) rfl rfl ?_
            refine vv_iconst (q := 145) hC (nI 0) dX4_start_144 (by decide) rfl ?_
            refine pm_pM (q := 148) hY hC 21 hi_X4 hf_scrubAt (by decide) rfl rfl (x := nI (0)) (ty := .int) (by decide +kernel) rfl rfl (fun _ => rfl) dX4_start_145 rfl ?_
            refine vv_iload (q := 150) hC dX4_start_148 (x := (pm_mk τ n c q) 0 8) rfl rfl ?_
            refine vv_iret (v := (pm_mk τ n c q) 0 8) hC dX4_start_150 ?_
            rw [hp]
            unfold pm_start
            have hsm : pm_sm σ n x = pm_mk τ n c q := by unfold pm_sm; rw [hw]
            rw [if_neg c_4, if_pos c_21, hw, if_pos rfl, if_neg c_116, hsm]
            exact ⟨rfl, rfl⟩
          · refine vv_bipush (q := 121) hC ((-106)) dX4_start_119 (by decide) rfl ?_
            refine vv_iret (v := (-106)) hC dX4_start_121 ?_
            rw [hp]
            unfold pm_start
            have hsm : pm_sm σ n x = pm_mk τ n c q := by unfold pm_sm; rw [hw]
            rw [if_neg c_4, if_pos c_21, hw, if_pos rfl, if_pos (Decidable.of_not_not c_116), hsm]
            exact ⟨rfl, rfl⟩
        · refine vv_iload_n (q := 60) hC dX4_start_59 (x := c) rfl rfl ?_
          refine vv_aload_n (q := 61) hC dX4_start_60 (x := Y.2.1 (0)) rfl rfl ?_
          refine vv_iload (q := 63) hC dX4_start_61 (x := nI (k)) rfl rfl ?_
          refine vv_callV (n := 1) (k := 0) (As := [.int (nI (k))]) (st := [.int (c)]) (q := 66) hC (hY.k (by decide)) (hY.M _) (by rw [hY.cl]; rfl) (cm_X4_cellsOf _ Y n hY τ k (by omega)) gX4_start_X4_cellsOf rfl (by decide +kernel) dX4_start_63 rfl rfl rfl (vv_kR ?_)
          refine vv_iadd (x := c) (y := nI (pm_cells τ n k)) (q := 67) hC dX4_start_66 rfl ?_
          refine vv_bipush (q := 69) hC (nI 32) dX4_start_67 (by decide) rfl ?_
          refine vv_irem (x := c + (nI (pm_cells τ n k))) (y := nI (32)) (q := 70) hC dX4_start_69 (by decide) rfl ?_
          refine vv_istore_n (L' := [(0, .ref (Y.2.1 (0))), (1, .int (x)), (2, .int ((c + (nI (pm_cells τ n k))) - (c + (nI (pm_cells τ n k))) / (nI (32)) * (nI (32)))), (3, .int (q)), (4, .int (nI (k)))]) (q := 71) hC dX4_start_70 (by decide) rfl rfl rfl ?_
          refine vv_aload_n (q := 72) hC dX4_start_71 (x := Y.2.1 (0)) rfl rfl ?_
          refine pm_gM (q := 75) hY hC 10 hi_X4 hf_serials (by decide) rfl (v := .ref (Y.2.1 (8))) rfl dX4_start_72 rfl ?_
          refine vv_iload (q := 77) hC dX4_start_75 (x := nI (k)) rfl rfl ?_
          refine pm_ld_serials (q := 78) hY hC (i := k) (by omega) dX4_start_77 rfl ?_
          refine vv_iconst (q := 79) hC (nI 1) dX4_start_78 (by decide) rfl ?_
          refine vv_iadd (x := τ 8 k) (y := nI (1)) (q := 80) hC dX4_start_79 rfl ?_
          refine vv_istore_n (L' := [(0, .ref (Y.2.1 (0))), (1, .int (x)), (2, .int ((c + (nI (pm_cells τ n k))) - (c + (nI (pm_cells τ n k))) / (nI (32)) * (nI (32)))), (3, .int ((τ 8 k) + (nI (1)))), (4, .int (nI (k)))]) (q := 81) hC dX4_start_80 (by decide) rfl rfl rfl ?_
          refine vv_aload_n (q := 82) hC dX4_start_81 (x := Y.2.1 (0)) rfl rfl ?_
          refine vv_iload (q := 84) hC dX4_start_82 (x := nI (k)) rfl rfl ?_
          refine vv_callV (n := 1) (k := 0) (As := [.int (nI (k))]) (st := []) (q := 87) hC (hY.k (by decide)) (hY.M _) (by rw [hY.cl]; rfl) (cm_X4_done _ Y n hY τ k (pm_s τ k) (pm_t τ) (by omega) (hJt.2.2.2 k (by omega)).1 (hJt.2.2.2 k (by omega)).2 hJt.2.1.1 hJt.2.1.2) gX4_start_X4_done rfl (by decide +kernel) dX4_start_84 rfl rfl rfl (vv_kR ?_)
          refine vv_ifB_ne (b := (pm_dn n k (pm_s τ k) (pm_t τ) τ).1 = true) (q := 90) (tgt := 93) hC dX4_start_87 (by decide) rfl (fun c_87 => ?_) (fun c_87 => ?_)
          · refine vv_aload_n (q := 94) hC dX4_start_93 (x := Y.2.1 (0)) rfl rfl ?_
            refine pm_gM (q := 97) hY hC 22 hi_X4 hf_counts (by decide) rfl (v := .ref (Y.2.1 (13))) rfl dX4_start_94 rfl ?_
            refine vv_bipush (q := 99) hC (nI 6) dX4_start_97 (by decide) rfl ?_
            refine vv_dup2 (q := 100) hC dX4_start_99 rfl rfl rfl ?_
            refine pm_ld_counts (q := 101) hY hC (i := 6) (by omega) dX4_start_100 rfl ?_
            refine vv_iconst (q := 102) hC (nI 1) dX4_start_101 (by decide) rfl ?_
            refine vv_iadd (x := ((pm_dn n k (pm_s τ k) (pm_t τ) τ).2) 13 6) (y := nI (1)) (q := 103) hC dX4_start_102 rfl ?_
            refine pm_st_counts (q := 104) hY hC (i := 6) (x := (((pm_dn n k (pm_s τ k) (pm_t τ) τ).2) 13 6) + (nI (1))) (by omega) dX4_start_103 rfl ?_
            refine vv_st (σ' := pm_tl (pm_dn n k (pm_s τ k) (pm_t τ) τ).2 6) (rfl) ?_
            refine vv_iincN (x := k) (L' := [(0, .ref (Y.2.1 (0))), (1, .int (x)), (2, .int ((c + (nI (pm_cells τ n k))) - (c + (nI (pm_cells τ n k))) / (nI (32)) * (nI (32)))), (3, .int ((τ 8 k) + (nI (1)))), (4, .int (nI (k + 1)))]) (q := 107) hC dX4_start_104 rfl (by decide) rfl rfl rfl ?_
            refine vv_goto (tgt := 50) hC dX4_start_107 (by decide) ?_
            exact ih_50 (k + 1) (by first | omega | (dsimp only; omega)) (pm_rem (c + nI (pm_cells τ n k))) (τ 8 k + nI 1) (pm_tl (pm_dn n k (pm_s τ k) (pm_t τ) τ).2 6) (by omega) (pm_sa_J hJt).1 ((pm_sa_J hJt).2.trans hrt) (by rw [hv, show pm_r σ - k = (pm_r σ - (k + 1)) + 1 by omega]; exact if_pos c_87)
          · refine vv_bipush (q := 92) hC ((-106)) dX4_start_90 (by decide) rfl ?_
            refine vv_iret (v := (-106)) hC dX4_start_92 ?_
            rw [hp]
            unfold pm_start
            have hw : pm_sar σ n x = (false, pm_rem (c + nI (pm_cells τ n k)), τ 8 k + nI 1, (pm_dn n k (pm_s τ k) (pm_t τ) τ).2) := by rw [hv, show pm_r σ - k = (pm_r σ - (k + 1)) + 1 by omega]; exact if_neg c_87
            rw [if_neg c_4, if_pos c_21, hw, if_neg (fun z => by cases z)]
            exact ⟨rfl, rfl⟩
      exact lp_50 0 (σ 0 15) (σ 0 16) (pm_st0 σ x) (by omega) (hJ.same rfl rfl rfl rfl) rfl rfl
    · refine vv_bipush (q := 26) hC ((-102)) dX4_start_24 (by decide) rfl ?_
      refine vv_iret (v := (-102)) hC dX4_start_26 ?_
      rw [hp]
      unfold pm_start
      rw [if_neg c_4, if_neg c_21]
      exact ⟨rfl, rfl⟩
  · refine vv_bipush (q := 9) hC ((-103)) dX4_start_7 (by decide) rfl ?_
    refine vv_iret (v := (-103)) hC dX4_start_9 ?_
    rw [hp]
    unfold pm_start
    rw [if_pos c_4]
    exact ⟨rfl, rfl⟩
set_option maxRecDepth 100000 in
set_option maxHeartbeats 4000000 in
theorem cm_X4_buildsUp (l : Launch) (Y : vv_Y) (n : Nat) (hY : pm_sys Y n) (σ : vv_S) (m : Nat) (s : Nat) (t : Nat) (hm : m < n) (hs : s < 24) (hJ : pm_J σ) (hb : σ 5 m = nI s) (htt : pm_t σ = t) : vv_M l Y yX4_buildsUp wsX4_buildsUp { frames := 4, cells := 0, slots := 0, locals := 96 } [.ref (Y.2.1 (0)), .int (nI (m))] σ (vv_R (.int (vv_B ((pm_bu σ n m s t).1 = true))) ((pm_bu σ n m s t).2)) := by
  refine vv_M.of (cc := cX4_buildsUp) (maxL := 5) (ret := (some .boolean)) hY.ok (by decide) rfl (Nat.le_of_ble_eq_true rfl) ?_
  intro Z hl hp hC
  subst hl
  have hi_X4 : ∀ w ∈ u_ws RX4 TX4 25, w ∈ wsX4_buildsUp := by decide +kernel
  have hf_built : Cond.fieldLink RX4 27 "ParityRowModel" (TX4 6).2.1 (TX4 6).2.2.1 ∈ wsX4_buildsUp := by decide +kernel
  have hf_records : Cond.fieldLink RX4 120 "ParityRowModel" (TX4 8).2.1 (TX4 8).2.2.1 ∈ wsX4_buildsUp := by decide +kernel
  have hf_torn : Cond.fieldLink RX4 20 "ParityRowModel" (TX4 4).2.1 (TX4 4).2.2.1 ∈ wsX4_buildsUp := by decide +kernel
  have hf_counts : Cond.fieldLink RX4 60 "ParityRowModel" (TX4 22).2.1 (TX4 22).2.2.1 ∈ wsX4_buildsUp := by decide +kernel
  have hf_markCell : Cond.fieldLink RX4 117 "ParityRowModel" (TX4 15).2.1 (TX4 15).2.2.1 ∈ wsX4_buildsUp := by decide +kernel
  have hf_markSerial : Cond.fieldLink RX4 51 "ParityRowModel" (TX4 16).2.1 (TX4 16).2.2.1 ∈ wsX4_buildsUp := by decide +kernel
  have hf_state : Cond.fieldLink RX4 24 "ParityRowModel" (TX4 5).2.1 (TX4 5).2.2.1 ∈ wsX4_buildsUp := by decide +kernel
  have hf_many : Cond.fieldLink RX4 69 "ParityRowModel" (TX4 1).2.1 (TX4 1).2.2.1 ∈ wsX4_buildsUp := by decide +kernel
  have hf_stripes : Cond.fieldLink RX4 33 "ParityRowModel" (TX4 9).2.1 (TX4 9).2.2.1 ∈ wsX4_buildsUp := by decide +kernel
  have hlo := hY.lo
  have hhi := hY.hi
  have hr10 := hJ.1.2
  have hup := pm_up_le (σ := σ) (s := s) (pm_r σ)
  refine vv_loc (L' := [(0, .ref (Y.2.1 (0))), (1, .int (nI (m)))]) rfl ?_
  refine vv_aload_n (q := 1) hC dX4_buildsUp_0 (x := Y.2.1 (0)) rfl rfl ?_
  refine pm_gM (q := 4) hY hC 6 hi_X4 hf_built (by decide) rfl (v := .ref (Y.2.1 (5))) rfl dX4_buildsUp_1 rfl ?_
  refine vv_iload_n (q := 5) hC dX4_buildsUp_4 (x := nI (m)) rfl rfl ?_
  refine pm_ld_built (q := 6) hY hC (i := m) (by omega) dX4_buildsUp_5 rfl ?_
  refine vv_top (y := nI (s)) (hb) ?_
  refine vv_istore_n (L' := [(0, .ref (Y.2.1 (0))), (1, .int (nI (m))), (2, .int (nI (s)))]) (q := 7) hC dX4_buildsUp_6 (by decide) rfl rfl rfl ?_
  refine vv_iconst (q := 8) hC (nI 0) dX4_buildsUp_7 (by decide) rfl ?_
  refine vv_istore_n (L' := [(0, .ref (Y.2.1 (0))), (1, .int (nI (m))), (2, .int (nI (s))), (3, .int (nI (0)))]) (q := 9) hC dX4_buildsUp_8 (by decide) rfl rfl rfl ?_
  refine vv_iconst (q := 10) hC (nI 0) dX4_buildsUp_9 (by decide) rfl ?_
  refine vv_istore (L' := [(0, .ref (Y.2.1 (0))), (1, .int (nI (m))), (2, .int (nI (s))), (3, .int (nI (0))), (4, .int (nI (0)))]) (q := 12) hC dX4_buildsUp_10 (by decide) rfl rfl rfl ?_
  have lp_12 : ∀ k : Nat, (k ≤ pm_r σ) → vv_V Y 5 Z σ 12 [(0, .ref (Y.2.1 (0))), (1, .int (nI (m))), (2, .int (nI (s))), (3, .int (nI (pm_up σ s k))), (4, .int (nI (k)))] [] := by
    refine vv_ind (fun k => pm_r σ - k) (fun k ih_12 => ?_)
    intro hk
    refine vv_iload (q := 14) hC dX4_buildsUp_12 (x := nI (k)) rfl rfl ?_
    refine vv_aload_n (q := 15) hC dX4_buildsUp_14 (x := Y.2.1 (0)) rfl rfl ?_
    refine pm_gM (q := 18) hY hC 8 hi_X4 hf_records (by decide) rfl (v := .int (σ 0 8)) rfl dX4_buildsUp_15 rfl ?_
    refine vv_top (y := nI (pm_r σ)) (hJ.1.1) ?_
    refine vv_icmpN_ge (x := k) (y := pm_r σ) (q := 21) (tgt := 47) hC dX4_buildsUp_18 (by decide) (by omega) (by omega) rfl (fun c_18 => ?_) (fun c_18 => ?_)
    · refine vv_iconst (q := 48) hC (nI 0) dX4_buildsUp_47 (by decide) rfl ?_
      refine vv_istore (L' := [(0, .ref (Y.2.1 (0))), (1, .int (nI (m))), (2, .int (nI (s))), (3, .int (nI (pm_up σ s k))), (4, .int (nI (0)))]) (q := 50) hC dX4_buildsUp_48 (by decide) rfl rfl rfl ?_
      have lp_50 : ∀ k : Nat, ∀ τ : vv_S, (k ≤ pm_up σ s (pm_r σ)) → (pm_J τ) → (pm_r τ = pm_r σ - k) → (pm_bd σ n s = pm_dq n (pm_up σ s (pm_r σ) - k) τ) → vv_V Y 5 Z τ 50 [(0, .ref (Y.2.1 (0))), (1, .int (nI (m))), (2, .int (nI (s))), (3, .int (nI (pm_up σ s (pm_r σ)))), (4, .int (nI (k)))] [] := by
        refine vv_ind (fun k => pm_up σ s (pm_r σ) - k) (fun k ih_50 => ?_)
        intro τ hk hJt hrt hv
        refine vv_iload (q := 52) hC dX4_buildsUp_50 (x := nI (k)) rfl rfl ?_
        refine vv_iload_n (q := 53) hC dX4_buildsUp_52 (x := nI (pm_up σ s (pm_r σ))) rfl rfl ?_
        refine vv_icmpN_ge (x := k) (y := pm_up σ s (pm_r σ)) (q := 56) (tgt := 71) hC dX4_buildsUp_53 (by decide) (by omega) (by omega) rfl (fun c_53 => ?_) (fun c_53 => ?_)
        · have hw : pm_bd σ n s = (true, τ) := by rw [hv, show pm_up σ s (pm_r σ) - k = 0 by omega]; rfl
          have ht2 : pm_t τ = t := by
            have := (pm_dq_J (n := n) (pm_up σ s (pm_r σ)) σ hJ hup).2
            unfold pm_bd at hw
            rw [hw] at this
            exact this.trans htt
          refine vv_aload_n (q := 72) hC dX4_buildsUp_71 (x := Y.2.1 (0)) rfl rfl ?_
          refine vv_iload_n (q := 73) hC dX4_buildsUp_72 (x := nI (m)) rfl rfl ?_
          refine vv_iload_n (q := 74) hC dX4_buildsUp_73 (x := nI (s)) rfl rfl ?_
          refine vv_callV (n := 2) (k := 0) (As := [.int (nI (m)), .int (nI (s))]) (st := []) (q := 77) hC (hY.k (by decide)) (hY.M _) (by rw [hY.cl]; rfl) (cm_X4_othersThere _ Y n hY τ (nI (m)) s (by omega)) gX4_buildsUp_X4_othersThere rfl (by decide +kernel) dX4_buildsUp_74 rfl rfl rfl (vv_kR ?_)
          refine vv_ifB_eq (b := pm_oth τ n (nI (m)) s) (q := 80) (tgt := 112) hC dX4_buildsUp_77 (by decide) rfl (fun c_77 => ?_) (fun c_77 => ?_)
          · refine vv_aload_n (q := 113) hC dX4_buildsUp_112 (x := Y.2.1 (0)) rfl rfl ?_
            refine pm_gM (q := 116) hY hC 4 hi_X4 hf_torn (by decide) rfl (v := .ref (Y.2.1 (3))) rfl dX4_buildsUp_113 rfl ?_
            refine vv_aload_n (q := 117) hC dX4_buildsUp_116 (x := Y.2.1 (0)) rfl rfl ?_
            refine vv_iload_n (q := 118) hC dX4_buildsUp_117 (x := nI (m)) rfl rfl ?_
            refine vv_iload_n (q := 119) hC dX4_buildsUp_118 (x := nI (s)) rfl rfl ?_
            refine vv_callV (n := 2) (k := 0) (As := [.int (nI (m)), .int (nI (s))]) (st := [.ref (Y.2.1 (3))]) (q := 122) hC (hY.k (by decide)) (hY.M _) (by rw [hY.cl]; rfl) (cm_X4_at _ Y n hY τ m s ) gX4_buildsUp_X4_at rfl (by decide +kernel) dX4_buildsUp_119 rfl rfl rfl (vv_kR ?_)
            refine vv_iconst (q := 123) hC (nI 1) dX4_buildsUp_122 (by decide) rfl ?_
            refine pm_st_torn (q := 124) hY hC (i := 24 * m + s) (x := nI (1)) (by omega) dX4_buildsUp_123 rfl ?_
            refine vv_aload_n (q := 125) hC dX4_buildsUp_124 (x := Y.2.1 (0)) rfl rfl ?_
            refine pm_gM (q := 128) hY hC 22 hi_X4 hf_counts (by decide) rfl (v := .ref (Y.2.1 (13))) rfl dX4_buildsUp_125 rfl ?_
            refine vv_bipush (q := 130) hC (nI 8) dX4_buildsUp_128 (by decide) rfl ?_
            refine vv_dup2 (q := 131) hC dX4_buildsUp_130 rfl rfl rfl ?_
            refine pm_ld_counts (q := 132) hY hC (i := 8) (by omega) dX4_buildsUp_131 rfl ?_
            refine vv_iconst (q := 133) hC (nI 1) dX4_buildsUp_132 (by decide) rfl ?_
            refine vv_iadd (x := (vv_up τ 3 (24 * m + s) (vp_nar .boolean (nI (1)))) 13 8) (y := nI (1)) (q := 134) hC dX4_buildsUp_133 rfl ?_
            refine pm_st_counts (q := 135) hY hC (i := 8) (x := ((vv_up τ 3 (24 * m + s) (vp_nar .boolean (nI (1)))) 13 8) + (nI (1))) (by omega) dX4_buildsUp_134 rfl ?_
            refine vv_st (σ' := pm_b1 τ n m s t) (by unfold pm_b1; rw [if_neg c_77, show vp_nar .boolean (nI 1) = nI 1 from by decide]; rfl) ?_
            refine vv_aload_n (q := 136) hC dX4_buildsUp_135 (x := Y.2.1 (0)) rfl rfl ?_
            refine pm_gM (q := 139) hY hC 6 hi_X4 hf_built (by decide) rfl (v := .ref (Y.2.1 (5))) rfl dX4_buildsUp_136 rfl ?_
            refine vv_iload_n (q := 140) hC dX4_buildsUp_139 (x := nI (m)) rfl rfl ?_
            refine vv_dup2 (q := 141) hC dX4_buildsUp_140 rfl rfl rfl ?_
            refine pm_ld_built (q := 142) hY hC (i := m) (by omega) dX4_buildsUp_141 rfl ?_
            refine vv_iconst (q := 143) hC (nI 1) dX4_buildsUp_142 (by decide) rfl ?_
            refine vv_iadd (x := (pm_b1 τ n m s t) 5 m) (y := nI (1)) (q := 144) hC dX4_buildsUp_143 rfl ?_
            refine pm_st_built (q := 145) hY hC (i := m) (x := ((pm_b1 τ n m s t) 5 m) + (nI (1))) (by omega) dX4_buildsUp_144 rfl ?_
            refine vv_st (σ' := pm_b2 τ n m s t) (rfl) ?_
            refine vv_aload_n (q := 146) hC dX4_buildsUp_145 (x := Y.2.1 (0)) rfl rfl ?_
            refine pm_gM (q := 149) hY hC 6 hi_X4 hf_built (by decide) rfl (v := .ref (Y.2.1 (5))) rfl dX4_buildsUp_146 rfl ?_
            refine vv_iload_n (q := 150) hC dX4_buildsUp_149 (x := nI (m)) rfl rfl ?_
            refine pm_ld_built (q := 151) hY hC (i := m) (by omega) dX4_buildsUp_150 rfl ?_
            refine vv_bipush (q := 153) hC (nI 24) dX4_buildsUp_151 (by decide) rfl ?_
            refine vv_icmp_ne (x := (pm_b2 τ n m s t) 5 m) (y := nI (24)) (q := 156) (tgt := 180) hC dX4_buildsUp_153 (by decide) rfl (fun c_153 => ?_) (fun c_153 => ?_)
            · refine vv_iconst (q := 181) hC (nI 1) dX4_buildsUp_180 (by decide) rfl ?_
              refine vv_zret (v := nI (1)) hC (by first | rfl | decide) dX4_buildsUp_181 ?_
              rw [hp]
              unfold pm_bu
              rw [hw, if_pos rfl, if_neg (fun z => c_77 z.1), if_neg c_153]
              exact ⟨congrArg (fun z => some (Value.int z)) (vv_B1 rfl).symm, rfl⟩
            · refine vv_aload_n (q := 157) hC dX4_buildsUp_156 (x := Y.2.1 (0)) rfl rfl ?_
              refine vv_aload_n (q := 158) hC dX4_buildsUp_157 (x := Y.2.1 (0)) rfl rfl ?_
              refine pm_gM (q := 161) hY hC 15 hi_X4 hf_markCell (by decide) rfl (v := .int ((pm_b2 τ n m s t) 0 15)) rfl dX4_buildsUp_158 rfl ?_
              refine vv_aload_n (q := 162) hC dX4_buildsUp_161 (x := Y.2.1 (0)) rfl rfl ?_
              refine pm_gM (q := 165) hY hC 16 hi_X4 hf_markSerial (by decide) rfl (v := .int ((pm_b2 τ n m s t) 0 16)) rfl dX4_buildsUp_162 rfl ?_
              refine vv_callV (n := 2) (k := 0) (As := [.int ((pm_b2 τ n m s t) 0 15), .int ((pm_b2 τ n m s t) 0 16)]) (st := []) (q := 168) hC (hY.k (by decide)) (hY.M _) (by rw [hY.cl]; rfl) (cm_X4_markIs _ Y n hY (pm_b2 τ n m s t) ((pm_b2 τ n m s t) 0 15) ((pm_b2 τ n m s t) 0 16) ) gX4_buildsUp_X4_markIs rfl (by decide +kernel) dX4_buildsUp_165 rfl rfl rfl (vv_kR ?_)
              refine vv_ifB_ne (b := ¬ (pm_b2 τ n m s t) 0 19 = 0) (q := 171) (tgt := 173) hC dX4_buildsUp_168 (by decide) rfl (fun c_168 => ?_) (fun c_168 => ?_)
              · refine vv_aload_n (q := 174) hC dX4_buildsUp_173 (x := Y.2.1 (0)) rfl rfl ?_
                refine pm_gM (q := 177) hY hC 5 hi_X4 hf_state (by decide) rfl (v := .ref (Y.2.1 (4))) rfl dX4_buildsUp_174 rfl ?_
                refine vv_iload_n (q := 178) hC dX4_buildsUp_177 (x := nI (m)) rfl rfl ?_
                refine vv_iconst (q := 179) hC (nI 0) dX4_buildsUp_178 (by decide) rfl ?_
                refine pm_st_state (q := 180) hY hC (i := m) (x := nI (0)) (by omega) dX4_buildsUp_179 rfl ?_
                refine vv_iconst (q := 181) hC (nI 1) dX4_buildsUp_180 (by decide) rfl ?_
                refine vv_zret (v := nI (1)) hC (by first | rfl | decide) dX4_buildsUp_181 ?_
                rw [hp]
                unfold pm_bu
                rw [hw, if_pos rfl, if_neg (fun z => c_77 z.1), if_pos c_153, if_neg c_168]
                exact ⟨congrArg (fun z => some (Value.int z)) (vv_B1 rfl).symm, rfl⟩
              · refine vv_iconst (q := 172) hC (nI 0) dX4_buildsUp_171 (by decide) rfl ?_
                refine vv_zret (v := nI (0)) hC (by first | rfl | decide) dX4_buildsUp_172 ?_
                rw [hp]
                unfold pm_bu
                rw [hw, if_pos rfl, if_neg (fun z => c_77 z.1), if_pos c_153, if_pos (Decidable.of_not_not c_168)]
                exact ⟨congrArg (fun z => some (Value.int z)) (vv_B0 (fun h => by cases h)).symm, rfl⟩
          · refine vv_aload_n (q := 81) hC dX4_buildsUp_80 (x := Y.2.1 (0)) rfl rfl ?_
            refine pm_gM (q := 84) hY hC 22 hi_X4 hf_counts (by decide) rfl (v := .ref (Y.2.1 (13))) rfl dX4_buildsUp_81 rfl ?_
            refine vv_iconst (q := 85) hC (nI 3) dX4_buildsUp_84 (by decide) rfl ?_
            refine vv_dup2 (q := 86) hC dX4_buildsUp_85 rfl rfl rfl ?_
            refine pm_ld_counts (q := 87) hY hC (i := 3) (by omega) dX4_buildsUp_86 rfl ?_
            refine vv_aload_n (q := 88) hC dX4_buildsUp_87 (x := Y.2.1 (0)) rfl rfl ?_
            refine pm_gM (q := 91) hY hC 1 hi_X4 hf_many (by decide) rfl (v := .int (nI (n))) rfl dX4_buildsUp_88 rfl ?_
            refine vv_iconst (q := 92) hC (nI 1) dX4_buildsUp_91 (by decide) rfl ?_
            refine vv_subN (x := n) (y := 1) (q := 93) hC dX4_buildsUp_92 (by omega) rfl ?_
            refine vv_iadd (x := τ 13 3) (y := nI (n - 1)) (q := 94) hC dX4_buildsUp_93 rfl ?_
            refine pm_st_counts (q := 95) hY hC (i := 3) (x := (τ 13 3) + (nI (n - 1))) (by omega) dX4_buildsUp_94 rfl ?_
            refine vv_aload_n (q := 96) hC dX4_buildsUp_95 (x := Y.2.1 (0)) rfl rfl ?_
            refine vv_iload_n (q := 97) hC dX4_buildsUp_96 (x := nI (m)) rfl rfl ?_
            refine vv_iload_n (q := 98) hC dX4_buildsUp_97 (x := nI (s)) rfl rfl ?_
            refine vv_callV (n := 2) (k := 0) (As := [.int (nI (m)), .int (nI (s))]) (st := []) (q := 101) hC (hY.k (by decide)) (hY.M _) (by rw [hY.cl]; rfl) (cm_X4_freshIsOthers _ Y n hY (vv_up τ 13 3 ((τ 13 3) + (nI (n - 1)))) (nI (m)) s (by omega)) gX4_buildsUp_X4_freshIsOthers rfl (by decide +kernel) dX4_buildsUp_98 rfl rfl rfl (vv_kRv ?_)
            refine vv_st (σ' := pm_bo τ n m s) (rfl) ?_
            refine vv_aload_n (q := 102) hC dX4_buildsUp_101 (x := Y.2.1 (0)) rfl rfl ?_
            refine vv_iload_n (q := 103) hC dX4_buildsUp_102 (x := nI (m)) rfl rfl ?_
            refine vv_iload_n (q := 104) hC dX4_buildsUp_103 (x := nI (s)) rfl rfl ?_
            refine vv_callV (n := 2) (k := 0) (As := [.int (nI (m)), .int (nI (s))]) (st := []) (q := 107) hC (hY.k (by decide)) (hY.M _) (by rw [hY.cl]; rfl) (cm_X4_chunkIs _ Y n hY (pm_bo τ n m s) m s t (by omega) (by omega) (by show τ 0 20 = _; rw [← ht2]; exact hJt.2.1.1) (by rw [← ht2]; exact hJt.2.1.2)) gX4_buildsUp_X4_chunkIs rfl (by decide +kernel) dX4_buildsUp_104 rfl rfl rfl (vv_kR ?_)
            refine vv_ifB_ne (b := ¬ (pm_bo τ n m s) 0 19 = 0) (q := 110) (tgt := 135) hC dX4_buildsUp_107 (by decide) rfl (fun c_107 => ?_) (fun c_107 => ?_)
            · refine vv_st (σ' := pm_b1 τ n m s t) (by unfold pm_b1; rw [if_pos c_77]) ?_
              refine vv_aload_n (q := 136) hC dX4_buildsUp_135 (x := Y.2.1 (0)) rfl rfl ?_
              refine pm_gM (q := 139) hY hC 6 hi_X4 hf_built (by decide) rfl (v := .ref (Y.2.1 (5))) rfl dX4_buildsUp_136 rfl ?_
              refine vv_iload_n (q := 140) hC dX4_buildsUp_139 (x := nI (m)) rfl rfl ?_
              refine vv_dup2 (q := 141) hC dX4_buildsUp_140 rfl rfl rfl ?_
              refine pm_ld_built (q := 142) hY hC (i := m) (by omega) dX4_buildsUp_141 rfl ?_
              refine vv_iconst (q := 143) hC (nI 1) dX4_buildsUp_142 (by decide) rfl ?_
              refine vv_iadd (x := (pm_b1 τ n m s t) 5 m) (y := nI (1)) (q := 144) hC dX4_buildsUp_143 rfl ?_
              refine pm_st_built (q := 145) hY hC (i := m) (x := ((pm_b1 τ n m s t) 5 m) + (nI (1))) (by omega) dX4_buildsUp_144 rfl ?_
              refine vv_st (σ' := pm_b2 τ n m s t) (rfl) ?_
              refine vv_aload_n (q := 146) hC dX4_buildsUp_145 (x := Y.2.1 (0)) rfl rfl ?_
              refine pm_gM (q := 149) hY hC 6 hi_X4 hf_built (by decide) rfl (v := .ref (Y.2.1 (5))) rfl dX4_buildsUp_146 rfl ?_
              refine vv_iload_n (q := 150) hC dX4_buildsUp_149 (x := nI (m)) rfl rfl ?_
              refine pm_ld_built (q := 151) hY hC (i := m) (by omega) dX4_buildsUp_150 rfl ?_
              refine vv_bipush (q := 153) hC (nI 24) dX4_buildsUp_151 (by decide) rfl ?_
              refine vv_icmp_ne (x := (pm_b2 τ n m s t) 5 m) (y := nI (24)) (q := 156) (tgt := 180) hC dX4_buildsUp_153 (by decide) rfl (fun c_153 => ?_) (fun c_153 => ?_)
              · refine vv_iconst (q := 181) hC (nI 1) dX4_buildsUp_180 (by decide) rfl ?_
                refine vv_zret (v := nI (1)) hC (by first | rfl | decide) dX4_buildsUp_181 ?_
                rw [hp]
                unfold pm_bu
                rw [hw, if_pos rfl, if_neg (fun z => c_107 (show τ 0 19 = 0 from z.2)), if_neg c_153]
                exact ⟨congrArg (fun z => some (Value.int z)) (vv_B1 rfl).symm, rfl⟩
              · refine vv_aload_n (q := 157) hC dX4_buildsUp_156 (x := Y.2.1 (0)) rfl rfl ?_
                refine vv_aload_n (q := 158) hC dX4_buildsUp_157 (x := Y.2.1 (0)) rfl rfl ?_
                refine pm_gM (q := 161) hY hC 15 hi_X4 hf_markCell (by decide) rfl (v := .int ((pm_b2 τ n m s t) 0 15)) rfl dX4_buildsUp_158 rfl ?_
                refine vv_aload_n (q := 162) hC dX4_buildsUp_161 (x := Y.2.1 (0)) rfl rfl ?_
                refine pm_gM (q := 165) hY hC 16 hi_X4 hf_markSerial (by decide) rfl (v := .int ((pm_b2 τ n m s t) 0 16)) rfl dX4_buildsUp_162 rfl ?_
                refine vv_callV (n := 2) (k := 0) (As := [.int ((pm_b2 τ n m s t) 0 15), .int ((pm_b2 τ n m s t) 0 16)]) (st := []) (q := 168) hC (hY.k (by decide)) (hY.M _) (by rw [hY.cl]; rfl) (cm_X4_markIs _ Y n hY (pm_b2 τ n m s t) ((pm_b2 τ n m s t) 0 15) ((pm_b2 τ n m s t) 0 16) ) gX4_buildsUp_X4_markIs rfl (by decide +kernel) dX4_buildsUp_165 rfl rfl rfl (vv_kR ?_)
                refine vv_ifB_ne (b := ¬ (pm_b2 τ n m s t) 0 19 = 0) (q := 171) (tgt := 173) hC dX4_buildsUp_168 (by decide) rfl (fun c_168 => ?_) (fun c_168 => ?_)
                · refine vv_aload_n (q := 174) hC dX4_buildsUp_173 (x := Y.2.1 (0)) rfl rfl ?_
                  refine pm_gM (q := 177) hY hC 5 hi_X4 hf_state (by decide) rfl (v := .ref (Y.2.1 (4))) rfl dX4_buildsUp_174 rfl ?_
                  refine vv_iload_n (q := 178) hC dX4_buildsUp_177 (x := nI (m)) rfl rfl ?_
                  refine vv_iconst (q := 179) hC (nI 0) dX4_buildsUp_178 (by decide) rfl ?_
                  refine pm_st_state (q := 180) hY hC (i := m) (x := nI (0)) (by omega) dX4_buildsUp_179 rfl ?_
                  refine vv_iconst (q := 181) hC (nI 1) dX4_buildsUp_180 (by decide) rfl ?_
                  refine vv_zret (v := nI (1)) hC (by first | rfl | decide) dX4_buildsUp_181 ?_
                  rw [hp]
                  unfold pm_bu
                  rw [hw, if_pos rfl, if_neg (fun z => c_107 (show τ 0 19 = 0 from z.2)), if_pos c_153, if_neg c_168]
                  exact ⟨congrArg (fun z => some (Value.int z)) (vv_B1 rfl).symm, rfl⟩
                · refine vv_iconst (q := 172) hC (nI 0) dX4_buildsUp_171 (by decide) rfl ?_
                  refine vv_zret (v := nI (0)) hC (by first | rfl | decide) dX4_buildsUp_172 ?_
                  rw [hp]
                  unfold pm_bu
                  rw [hw, if_pos rfl, if_neg (fun z => c_107 (show τ 0 19 = 0 from z.2)), if_pos c_153, if_pos (Decidable.of_not_not c_168)]
                  exact ⟨congrArg (fun z => some (Value.int z)) (vv_B0 (fun h => by cases h)).symm, rfl⟩
            · refine vv_iconst (q := 111) hC (nI 0) dX4_buildsUp_110 (by decide) rfl ?_
              refine vv_zret (v := nI (0)) hC (by first | rfl | decide) dX4_buildsUp_111 ?_
              rw [hp]
              unfold pm_bu
              rw [hw, if_pos rfl, if_pos ⟨c_77, show τ 0 19 = 0 from Decidable.of_not_not c_107⟩]
              exact ⟨congrArg (fun z => some (Value.int z)) (vv_B0 (fun h => by cases h)).symm, by show _ = pm_b1 τ n m s t; unfold pm_b1; rw [if_pos c_77]⟩
        · refine vv_aload_n (q := 57) hC dX4_buildsUp_56 (x := Y.2.1 (0)) rfl rfl ?_
          refine vv_callV (n := 0) (k := 0) (As := []) (st := []) (q := 60) hC (hY.k (by decide)) (hY.M _) (by rw [hY.cl]; rfl) (cm_X4_drained _ Y n hY τ  hJt (by omega)) gX4_buildsUp_X4_drained rfl (by decide +kernel) dX4_buildsUp_57 rfl rfl rfl (vv_kR ?_)
          refine vv_ifB_ne (b := (pm_dr1 n τ).1 = true) (q := 63) (tgt := 65) hC dX4_buildsUp_60 (by decide) rfl (fun c_60 => ?_) (fun c_60 => ?_)
          · refine vv_iincN (x := k) (L' := [(0, .ref (Y.2.1 (0))), (1, .int (nI (m))), (2, .int (nI (s))), (3, .int (nI (pm_up σ s (pm_r σ)))), (4, .int (nI (k + 1)))]) (q := 68) hC dX4_buildsUp_65 rfl (by decide) rfl rfl rfl ?_
            refine vv_goto (tgt := 50) hC dX4_buildsUp_68 (by decide) ?_
            exact ih_50 (k + 1) (by first | omega | (dsimp only; omega)) ((pm_dr1 n τ).2) (by omega) (pm_dr1_J hJt (by omega)).1 (by rw [(pm_dr1_J hJt (by omega)).2 c_60]; omega) (by rw [hv, show pm_up σ s (pm_r σ) - k = (pm_up σ s (pm_r σ) - (k + 1)) + 1 by omega]; exact if_pos c_60)
          · refine vv_iconst (q := 64) hC (nI 0) dX4_buildsUp_63 (by decide) rfl ?_
            refine vv_zret (v := nI (0)) hC (by first | rfl | decide) dX4_buildsUp_64 ?_
            rw [hp]
            unfold pm_bu
            have hw : pm_bd σ n s = (false, (pm_dr1 n τ).2) := by rw [hv, show pm_up σ s (pm_r σ) - k = (pm_up σ s (pm_r σ) - (k + 1)) + 1 by omega]; exact if_neg c_60
            rw [hw, if_neg (fun z => by cases z)]
            exact ⟨congrArg (fun z => some (Value.int z)) (vv_B0 (fun h => by cases h)).symm, rfl⟩
      refine vv_loc (L' := [(0, .ref (Y.2.1 (0))), (1, .int (nI (m))), (2, .int (nI (s))), (3, .int (nI (pm_up σ s (pm_r σ)))), (4, .int (nI (0)))]) (by rw [show k = pm_r σ by omega]) ?_
      exact lp_50 0 σ (by omega) hJ (by omega) rfl
    · refine vv_aload_n (q := 22) hC dX4_buildsUp_21 (x := Y.2.1 (0)) rfl rfl ?_
      refine pm_gM (q := 25) hY hC 9 hi_X4 hf_stripes (by decide) rfl (v := .ref (Y.2.1 (7))) rfl dX4_buildsUp_22 rfl ?_
      refine vv_iload (q := 27) hC dX4_buildsUp_25 (x := nI (k)) rfl rfl ?_
      refine pm_ld_stripes (q := 28) hY hC (i := k) (by omega) dX4_buildsUp_27 rfl ?_
      refine vv_iload_n (q := 29) hC dX4_buildsUp_28 (x := nI (s)) rfl rfl ?_
      refine vv_icmp_ne (x := σ 7 k) (y := nI (s)) (q := 32) (tgt := 39) hC dX4_buildsUp_29 (by decide) rfl (fun c_29 => ?_) (fun c_29 => ?_)
      · refine vv_iload_n (q := 40) hC dX4_buildsUp_39 (x := nI (pm_up σ s k)) rfl rfl ?_
        refine vv_istore_n (L' := [(0, .ref (Y.2.1 (0))), (1, .int (nI (m))), (2, .int (nI (s))), (3, .int (nI (pm_up σ s k))), (4, .int (nI (k)))]) (q := 41) hC dX4_buildsUp_40 (by decide) rfl rfl rfl ?_
        refine vv_iincN (x := k) (L' := [(0, .ref (Y.2.1 (0))), (1, .int (nI (m))), (2, .int (nI (s))), (3, .int (nI (pm_up σ s k))), (4, .int (nI (k + 1)))]) (q := 44) hC dX4_buildsUp_41 rfl (by decide) rfl rfl rfl ?_
        refine vv_goto (tgt := 12) hC dX4_buildsUp_44 (by decide) ?_
        refine vv_loc (L' := [(0, .ref (Y.2.1 (0))), (1, .int (nI (m))), (2, .int (nI (s))), (3, .int (nI (pm_up σ s (k + 1)))), (4, .int (nI ((k + 1))))]) (by rw [show pm_up σ s (k + 1) = _ from if_neg c_29]) ?_
        exact ih_12 (k + 1) (by first | omega | (dsimp only; omega))  (by omega)
      · refine vv_iload (q := 34) hC dX4_buildsUp_32 (x := nI (k)) rfl rfl ?_
        refine vv_iconst (q := 35) hC (nI 1) dX4_buildsUp_34 (by decide) rfl ?_
        refine vv_addN (x := k) (y := 1) (q := 36) hC dX4_buildsUp_35 rfl ?_
        refine vv_goto (tgt := 40) hC dX4_buildsUp_36 (by decide) ?_
        refine vv_istore_n (L' := [(0, .ref (Y.2.1 (0))), (1, .int (nI (m))), (2, .int (nI (s))), (3, .int (nI (k + 1))), (4, .int (nI (k)))]) (q := 41) hC dX4_buildsUp_40 (by decide) rfl rfl rfl ?_
        refine vv_iincN (x := k) (L' := [(0, .ref (Y.2.1 (0))), (1, .int (nI (m))), (2, .int (nI (s))), (3, .int (nI (k + 1))), (4, .int (nI (k + 1)))]) (q := 44) hC dX4_buildsUp_41 rfl (by decide) rfl rfl rfl ?_
        refine vv_goto (tgt := 12) hC dX4_buildsUp_44 (by decide) ?_
        refine vv_loc (L' := [(0, .ref (Y.2.1 (0))), (1, .int (nI (m))), (2, .int (nI (s))), (3, .int (nI (pm_up σ s (k + 1)))), (4, .int (nI ((k + 1))))]) (by rw [show pm_up σ s (k + 1) = _ from if_pos c_29]) ?_
        exact ih_12 (k + 1) (by first | omega | (dsimp only; omega))  (by omega)
  exact lp_12 0 (by omega)
