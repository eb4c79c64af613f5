set_option maxRecDepth 100000 in
set_option maxHeartbeats 4000000 in
theorem cm_X3_putEntry (l : Launch) (Y : vv_Y) (n : Nat) (hY : pc_sys Y n) (σ : vv_S) (e : Nat) (s : Nat) (he : e < 11) (hs : s < 24) (hst : σ (pc_e e) 1 = nI s) : vv_M l Y yX3_putEntry wsX3_putEntry { frames := 3, cells := 0, slots := 0, locals := 73 } [.ref (Y.2.1 (0)), .ref (Y.2.1 (pc_e e))] σ (vv_R (.int (vv_B ((pc_pe n e s σ).1 = true))) ((pc_pe n e s σ).2)) := by
  refine vv_M.of (cc := cX3_putEntry) (maxL := 4) (ret := (some .boolean)) hY.ok (by decide) rfl (Nat.le_of_ble_eq_true rfl) ?_
  intro Z hl hp hC
  subst hl
  have hi_X1 : ∀ w ∈ u_ws RX1 TX1 4, w ∈ wsX3_putEntry := by decide +kernel
  have hi_X3 : ∀ w ∈ u_ws RX3 TX3 10, w ∈ wsX3_putEntry := by decide +kernel
  have hf_width : Cond.fieldLink RX3 36 "ParityRow" (TX3 0).2.1 (TX3 0).2.2.1 ∈ wsX3_putEntry := by decide +kernel
  have hf_disks : Cond.fieldLink RX3 44 "ParityRow" (TX3 2).2.1 (TX3 2).2.2.1 ∈ wsX3_putEntry := by decide +kernel
  have hlo := hY.lo
  have hhi := hY.hi
  refine vv_loc (L' := [(0, .ref (Y.2.1 (0))), (1, .ref (Y.2.1 (pc_e e)))]) rfl ?_
  refine vv_iconst (q := 1) hC (nI 0) dX3_putEntry_0 (by decide) rfl ?_
  refine vv_istore_n (L' := [(0, .ref (Y.2.1 (0))), (1, .ref (Y.2.1 (pc_e e))), (2, .int (nI (0)))]) (q := 2) hC dX3_putEntry_1 (by decide) rfl rfl rfl ?_
  have lp_2 : ∀ p : Nat, ∀ τ : vv_S, (p ≤ n) → (τ (pc_e e) 1 = nI s) → (pc_pe n e s σ = pc_per n e s (n - p) p τ) → vv_V Y 4 Z τ 2 [(0, .ref (Y.2.1 (0))), (1, .ref (Y.2.1 (pc_e e))), (2, .int (nI (p)))] [] := by
    refine vv_ind (fun p => n - p) (fun p ih_2 => ?_)
    intro τ hpn ht hv
    refine vv_iload_n (q := 3) hC dX3_putEntry_2 (x := nI (p)) rfl rfl ?_
    refine vv_aload_n (q := 4) hC dX3_putEntry_3 (x := Y.2.1 (0)) rfl rfl ?_
    refine pc_gP (q := 7) hY hC 0 hi_X3 hf_width (by decide) rfl (v := .int (nI (n))) rfl dX3_putEntry_4 rfl ?_
    refine vv_icmpN_ge (x := p) (y := n) (q := 10) (tgt := 72) hC dX3_putEntry_7 (by decide) (by omega) (by omega) rfl (fun c_7 => ?_) (fun c_7 => ?_)
    · refine vv_iconst (q := 73) hC (nI 1) dX3_putEntry_72 (by decide) rfl ?_
      refine vv_zret (v := nI (1)) hC (by first | rfl | decide) dX3_putEntry_73 ?_
      rw [hp]
      rw [hv, show n - p = 0 by omega]
      exact ⟨congrArg (fun z => some (Value.int z)) (vv_B1 rfl).symm, rfl⟩
    · refine vv_aload_n (q := 11) hC dX3_putEntry_10 (x := Y.2.1 (0)) rfl rfl ?_
      refine vv_aload_n (q := 12) hC dX3_putEntry_11 (x := Y.2.1 (pc_e e)) rfl rfl ?_
      refine pc_gEN (q := 15) hY hC (by omega) 1 hi_X1 nw_X3_186 (by decide) rfl (v := .int (τ (pc_e e) 1)) rfl dX3_putEntry_12 rfl ?_
      refine vv_top (y := nI (s)) (ht) ?_
      refine vv_iload_n (q := 16) hC dX3_putEntry_15 (x := nI (p)) rfl rfl ?_
      refine vv_callV (n := 2) (k := 0) (As := [.int (nI (s)), .int (nI (p))]) (st := []) (q := 19) hC (hY.k (by decide)) (hY.P _) (by rw [hY.cl]; rfl) (cm_X3_memberOf _ Y n hY τ s p (by omega) (by omega)) gX3_putEntry_X3_memberOf rfl (by decide +kernel) dX3_putEntry_16 rfl rfl rfl (vv_kR ?_)
      refine vv_istore_n (L' := [(0, .ref (Y.2.1 (0))), (1, .ref (Y.2.1 (pc_e e))), (2, .int (nI (p))), (3, .int (nI (pc_mo n s p)))]) (q := 20) hC dX3_putEntry_19 (by decide) rfl rfl rfl ?_
      refine vv_aload_n (q := 21) hC dX3_putEntry_20 (x := Y.2.1 (pc_e e)) rfl rfl ?_
      refine vv_iload_n (q := 22) hC dX3_putEntry_21 (x := nI (p)) rfl rfl ?_
      refine vv_callVN (n := 1) (k := pc_e e) (As := [.int (nI (p))]) (st := []) (q := 25) hC (hY.ke (j := 0) (by omega) (by decide)) (hY.E (by omega) _) (by rw [hY.cl]; rfl) (cm_X1_has _ Y n hY τ e p (by omega)) gX3_putEntry_X1_has_n197 rfl (hY.nw nw_X3_197) (by decide +kernel) (by decide +kernel) (by decide +kernel) (by decide +kernel) dX3_putEntry_22 rfl rfl rfl (vv_kR ?_)
      refine vv_ifB_eq (b := pc_bit (τ (pc_e e) 2) p) (q := 28) (tgt := 66) hC dX3_putEntry_25 (by decide) rfl (fun c_25 => ?_) (fun c_25 => ?_)
      · refine vv_iincN (x := p) (L' := [(0, .ref (Y.2.1 (0))), (1, .ref (Y.2.1 (pc_e e))), (2, .int (nI (p + 1))), (3, .int (nI (pc_mo n s p)))]) (q := 69) hC dX3_putEntry_66 rfl (by decide) rfl rfl rfl ?_
        refine vv_goto (tgt := 2) hC dX3_putEntry_69 (by decide) ?_
        refine vv_sub (L' := [(0, .ref (Y.2.1 (0))), (1, .ref (Y.2.1 (pc_e e))), (2, .int (nI (p + 1)))]) (by simp) ?_
        exact ih_2 (p + 1) (by first | omega | (dsimp only; omega)) τ (by omega) ht (by rw [hv, show n - p = (n - (p + 1)) + 1 by omega]; exact if_neg (fun z => c_25 z.1))
      · refine vv_aload_n (q := 29) hC dX3_putEntry_28 (x := Y.2.1 (0)) rfl rfl ?_
        refine pc_gP (q := 32) hY hC 2 hi_X3 hf_disks (by decide) rfl (v := .ref (Y.2.1 (1))) rfl dX3_putEntry_29 rfl ?_
        refine vv_iload_n (q := 33) hC dX3_putEntry_32 (x := nI (pc_mo n s p)) rfl rfl ?_
        refine pc_ld_disks (q := 34) (m := pc_mo n s p) hY hC (pc_mo_lt hlo) dX3_putEntry_33 rfl ?_
        refine vv_aload_n (q := 35) hC dX3_putEntry_34 (x := Y.2.1 (pc_e e)) rfl rfl ?_
        refine pc_gEN (q := 38) hY hC (by omega) 1 hi_X1 nw_X3_186 (by decide) rfl (v := .int (τ (pc_e e) 1)) rfl dX3_putEntry_35 rfl ?_
        refine vv_top (y := nI (s)) (ht) ?_
        refine vv_callVN (n := 1) (k := pc_d (pc_mo n s p)) (As := [.int (nI (s))]) (st := []) (q := 41) hC (hY.kd (j := 0) (pc_mo_lt hlo) (by decide)) (hY.D _) (by rw [hY.cl]; rfl) (cm_X0_isOn _ Y n hY τ (pc_mo n s p) s (pc_mo_lt hlo) (by omega)) gX3_putEntry_X0_isOn_n237 rfl (hY.nw nw_X3_237) (by decide +kernel) (by decide +kernel) (by decide +kernel) (by decide +kernel) dX3_putEntry_38 rfl rfl rfl (vv_kR ?_)
        refine vv_ifB_eq (b := nI s < τ (pc_d (pc_mo n s p)) 4) (q := 44) (tgt := 66) hC dX3_putEntry_41 (by decide) rfl (fun c_41 => ?_) (fun c_41 => ?_)
        · refine vv_iincN (x := p) (L' := [(0, .ref (Y.2.1 (0))), (1, .ref (Y.2.1 (pc_e e))), (2, .int (nI (p + 1))), (3, .int (nI (pc_mo n s p)))]) (q := 69) hC dX3_putEntry_66 rfl (by decide) rfl rfl rfl ?_
          refine vv_goto (tgt := 2) hC dX3_putEntry_69 (by decide) ?_
          refine vv_sub (L' := [(0, .ref (Y.2.1 (0))), (1, .ref (Y.2.1 (pc_e e))), (2, .int (nI (p + 1)))]) (by simp) ?_
          exact ih_2 (p + 1) (by first | omega | (dsimp only; omega)) τ (by omega) ht (by rw [hv, show n - p = (n - (p + 1)) + 1 by omega]; exact if_neg (fun z => c_41 z.2))
        · refine vv_aload_n (q := 45) hC dX3_putEntry_44 (x := Y.2.1 (0)) rfl rfl ?_
          refine vv_iload_n (q := 46) hC dX3_putEntry_45 (x := nI (pc_mo n s p)) rfl rfl ?_
          refine vv_aload_n (q := 47) hC dX3_putEntry_46 (x := Y.2.1 (pc_e e)) rfl rfl ?_
          refine pc_gEN (q := 50) hY hC (by omega) 1 hi_X1 nw_X3_186 (by decide) rfl (v := .int (τ (pc_e e) 1)) rfl dX3_putEntry_47 rfl ?_
          refine vv_top (y := nI (s)) (ht) ?_
          refine vv_aload_n (q := 51) hC dX3_putEntry_50 (x := Y.2.1 (pc_e e)) rfl rfl ?_
          refine pc_gEN (q := 54) hY hC (by omega) 0 hi_X1 nw_X3_223 (by decide) rfl (v := .ref (Y.2.1 (pc_e e + 1))) rfl dX3_putEntry_51 rfl ?_
          refine vv_iload_n (q := 55) hC dX3_putEntry_54 (x := nI (p)) rfl rfl ?_
          refine vv_bipush (q := 57) hC (nI 8) dX3_putEntry_55 (by decide) rfl ?_
          refine vv_mulN (x := p) (y := 8) (q := 58) hC dX3_putEntry_57 rfl ?_
          refine vv_callV (n := 4) (k := 0) (As := [.int (nI (pc_mo n s p)), .int (nI (s)), .ref (Y.2.1 (pc_e e + 1)), .int (nI (p * 8))]) (st := []) (q := 61) hC (hY.k (by decide)) (hY.P _) (by rw [hY.cl]; rfl) (cm_X3_putChunk _ Y n hY τ (pc_mo n s p) s (pc_e e + 1) (p * 8) (pc_mo_lt hlo) (by omega) (pc_rw_ew he) (by rw [pc_len_ew he]; omega) (Or.inr (by unfold pc_e; omega))) gX3_putEntry_X3_putChunk rfl (by decide +kernel) dX3_putEntry_58 rfl rfl rfl (vv_kR ?_)
          refine vv_ifB_ne (b := ¬ τ 0 7 = 0) (q := 64) (tgt := 66) hC dX3_putEntry_61 (by decide) rfl (fun c_61 => ?_) (fun c_61 => ?_)
          · refine vv_iincN (x := p) (L' := [(0, .ref (Y.2.1 (0))), (1, .ref (Y.2.1 (pc_e e))), (2, .int (nI (p + 1))), (3, .int (nI (pc_mo n s p)))]) (q := 69) hC dX3_putEntry_66 rfl (by decide) rfl rfl rfl ?_
            refine vv_goto (tgt := 2) hC dX3_putEntry_69 (by decide) ?_
            refine vv_sub (L' := [(0, .ref (Y.2.1 (0))), (1, .ref (Y.2.1 (pc_e e))), (2, .int (nI (p + 1)))]) (by simp) ?_
            exact ih_2 (p + 1) (by first | omega | (dsimp only; omega)) (pc_pch τ n (pc_mo n s p) s (pc_e e + 1) (p * 8)) (by omega) (by rw [pc_pch_o (pc_e_lt he) (pc_e_ne (by decide)) (pc_e_ne (by decide))]; exact ht) (by rw [hv, show n - p = (n - (p + 1)) + 1 by omega]; exact (if_pos ⟨c_25, c_41⟩).trans (if_neg c_61))
          · refine vv_iconst (q := 65) hC (nI 0) dX3_putEntry_64 (by decide) rfl ?_
            refine vv_zret (v := nI (0)) hC (by first | rfl | decide) dX3_putEntry_65 ?_
            rw [hp]
            rw [hv, show n - p = (n - (p + 1)) + 1 by omega]
            rw [show pc_per n e s (n - (p + 1) + 1) p τ = _ from (if_pos ⟨c_25, c_41⟩).trans (if_pos (Decidable.of_not_not c_61))]
            exact ⟨congrArg (fun z => some (Value.int z)) (vv_B0 (fun h => by cases h)).symm, rfl⟩
  exact lp_2 0 σ (by omega) hst rfl
set_option maxRecDepth 100000 in
set_option maxHeartbeats 4000000 in
theorem cm_X3_drainOldest (l : Launch) (Y : vv_Y) (n : Nat) (hY : pc_sys Y n) (σ : vv_S) (q : Nat) (hJ0 : pc_J σ) (hq9 : q ≤ pc_r σ) : vv_M l Y yX3_drainOldest wsX3_drainOldest { frames := 4, cells := 0, slots := 0, locals := 96 } [.ref (Y.2.1 (0)), .int (nI (q))] σ (vv_R (.int (vv_B ((pc_dr n q σ).1 = true))) ((pc_dr n q σ).2)) := by
  refine vv_M.of (cc := cX3_drainOldest) (maxL := 3) (ret := (some .boolean)) hY.ok (by decide) rfl (Nat.le_of_ble_eq_true rfl) ?_
  intro Z hl hp hC
  subst hl
  have hi_X3 : ∀ w ∈ u_ws RX3 TX3 10, w ∈ wsX3_drainOldest := by decide +kernel
  have hf_log : Cond.fieldLink RX3 54 "ParityRow" (TX3 3).2.1 (TX3 3).2.2.1 ∈ wsX3_drainOldest := by decide +kernel
  have hf_tally : Cond.fieldLink RX3 9 "ParityRow" (TX3 4).2.1 (TX3 4).2.2.1 ∈ wsX3_drainOldest := by decide +kernel
  have hlo := hY.lo
  have hhi := hY.hi
  refine vv_loc (L' := [(0, .ref (Y.2.1 (0))), (1, .int (nI (q)))]) rfl ?_
  refine vv_iconst (q := 1) hC (nI 0) dX3_drainOldest_0 (by decide) rfl ?_
  refine vv_istore_n (L' := [(0, .ref (Y.2.1 (0))), (1, .int (nI (q))), (2, .int (nI (0)))]) (q := 2) hC dX3_drainOldest_1 (by decide) rfl rfl rfl ?_
  have lp_2 : ∀ k : Nat, ∀ τ : vv_S, (k ≤ q) → (pc_J τ) → (pc_r τ = pc_r σ - k) → (pc_dr n q σ = pc_dr n (q - k) τ) → vv_V Y 3 Z τ 2 [(0, .ref (Y.2.1 (0))), (1, .int (nI (q))), (2, .int (nI (k)))] [] := by
    refine vv_ind (fun k => q - k) (fun k ih_2 => ?_)
    intro τ hk hJ hrk hv
    have ho := hJ.1
    have ho11 := hJ.2.1
    have hr := hJ.2.2.1
    have hr10 := hJ.2.2.2.1
    have hr10b := hJ0.2.2.2.1
    refine vv_iload_n (q := 3) hC dX3_drainOldest_2 (x := nI (k)) rfl rfl ?_
    refine vv_iload_n (q := 4) hC dX3_drainOldest_3 (x := nI (q)) rfl rfl ?_
    refine vv_icmpN_ge (x := k) (y := q) (q := 7) (tgt := 48) hC dX3_drainOldest_4 (by decide) (by omega) (by omega) rfl (fun c_4 => ?_) (fun c_4 => ?_)
    · refine vv_iconst (q := 49) hC (nI 1) dX3_drainOldest_48 (by decide) rfl ?_
      refine vv_zret (v := nI (1)) hC (by first | rfl | decide) dX3_drainOldest_49 ?_
      rw [hp]
      rw [hv, show q - k = 0 by omega]
      exact ⟨congrArg (fun z => some (Value.int z)) (vv_B1 rfl).symm, rfl⟩
    · refine vv_aload_n (q := 8) hC dX3_drainOldest_7 (x := Y.2.1 (0)) rfl rfl ?_
      refine vv_aload_n (q := 9) hC dX3_drainOldest_8 (x := Y.2.1 (0)) rfl rfl ?_
      refine pc_gP (q := 12) hY hC 3 hi_X3 hf_log (by decide) rfl (v := .ref (Y.2.1 (2))) rfl dX3_drainOldest_9 rfl ?_
      refine vv_iconst (q := 13) hC (nI 0) dX3_drainOldest_12 (by decide) rfl ?_
      refine vv_callVN (n := 1) (k := 2) (As := [.int (nI (0))]) (st := [.ref (Y.2.1 (0))]) (q := 16) hC (hY.k (by decide)) (hY.J _) (by rw [hY.cl]; rfl) (cm_X2_entry _ Y n hY τ (pc_o τ) 0 ho ho11 (by omega)) gX3_drainOldest_X2_entry_n182 rfl (hY.nw nw_X3_182) (by decide +kernel) (by decide +kernel) (by decide +kernel) (by decide +kernel) dX3_drainOldest_13 rfl rfl rfl (vv_kR ?_)
      refine vv_callV (n := 1) (k := 0) (As := [.ref (Y.2.1 (pc_e (pc_re (pc_o τ) 0)))]) (st := []) (q := 19) hC (hY.k (by decide)) (hY.P _) (by rw [hY.cl]; rfl) (cm_X3_putEntry _ Y n hY τ (pc_re (pc_o τ) 0) (pc_s τ (pc_re (pc_o τ) 0)) (Nat.mod_lt _ (by decide)) (hJ.2.2.2.2 _ (Nat.mod_lt _ (by decide))).2 (hJ.2.2.2.2 _ (Nat.mod_lt _ (by decide))).1) gX3_drainOldest_X3_putEntry rfl (by decide +kernel) dX3_drainOldest_16 rfl rfl rfl (vv_kR ?_)
      refine vv_ifB_eq (b := (pc_pe n (pc_re (pc_o τ) 0) (pc_s τ (pc_re (pc_o τ) 0)) τ).1 = true) (q := 22) (tgt := 30) hC dX3_drainOldest_19 (by decide) rfl (fun c_19 => ?_) (fun c_19 => ?_)
      · refine vv_iconst (q := 31) hC (nI 0) dX3_drainOldest_30 (by decide) rfl ?_
        refine vv_zret (v := nI (0)) hC (by first | rfl | decide) dX3_drainOldest_31 ?_
        rw [hp]
        rw [hv, show q - k = (q - (k + 1)) + 1 by omega]
        rw [show pc_dr n (q - (k + 1) + 1) τ = _ from if_neg c_19]
        exact ⟨congrArg (fun z => some (Value.int z)) (vv_B0 (fun h => by cases h)).symm, rfl⟩
      · refine vv_st (σ' := (pc_d1 n τ).2) (rfl) ?_
        refine vv_aload_n (q := 23) hC dX3_drainOldest_22 (x := Y.2.1 (0)) rfl rfl ?_
        refine vv_iconst (q := 24) hC (nI 1) dX3_drainOldest_23 (by decide) rfl ?_
        refine vv_callV (n := 1) (k := 0) (As := [.int (nI (1))]) (st := []) (q := 27) hC (hY.k (by decide)) (hY.P _) (by rw [hY.cl]; rfl) (cm_X3_putMark _ Y n hY ((pc_d1 n τ).2) (pc_o τ) (pc_r τ) 1 (by rw [show (pc_d1 n τ).2 2 = τ 2 from pc_pe_o (by decide) (by decide) (by decide)]; exact ho) ho11 (by rw [show (pc_d1 n τ).2 2 = τ 2 from pc_pe_o (by decide) (by decide) (by decide)]; exact hr) hr10 (by omega)) gX3_drainOldest_X3_putMark rfl (by decide +kernel) dX3_drainOldest_24 rfl rfl rfl (vv_kR ?_)
        refine vv_ifB_ne (b := ¬ ((pc_d1 n τ).2) 0 7 = 0) (q := 30) (tgt := 32) hC dX3_drainOldest_27 (by decide) rfl (fun c_27 => ?_) (fun c_27 => ?_)
        · refine vv_aload_n (q := 33) hC dX3_drainOldest_32 (x := Y.2.1 (0)) rfl rfl ?_
          refine pc_gP (q := 36) hY hC 4 hi_X3 hf_tally (by decide) rfl (v := .ref (Y.2.1 (4))) rfl dX3_drainOldest_33 rfl ?_
          refine vv_iconst (q := 37) hC (nI 5) dX3_drainOldest_36 (by decide) rfl ?_
          refine vv_dup2 (q := 38) hC dX3_drainOldest_37 rfl rfl rfl ?_
          refine pc_ld_tally (q := 39) hY hC (i := 5) (by omega) dX3_drainOldest_38 rfl ?_
          refine vv_iconst (q := 40) hC (nI 1) dX3_drainOldest_39 (by decide) rfl ?_
          refine vv_iadd (x := (pc_pmk ((pc_d1 n τ).2) n (pc_o τ) (pc_r τ) 1) 4 5) (y := nI (1)) (q := 41) hC dX3_drainOldest_40 rfl ?_
          refine pc_st_tally (q := 42) hY hC (i := 5) (x := ((pc_pmk ((pc_d1 n τ).2) n (pc_o τ) (pc_r τ) 1) 4 5) + (nI (1))) (by omega) dX3_drainOldest_41 rfl ?_
          refine vv_st (σ' := pc_tl (pc_pmk (pc_d1 n τ).2 n (pc_o τ) (pc_r τ) 1) 5) (rfl) ?_
          refine vv_iincN (x := k) (L' := [(0, .ref (Y.2.1 (0))), (1, .int (nI (q))), (2, .int (nI (k + 1)))]) (q := 45) hC dX3_drainOldest_42 rfl (by decide) rfl rfl rfl ?_
          refine vv_goto (tgt := 2) hC dX3_drainOldest_45 (by decide) ?_
          exact ih_2 (k + 1) (by first | omega | (dsimp only; omega)) (pc_tl (pc_pmk (pc_d1 n τ).2 n (pc_o τ) (pc_r τ) 1) 5) (by omega) (pc_dr_J hJ (by omega) c_27).1 (by rw [pc_r_eq (pc_dr_J hJ (by omega) c_27).2 (by omega)]; omega) (by rw [hv, show q - k = (q - (k + 1)) + 1 by omega]; exact (if_pos c_19).trans (if_neg c_27))
        · refine vv_iconst (q := 31) hC (nI 0) dX3_drainOldest_30 (by decide) rfl ?_
          refine vv_zret (v := nI (0)) hC (by first | rfl | decide) dX3_drainOldest_31 ?_
          rw [hp]
          rw [hv, show q - k = (q - (k + 1)) + 1 by omega]
          rw [show pc_dr n (q - (k + 1) + 1) τ = _ from (if_pos c_19).trans (if_pos (Decidable.of_not_not c_27))]
          exact ⟨congrArg (fun z => some (Value.int z)) (vv_B0 (fun h => by cases h)).symm, rfl⟩
  exact lp_2 0 σ (by omega) hJ0 (by omega) rfl
set_option maxRecDepth 100000 in
set_option maxHeartbeats 4000000 in
theorem cm_X3_doAgain (l : Launch) (Y : vv_Y) (n : Nat) (hY : pc_sys Y n) (σ : vv_S) (q : Nat) (hJ0 : pc_J σ) (hq9 : q ≤ 10) : vv_M l Y yX3_doAgain wsX3_doAgain { frames := 4, cells := 0, slots := 0, locals := 96 } [.ref (Y.2.1 (0)), .int (nI (q))] σ (vv_R (.int (vv_B ((pc_da n q 0 σ).1 = true))) ((pc_da n q 0 σ).2)) := by
  refine vv_M.of (cc := cX3_doAgain) (maxL := 3) (ret := (some .boolean)) hY.ok (by decide) rfl (Nat.le_of_ble_eq_true rfl) ?_
  intro Z hl hp hC
  subst hl
  have hi_X3 : ∀ w ∈ u_ws RX3 TX3 10, w ∈ wsX3_doAgain := by decide +kernel
  have hf_log : Cond.fieldLink RX3 54 "ParityRow" (TX3 3).2.1 (TX3 3).2.2.1 ∈ wsX3_doAgain := by decide +kernel
  have hf_tally : Cond.fieldLink RX3 9 "ParityRow" (TX3 4).2.1 (TX3 4).2.2.1 ∈ wsX3_doAgain := by decide +kernel
  have hlo := hY.lo
  have hhi := hY.hi
  refine vv_loc (L' := [(0, .ref (Y.2.1 (0))), (1, .int (nI (q)))]) rfl ?_
  refine vv_iconst (q := 1) hC (nI 0) dX3_doAgain_0 (by decide) rfl ?_
  refine vv_istore_n (L' := [(0, .ref (Y.2.1 (0))), (1, .int (nI (q))), (2, .int (nI (0)))]) (q := 2) hC dX3_doAgain_1 (by decide) rfl rfl rfl ?_
  have lp_2 : ∀ k : Nat, ∀ τ : vv_S, (k ≤ q) → (pc_J τ) → (pc_da n q 0 σ = pc_da n (q - k) k τ) → vv_V Y 3 Z τ 2 [(0, .ref (Y.2.1 (0))), (1, .int (nI (q))), (2, .int (nI (k)))] [] := by
    refine vv_ind (fun k => q - k) (fun k ih_2 => ?_)
    intro τ hk hJ hv
    have ho := hJ.1
    have ho11 := hJ.2.1
    have hr := hJ.2.2.1
    have hr10 := hJ.2.2.2.1
    refine vv_iload_n (q := 3) hC dX3_doAgain_2 (x := nI (k)) rfl rfl ?_
    refine vv_iload_n (q := 4) hC dX3_doAgain_3 (x := nI (q)) rfl rfl ?_
    refine vv_icmpN_ge (x := k) (y := q) (q := 7) (tgt := 41) hC dX3_doAgain_4 (by decide) (by omega) (by omega) rfl (fun c_4 => ?_) (fun c_4 => ?_)
    · refine vv_iconst (q := 42) hC (nI 1) dX3_doAgain_41 (by decide) rfl ?_
      refine vv_zret (v := nI (1)) hC (by first | rfl | decide) dX3_doAgain_42 ?_
      rw [hp]
      rw [hv, show q - k = 0 by omega]
      exact ⟨congrArg (fun z => some (Value.int z)) (vv_B1 rfl).symm, rfl⟩
    · refine vv_aload_n (q := 8) hC dX3_doAgain_7 (x := Y.2.1 (0)) rfl rfl ?_
      refine vv_aload_n (q := 9) hC dX3_doAgain_8 (x := Y.2.1 (0)) rfl rfl ?_
      refine pc_gP (q := 12) hY hC 3 hi_X3 hf_log (by decide) rfl (v := .ref (Y.2.1 (2))) rfl dX3_doAgain_9 rfl ?_
      refine vv_iload_n (q := 13) hC dX3_doAgain_12 (x := nI (k)) rfl rfl ?_
      refine vv_callVN (n := 1) (k := 2) (As := [.int (nI (k))]) (st := [.ref (Y.2.1 (0))]) (q := 16) hC (hY.k (by decide)) (hY.J _) (by rw [hY.cl]; rfl) (cm_X2_entry _ Y n hY τ (pc_o τ) k ho ho11 (by omega)) gX3_doAgain_X2_entry_n182 rfl (hY.nw nw_X3_182) (by decide +kernel) (by decide +kernel) (by decide +kernel) (by decide +kernel) dX3_doAgain_13 rfl rfl rfl (vv_kR ?_)
      refine vv_callV (n := 1) (k := 0) (As := [.ref (Y.2.1 (pc_e (pc_re (pc_o τ) k)))]) (st := []) (q := 19) hC (hY.k (by decide)) (hY.P _) (by rw [hY.cl]; rfl) (cm_X3_putEntry _ Y n hY τ (pc_re (pc_o τ) k) (pc_s τ (pc_re (pc_o τ) k)) (Nat.mod_lt _ (by decide)) (hJ.2.2.2.2 _ (Nat.mod_lt _ (by decide))).2 (hJ.2.2.2.2 _ (Nat.mod_lt _ (by decide))).1) gX3_doAgain_X3_putEntry rfl (by decide +kernel) dX3_doAgain_16 rfl rfl rfl (vv_kR ?_)
      refine vv_ifB_ne (b := (pc_pe n (pc_re (pc_o τ) k) (pc_s τ (pc_re (pc_o τ) k)) τ).1 = true) (q := 22) (tgt := 24) hC dX3_doAgain_19 (by decide) rfl (fun c_19 => ?_) (fun c_19 => ?_)
      · refine vv_aload_n (q := 25) hC dX3_doAgain_24 (x := Y.2.1 (0)) rfl rfl ?_
        refine pc_gP (q := 28) hY hC 4 hi_X3 hf_tally (by decide) rfl (v := .ref (Y.2.1 (4))) rfl dX3_doAgain_25 rfl ?_
        refine vv_bipush (q := 30) hC (nI 6) dX3_doAgain_28 (by decide) rfl ?_
        refine vv_dup2 (q := 31) hC dX3_doAgain_30 rfl rfl rfl ?_
        refine pc_ld_tally (q := 32) hY hC (i := 6) (by omega) dX3_doAgain_31 rfl ?_
        refine vv_iconst (q := 33) hC (nI 1) dX3_doAgain_32 (by decide) rfl ?_
        refine vv_iadd (x := ((pc_pe n (pc_re (pc_o τ) k) (pc_s τ (pc_re (pc_o τ) k)) τ).2) 4 6) (y := nI (1)) (q := 34) hC dX3_doAgain_33 rfl ?_
        refine pc_st_tally (q := 35) hY hC (i := 6) (x := (((pc_pe n (pc_re (pc_o τ) k) (pc_s τ (pc_re (pc_o τ) k)) τ).2) 4 6) + (nI (1))) (by omega) dX3_doAgain_34 rfl ?_
        refine vv_st (σ' := pc_tl (pc_pe n (pc_re (pc_o τ) k) (pc_s τ (pc_re (pc_o τ) k)) τ).2 6) (rfl) ?_
        refine vv_iincN (x := k) (L' := [(0, .ref (Y.2.1 (0))), (1, .int (nI (q))), (2, .int (nI (k + 1)))]) (q := 38) hC dX3_doAgain_35 rfl (by decide) rfl rfl rfl ?_
        refine vv_goto (tgt := 2) hC dX3_doAgain_38 (by decide) ?_
        exact ih_2 (k + 1) (by first | omega | (dsimp only; omega)) (pc_tl (pc_pe n (pc_re (pc_o τ) k) (pc_s τ (pc_re (pc_o τ) k)) τ).2 6) (by omega) (pc_da_J hJ) (by rw [hv, show q - k = (q - (k + 1)) + 1 by omega]; exact if_pos c_19)
      · refine vv_iconst (q := 23) hC (nI 0) dX3_doAgain_22 (by decide) rfl ?_
        refine vv_zret (v := nI (0)) hC (by first | rfl | decide) dX3_doAgain_23 ?_
        rw [hp]
        rw [hv, show q - k = (q - (k + 1)) + 1 by omega]
        rw [show pc_da n (q - (k + 1) + 1) k τ = _ from if_neg c_19]
        exact ⟨congrArg (fun z => some (Value.int z)) (vv_B0 (fun h => by cases h)).symm, rfl⟩
  exact lp_2 0 σ (by omega) hJ0 rfl
set_option maxRecDepth 100000 in
set_option maxHeartbeats 4000000 in
theorem cm_X3_putOthersXor (l : Launch) (Y : vv_Y) (n : Nat) (hY : pc_sys Y n) (σ : vv_S) (m : Nat) (s : Nat) (hm : m < n) (hs : s < 24) : vv_M l Y yX3_putOthersXor wsX3_putOthersXor { frames := 3, cells := 0, slots := 0, locals := 73 } [.ref (Y.2.1 (0)), .int (nI (m)), .int (nI (s))] σ (vv_R (.int (vv_B (¬ σ 0 7 = 0))) (pc_pox σ n m s)) := by
  refine vv_M.of (cc := cX3_putOthersXor) (maxL := 3) (ret := (some .boolean)) hY.ok (by decide) rfl (Nat.le_of_ble_eq_true rfl) ?_
  intro Z hl hp hC
  subst hl
  have hi_X3 : ∀ w ∈ u_ws RX3 TX3 10, w ∈ wsX3_putOthersXor := by decide +kernel
  have hf_mixed : Cond.fieldLink RX3 13 "ParityRow" (TX3 5).2.1 (TX3 5).2.2.1 ∈ wsX3_putOthersXor := by decide +kernel
  have hlo := hY.lo
  have hhi := hY.hi
  refine vv_loc (L' := [(0, .ref (Y.2.1 (0))), (1, .int (nI (m))), (2, .int (nI (s)))]) rfl ?_
  refine vv_aload_n (q := 1) hC dX3_putOthersXor_0 (x := Y.2.1 (0)) rfl rfl ?_
  refine vv_callV (n := 0) (k := 0) (As := []) (st := []) (q := 4) hC (hY.k (by decide)) (hY.P _) (by rw [hY.cl]; rfl) (cm_X3_clearMixed _ Y n hY σ  ) gX3_putOthersXor_X3_clearMixed rfl (by decide +kernel) dX3_putOthersXor_1 rfl rfl rfl (vv_kRv ?_)
  refine vv_aload_n (q := 5) hC dX3_putOthersXor_4 (x := Y.2.1 (0)) rfl rfl ?_
  refine vv_iload_n (q := 6) hC dX3_putOthersXor_5 (x := nI (m)) rfl rfl ?_
  refine vv_iload_n (q := 7) hC dX3_putOthersXor_6 (x := nI (s)) rfl rfl ?_
  refine vv_callV (n := 2) (k := 0) (As := [.int (nI (m)), .int (nI (s))]) (st := []) (q := 10) hC (hY.k (by decide)) (hY.P _) (by rw [hY.cl]; rfl) (cm_X3_mixOthers _ Y n hY (pc_clr σ) (nI (m)) s (by omega)) gX3_putOthersXor_X3_mixOthers rfl (by decide +kernel) dX3_putOthersXor_7 rfl rfl rfl (vv_kRv ?_)
  refine vv_st (σ' := pc_xst σ n (nI m) s) (rfl) ?_
  refine vv_aload_n (q := 11) hC dX3_putOthersXor_10 (x := Y.2.1 (0)) rfl rfl ?_
  refine vv_iload_n (q := 12) hC dX3_putOthersXor_11 (x := nI (m)) rfl rfl ?_
  refine vv_iload_n (q := 13) hC dX3_putOthersXor_12 (x := nI (s)) rfl rfl ?_
  refine vv_aload_n (q := 14) hC dX3_putOthersXor_13 (x := Y.2.1 (0)) rfl rfl ?_
  refine pc_gP (q := 17) hY hC 5 hi_X3 hf_mixed (by decide) rfl (v := .ref (Y.2.1 (5))) rfl dX3_putOthersXor_14 rfl ?_
  refine vv_iconst (q := 18) hC (nI 0) dX3_putOthersXor_17 (by decide) rfl ?_
  refine vv_callV (n := 4) (k := 0) (As := [.int (nI (m)), .int (nI (s)), .ref (Y.2.1 (5)), .int (nI (0))]) (st := []) (q := 21) hC (hY.k (by decide)) (hY.P _) (by rw [hY.cl]; rfl) (cm_X3_putChunk _ Y n hY (pc_xst σ n (nI m) s) m s 5 0 (by omega) (by omega) pc_rw_mixed (by rw [pc_len_mixed]; omega) (Or.inl rfl)) gX3_putOthersXor_X3_putChunk rfl (by decide +kernel) dX3_putOthersXor_18 rfl rfl rfl (vv_kR ?_)
  refine vv_zret (v := vv_B (¬ (pc_xst σ n (nI m) s) 0 7 = 0)) hC vv_narB dX3_putOthersXor_21 ?_
  rw [hp]
  exact ⟨rfl, rfl⟩
set_option maxRecDepth 100000 in
set_option maxHeartbeats 4000000 in
theorem cm_X3_firstNotThere (l : Launch) (Y : vv_Y) (n : Nat) (hY : pc_sys Y n) (σ : vv_S) (s : Nat) (hs : s < 24) : vv_M l Y yX3_firstNotThere wsX3_firstNotThere { frames := 2, cells := 0, slots := 0, locals := 44 } [.ref (Y.2.1 (0)), .int (nI (s))] σ (vv_R (.int (nI (pc_fnt σ s (n - 1) 0))) σ) := by
  refine vv_M.of (cc := cX3_firstNotThere) (maxL := 3) (ret := (some .int)) hY.ok (by decide) rfl (Nat.le_of_ble_eq_true rfl) ?_
  intro Z hl hp hC
  subst hl
  have hi_X3 : ∀ w ∈ u_ws RX3 TX3 10, w ∈ wsX3_firstNotThere := by decide +kernel
  have hf_width : Cond.fieldLink RX3 36 "ParityRow" (TX3 0).2.1 (TX3 0).2.2.1 ∈ wsX3_firstNotThere := by decide +kernel
  have hf_disks : Cond.fieldLink RX3 44 "ParityRow" (TX3 2).2.1 (TX3 2).2.2.1 ∈ wsX3_firstNotThere := by decide +kernel
  have hlo := hY.lo
  have hhi := hY.hi
  refine vv_loc (L' := [(0, .ref (Y.2.1 (0))), (1, .int (nI (s)))]) rfl ?_
  refine vv_iconst (q := 1) hC (nI 0) dX3_firstNotThere_0 (by decide) rfl ?_
  refine vv_istore_n (L' := [(0, .ref (Y.2.1 (0))), (1, .int (nI (s))), (2, .int (nI (0)))]) (q := 2) hC dX3_firstNotThere_1 (by decide) rfl rfl rfl ?_
  have lp_2 : ∀ m : Nat, (m ≤ n - 1) → (pc_fnt σ s (n - 1) 0 = pc_fnt σ s (n - 1 - m) m) → vv_V Y 3 Z σ 2 [(0, .ref (Y.2.1 (0))), (1, .int (nI (s))), (2, .int (nI (m)))] [] := by
    refine vv_ind (fun m => n - m) (fun m ih_2 => ?_)
    intro hm hv
    refine vv_iload_n (q := 3) hC dX3_firstNotThere_2 (x := nI (m)) rfl rfl ?_
    refine vv_aload_n (q := 4) hC dX3_firstNotThere_3 (x := Y.2.1 (0)) rfl rfl ?_
    refine pc_gP (q := 7) hY hC 0 hi_X3 hf_width (by decide) rfl (v := .int (nI (n))) rfl dX3_firstNotThere_4 rfl ?_
    refine vv_iconst (q := 8) hC (nI 1) dX3_firstNotThere_7 (by decide) rfl ?_
    refine vv_subN (x := n) (y := 1) (q := 9) hC dX3_firstNotThere_8 (by omega) rfl ?_
    refine vv_icmpN_ge (x := m) (y := n - 1) (q := 12) (tgt := 31) hC dX3_firstNotThere_9 (by decide) (by omega) (by omega) rfl (fun c_9 => ?_) (fun c_9 => ?_)
    · refine vv_iload_n (q := 32) hC dX3_firstNotThere_31 (x := nI (m)) rfl rfl ?_
      refine vv_iret (v := nI (m)) hC dX3_firstNotThere_32 ?_
      rw [hp]
      rw [hv, show n - 1 - m = 0 by omega]
      exact ⟨rfl, rfl⟩
    · refine vv_aload_n (q := 13) hC dX3_firstNotThere_12 (x := Y.2.1 (0)) rfl rfl ?_
      refine pc_gP (q := 16) hY hC 2 hi_X3 hf_disks (by decide) rfl (v := .ref (Y.2.1 (1))) rfl dX3_firstNotThere_13 rfl ?_
      refine vv_iload_n (q := 17) hC dX3_firstNotThere_16 (x := nI (m)) rfl rfl ?_
      refine pc_ld_disks (q := 18) (m := m) hY hC (by omega) dX3_firstNotThere_17 rfl ?_
      refine vv_iload_n (q := 19) hC dX3_firstNotThere_18 (x := nI (s)) rfl rfl ?_
      refine vv_callVN (n := 1) (k := pc_d m) (As := [.int (nI (s))]) (st := []) (q := 22) hC (hY.kd (j := 0) (by omega) (by decide)) (hY.D _) (by rw [hY.cl]; rfl) (cm_X0_isThere _ Y n hY σ m s (by omega) (by omega)) gX3_firstNotThere_X0_isThere_n160 rfl (hY.nw nw_X3_160) (by decide +kernel) (by decide +kernel) (by decide +kernel) (by decide +kernel) dX3_firstNotThere_19 rfl rfl rfl (vv_kR ?_)
      refine vv_ifB_eq (b := pc_there σ m s) (q := 25) (tgt := 31) hC dX3_firstNotThere_22 (by decide) rfl (fun c_22 => ?_) (fun c_22 => ?_)
      · refine vv_iload_n (q := 32) hC dX3_firstNotThere_31 (x := nI (m)) rfl rfl ?_
        refine vv_iret (v := nI (m)) hC dX3_firstNotThere_32 ?_
        rw [hp]
        rw [hv, show n - 1 - m = (n - 1 - (m + 1)) + 1 by omega, show pc_fnt σ s (n - 1 - (m + 1) + 1) m = m from if_neg c_22]
        exact ⟨rfl, rfl⟩
      · refine vv_iincN (x := m) (L' := [(0, .ref (Y.2.1 (0))), (1, .int (nI (s))), (2, .int (nI (m + 1)))]) (q := 28) hC dX3_firstNotThere_25 rfl (by decide) rfl rfl rfl ?_
        refine vv_goto (tgt := 2) hC dX3_firstNotThere_28 (by decide) ?_
        exact ih_2 (m + 1) (by first | omega | (dsimp only; omega))  (by omega) (by rw [hv, show n - 1 - m = (n - 1 - (m + 1)) + 1 by omega]; exact if_pos c_22)
  exact lp_2 0 (by omega) rfl
