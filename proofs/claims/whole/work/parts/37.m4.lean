set_option maxRecDepth 100000 in
set_option maxHeartbeats 4000000 in
theorem cm_X4_done (l : Launch) (Y : vv_Y) (n : Nat) (hY : pm_sys Y n) (σ : vv_S) (k : Nat) (s : Nat) (t : Nat) (hk : k < 16) (hst : σ 7 k = nI s) (hs : s < 24) (ht : σ 0 20 = nI t) (ht8 : t ≤ 8) : vv_M l Y yX4_done wsX4_done { frames := 2, cells := 0, slots := 0, locals := 49 } [.ref (Y.2.1 (0)), .int (nI (k))] σ (vv_R (.int (vv_B ((pm_dn n k s t σ).1 = true))) ((pm_dn n k s t σ).2)) := by
  refine vv_M.of (cc := cX4_done) (maxL := 5) (ret := (some .boolean)) hY.ok (by decide) rfl (Nat.le_of_ble_eq_true rfl) ?_
  intro Z hl hp hC
  subst hl
  have hi_X4 : ∀ w ∈ u_ws RX4 TX4 25, w ∈ wsX4_done := by decide +kernel
  have hf_stripes : Cond.fieldLink RX4 33 "ParityRowModel" (TX4 9).2.1 (TX4 9).2.2.1 ∈ wsX4_done := by decide +kernel
  have hf_many : Cond.fieldLink RX4 69 "ParityRowModel" (TX4 1).2.1 (TX4 1).2.2.1 ∈ wsX4_done := by decide +kernel
  have hf_hasParity : Cond.fieldLink RX4 42 "ParityRowModel" (TX4 12).2.1 (TX4 12).2.2.1 ∈ wsX4_done := by decide +kernel
  have hf_bits : Cond.fieldLink RX4 39 "ParityRowModel" (TX4 11).2.1 (TX4 11).2.2.1 ∈ wsX4_done := by decide +kernel
  have hlo := hY.lo
  have hhi := hY.hi
  refine vv_loc (L' := [(0, .ref (Y.2.1 (0))), (1, .int (nI (k)))]) rfl ?_
  refine vv_aload_n (q := 1) hC dX4_done_0 (x := Y.2.1 (0)) rfl rfl ?_
  refine pm_gM (q := 4) hY hC 9 hi_X4 hf_stripes (by decide) rfl (v := .ref (Y.2.1 (7))) rfl dX4_done_1 rfl ?_
  refine vv_iload_n (q := 5) hC dX4_done_4 (x := nI (k)) rfl rfl ?_
  refine pm_ld_stripes (q := 6) hY hC (i := k) (by omega) dX4_done_5 rfl ?_
  refine vv_top (y := nI (s)) (hst) ?_
  refine vv_istore_n (L' := [(0, .ref (Y.2.1 (0))), (1, .int (nI (k))), (2, .int (nI (s)))]) (q := 7) hC dX4_done_6 (by decide) rfl rfl rfl ?_
  refine vv_iconst (q := 8) hC (nI 0) dX4_done_7 (by decide) rfl ?_
  refine vv_istore_n (L' := [(0, .ref (Y.2.1 (0))), (1, .int (nI (k))), (2, .int (nI (s))), (3, .int (nI (0)))]) (q := 9) hC dX4_done_8 (by decide) rfl rfl rfl ?_
  have lp_9 : ∀ d : Nat, ∀ τ : vv_S, (d ≤ n - 1) → (τ 0 20 = nI t) → (pm_dnr n k s t (n - 1) 0 σ = pm_dnr n k s t (n - 1 - d) d τ) → vv_V Y 5 Z τ 9 [(0, .ref (Y.2.1 (0))), (1, .int (nI (k))), (2, .int (nI (s))), (3, .int (nI (d)))] [] := by
    refine vv_ind (fun d => n - d) (fun d ih_9 => ?_)
    intro τ hd htt hv
    refine vv_iload_n (q := 10) hC dX4_done_9 (x := nI (d)) rfl rfl ?_
    refine vv_aload_n (q := 11) hC dX4_done_10 (x := Y.2.1 (0)) rfl rfl ?_
    refine pm_gM (q := 14) hY hC 1 hi_X4 hf_many (by decide) rfl (v := .int (nI (n))) rfl dX4_done_11 rfl ?_
    refine vv_iconst (q := 15) hC (nI 1) dX4_done_14 (by decide) rfl ?_
    refine vv_subN (x := n) (y := 1) (q := 16) hC dX4_done_15 (by omega) rfl ?_
    refine vv_icmpN_ge (x := d) (y := n - 1) (q := 19) (tgt := 75) hC dX4_done_16 (by decide) (by omega) (by omega) rfl (fun c_16 => ?_) (fun c_16 => ?_)
    · refine vv_aload_n (q := 76) hC dX4_done_75 (x := Y.2.1 (0)) rfl rfl ?_
      refine pm_gM (q := 79) hY hC 12 hi_X4 hf_hasParity (by decide) rfl (v := .ref (Y.2.1 (10))) rfl dX4_done_76 rfl ?_
      refine vv_iload_n (q := 80) hC dX4_done_79 (x := nI (k)) rfl rfl ?_
      refine pm_ld_hasParity (q := 81) hY hC (i := k) (by omega) dX4_done_80 rfl ?_
      refine vv_if_eq (x := τ 10 k) (q := 84) (tgt := 114) hC dX4_done_81 (by decide) rfl (fun c_81 => ?_) (fun c_81 => ?_)
      · refine vv_iconst (q := 115) hC (nI 1) dX4_done_114 (by decide) rfl ?_
        refine vv_zret (v := nI (1)) hC (by first | rfl | decide) dX4_done_115 ?_
        rw [hp]
        have hd1 : pm_dnr n k s t (n - 1) 0 σ = (true, τ) := by rw [hv, show n - 1 - d = 0 by omega]; rfl
        unfold pm_dn
        rw [hd1, if_pos rfl]
        unfold pm_dp
        rw [if_neg (fun z => z.1 c_81)]
        exact ⟨congrArg (fun z => some (Value.int z)) (vv_B1 rfl).symm, rfl⟩
      · refine vv_aload_n (q := 85) hC dX4_done_84 (x := Y.2.1 (0)) rfl rfl ?_
        refine vv_aload_n (q := 86) hC dX4_done_85 (x := Y.2.1 (0)) rfl rfl ?_
        refine vv_iload_n (q := 87) hC dX4_done_86 (x := nI (s)) rfl rfl ?_
        refine vv_callV (n := 1) (k := 0) (As := [.int (nI (s))]) (st := [.ref (Y.2.1 (0))]) (q := 90) hC (hY.k (by decide)) (hY.M _) (by rw [hY.cl]; rfl) (cm_X4_parityOf _ Y n hY τ s (by omega)) gX4_done_X4_parityOf rfl (by decide +kernel) dX4_done_87 rfl rfl rfl (vv_kR ?_)
        refine vv_iload_n (q := 91) hC dX4_done_90 (x := nI (s)) rfl rfl ?_
        refine vv_callV (n := 2) (k := 0) (As := [.int (nI (pc_pm n s)), .int (nI (s))]) (st := []) (q := 94) hC (hY.k (by decide)) (hY.M _) (by rw [hY.cl]; rfl) (cm_X4_isOn _ Y n hY τ (pc_pm n s) s (pc_pm_lt hlo) (by omega)) gX4_done_X4_isOn rfl (by decide +kernel) dX4_done_91 rfl rfl rfl (vv_kR ?_)
        refine vv_ifB_eq (b := pm_on τ (pc_pm n s) s) (q := 97) (tgt := 114) hC dX4_done_94 (by decide) rfl (fun c_94 => ?_) (fun c_94 => ?_)
        · refine vv_iconst (q := 115) hC (nI 1) dX4_done_114 (by decide) rfl ?_
          refine vv_zret (v := nI (1)) hC (by first | rfl | decide) dX4_done_115 ?_
          rw [hp]
          have hd1 : pm_dnr n k s t (n - 1) 0 σ = (true, τ) := by rw [hv, show n - 1 - d = 0 by omega]; rfl
          unfold pm_dn
          rw [hd1, if_pos rfl]
          unfold pm_dp
          rw [if_neg (fun z => c_94 z.2)]
          exact ⟨congrArg (fun z => some (Value.int z)) (vv_B1 rfl).symm, rfl⟩
        · refine vv_aload_n (q := 98) hC dX4_done_97 (x := Y.2.1 (0)) rfl rfl ?_
          refine vv_iload_n (q := 99) hC dX4_done_98 (x := nI (k)) rfl rfl ?_
          refine vv_iconst (q := 100) hC (nI 5) dX4_done_99 (by decide) rfl ?_
          refine vv_callV (n := 2) (k := 0) (As := [.int (nI (k)), .int (nI (5))]) (st := []) (q := 103) hC (hY.k (by decide)) (hY.M _) (by rw [hY.cl]; rfl) (cm_X4_freshFrom _ Y n hY τ k 5 (by omega) (by omega)) gX4_done_X4_freshFrom rfl (by decide +kernel) dX4_done_100 rfl rfl rfl (vv_kRv ?_)
          refine vv_aload_n (q := 104) hC dX4_done_103 (x := Y.2.1 (0)) rfl rfl ?_
          refine vv_aload_n (q := 105) hC dX4_done_104 (x := Y.2.1 (0)) rfl rfl ?_
          refine vv_iload_n (q := 106) hC dX4_done_105 (x := nI (s)) rfl rfl ?_
          refine vv_callV (n := 1) (k := 0) (As := [.int (nI (s))]) (st := [.ref (Y.2.1 (0))]) (q := 109) hC (hY.k (by decide)) (hY.M _) (by rw [hY.cl]; rfl) (cm_X4_parityOf _ Y n hY (pm_ff τ k 5) s (by omega)) gX4_done_X4_parityOf rfl (by decide +kernel) dX4_done_106 rfl rfl rfl (vv_kR ?_)
          refine vv_iload_n (q := 110) hC dX4_done_109 (x := nI (s)) rfl rfl ?_
          refine vv_callV (n := 2) (k := 0) (As := [.int (nI (pc_pm n s)), .int (nI (s))]) (st := []) (q := 113) hC (hY.k (by decide)) (hY.M _) (by rw [hY.cl]; rfl) (cm_X4_chunkIs _ Y n hY ((pm_ff τ k 5)) (pc_pm n s) s t (pc_pm_lt hlo) (by omega) (by rw [pm_ff_o (by decide)]; exact htt) ht8) gX4_done_X4_chunkIs rfl (by decide +kernel) dX4_done_110 rfl rfl rfl (vv_kR ?_)
          refine vv_zret (v := vv_B (¬ ((pm_ff τ k 5)) 0 19 = 0)) hC vv_narB dX4_done_113 ?_
          rw [hp]
          have hd1 : pm_dnr n k s t (n - 1) 0 σ = (true, τ) := by rw [hv, show n - 1 - d = 0 by omega]; rfl
          unfold pm_dn
          rw [hd1, if_pos rfl]
          unfold pm_dp
          rw [if_pos ⟨c_81, c_94⟩]
          by_cases hcz : τ 0 19 = 0
          · rw [if_pos hcz]
            exact ⟨congrArg (fun z => some (Value.int z)) ((vv_B0 (fun h => h hcz)).trans (vv_B0 (fun h => by cases h)).symm), rfl⟩
          · rw [if_neg hcz]
            exact ⟨congrArg (fun z => some (Value.int z)) ((vv_B1 hcz).trans (vv_B1 rfl).symm), rfl⟩
    · refine vv_aload_n (q := 20) hC dX4_done_19 (x := Y.2.1 (0)) rfl rfl ?_
      refine vv_iload_n (q := 21) hC dX4_done_20 (x := nI (s)) rfl rfl ?_
      refine vv_iload_n (q := 22) hC dX4_done_21 (x := nI (d)) rfl rfl ?_
      refine vv_callV (n := 2) (k := 0) (As := [.int (nI (s)), .int (nI (d))]) (st := []) (q := 25) hC (hY.k (by decide)) (hY.M _) (by rw [hY.cl]; rfl) (cm_X4_memberOf _ Y n hY τ s d (by omega) (by omega)) gX4_done_X4_memberOf rfl (by decide +kernel) dX4_done_22 rfl rfl rfl (vv_kR ?_)
      refine vv_istore (L' := [(0, .ref (Y.2.1 (0))), (1, .int (nI (k))), (2, .int (nI (s))), (3, .int (nI (d))), (4, .int (nI (pc_mo n s d)))]) (q := 27) hC dX4_done_25 (by decide) rfl rfl rfl ?_
      refine vv_aload_n (q := 28) hC dX4_done_27 (x := Y.2.1 (0)) rfl rfl ?_
      refine pm_gM (q := 31) hY hC 11 hi_X4 hf_bits (by decide) rfl (v := .ref (Y.2.1 (9))) rfl dX4_done_28 rfl ?_
      refine vv_iload_n (q := 32) hC dX4_done_31 (x := nI (k)) rfl rfl ?_
      refine pm_ld_bits (q := 33) hY hC (i := k) (by omega) dX4_done_32 rfl ?_
      refine vv_iload_n (q := 34) hC dX4_done_33 (x := nI (d)) rfl rfl ?_
      refine vv_ishr (x := τ 9 k) (y := nI (d)) (q := 35) hC dX4_done_34 rfl ?_
      refine vv_iconst (q := 36) hC (nI 1) dX4_done_35 (by decide) rfl ?_
      refine vv_iand (x := (τ 9 k) >>> ((nI (d)) &&& 31)) (y := nI (1)) (q := 37) hC dX4_done_36 rfl ?_
      refine vv_iconst (q := 38) hC (nI 1) dX4_done_37 (by decide) rfl ?_
      refine vv_icmp_ne (x := ((τ 9 k) >>> ((nI (d)) &&& 31)) &&& (nI (1))) (y := nI (1)) (q := 41) (tgt := 69) hC dX4_done_38 (by decide) rfl (fun c_38 => ?_) (fun c_38 => ?_)
      · refine vv_iincN (x := d) (L' := [(0, .ref (Y.2.1 (0))), (1, .int (nI (k))), (2, .int (nI (s))), (3, .int (nI (d + 1))), (4, .int (nI (pc_mo n s d)))]) (q := 72) hC dX4_done_69 rfl (by decide) rfl rfl rfl ?_
        refine vv_goto (tgt := 9) hC dX4_done_72 (by decide) ?_
        refine vv_sub (L' := [(0, .ref (Y.2.1 (0))), (1, .int (nI (k))), (2, .int (nI (s))), (3, .int (nI (d + 1)))]) (by simp) ?_
        exact ih_9 (d + 1) (by first | omega | (dsimp only; omega)) τ (by omega) htt (by rw [hv, show n - 1 - d = (n - 1 - (d + 1)) + 1 by omega]; exact if_neg (fun z => c_38 z.1))
      · refine vv_aload_n (q := 42) hC dX4_done_41 (x := Y.2.1 (0)) rfl rfl ?_
        refine vv_iload (q := 44) hC dX4_done_42 (x := nI (pc_mo n s d)) rfl rfl ?_
        refine vv_iload_n (q := 45) hC dX4_done_44 (x := nI (s)) rfl rfl ?_
        refine vv_callV (n := 2) (k := 0) (As := [.int (nI (pc_mo n s d)), .int (nI (s))]) (st := []) (q := 48) hC (hY.k (by decide)) (hY.M _) (by rw [hY.cl]; rfl) (cm_X4_isOn _ Y n hY τ (pc_mo n s d) s (pc_mo_lt hlo) (by omega)) gX4_done_X4_isOn rfl (by decide +kernel) dX4_done_45 rfl rfl rfl (vv_kR ?_)
        refine vv_ifB_eq (b := pm_on τ (pc_mo n s d) s) (q := 51) (tgt := 69) hC dX4_done_48 (by decide) rfl (fun c_48 => ?_) (fun c_48 => ?_)
        · refine vv_iincN (x := d) (L' := [(0, .ref (Y.2.1 (0))), (1, .int (nI (k))), (2, .int (nI (s))), (3, .int (nI (d + 1))), (4, .int (nI (pc_mo n s d)))]) (q := 72) hC dX4_done_69 rfl (by decide) rfl rfl rfl ?_
          refine vv_goto (tgt := 9) hC dX4_done_72 (by decide) ?_
          refine vv_sub (L' := [(0, .ref (Y.2.1 (0))), (1, .int (nI (k))), (2, .int (nI (s))), (3, .int (nI (d + 1)))]) (by simp) ?_
          exact ih_9 (d + 1) (by first | omega | (dsimp only; omega)) τ (by omega) htt (by rw [hv, show n - 1 - d = (n - 1 - (d + 1)) + 1 by omega]; exact if_neg (fun z => c_48 z.2))
        · refine vv_aload_n (q := 52) hC dX4_done_51 (x := Y.2.1 (0)) rfl rfl ?_
          refine vv_iload_n (q := 53) hC dX4_done_52 (x := nI (k)) rfl rfl ?_
          refine vv_iload_n (q := 54) hC dX4_done_53 (x := nI (d)) rfl rfl ?_
          refine vv_callV (n := 2) (k := 0) (As := [.int (nI (k)), .int (nI (d))]) (st := []) (q := 57) hC (hY.k (by decide)) (hY.M _) (by rw [hY.cl]; rfl) (cm_X4_freshFrom _ Y n hY τ k d (by omega) (by omega)) gX4_done_X4_freshFrom rfl (by decide +kernel) dX4_done_54 rfl rfl rfl (vv_kRv ?_)
          refine vv_aload_n (q := 58) hC dX4_done_57 (x := Y.2.1 (0)) rfl rfl ?_
          refine vv_iload (q := 60) hC dX4_done_58 (x := nI (pc_mo n s d)) rfl rfl ?_
          refine vv_iload_n (q := 61) hC dX4_done_60 (x := nI (s)) rfl rfl ?_
          refine vv_callV (n := 2) (k := 0) (As := [.int (nI (pc_mo n s d)), .int (nI (s))]) (st := []) (q := 64) hC (hY.k (by decide)) (hY.M _) (by rw [hY.cl]; rfl) (cm_X4_chunkIs _ Y n hY (pm_ff τ k d) (pc_mo n s d) s t (pc_mo_lt hlo) (by omega) (by rw [pm_ff_o (by decide)]; exact htt) ht8) gX4_done_X4_chunkIs rfl (by decide +kernel) dX4_done_61 rfl rfl rfl (vv_kR ?_)
          refine vv_ifB_ne (b := ¬ (pm_ff τ k d) 0 19 = 0) (q := 67) (tgt := 69) hC dX4_done_64 (by decide) rfl (fun c_64 => ?_) (fun c_64 => ?_)
          · refine vv_iincN (x := d) (L' := [(0, .ref (Y.2.1 (0))), (1, .int (nI (k))), (2, .int (nI (s))), (3, .int (nI (d + 1))), (4, .int (nI (pc_mo n s d)))]) (q := 72) hC dX4_done_69 rfl (by decide) rfl rfl rfl ?_
            refine vv_goto (tgt := 9) hC dX4_done_72 (by decide) ?_
            refine vv_sub (L' := [(0, .ref (Y.2.1 (0))), (1, .int (nI (k))), (2, .int (nI (s))), (3, .int (nI (d + 1)))]) (by simp) ?_
            exact ih_9 (d + 1) (by first | omega | (dsimp only; omega)) (pm_ch (pm_ff τ k d) n (pc_mo n s d) s t) (by omega) (by rw [pm_ch_f (by decide) (by decide) (by decide), pm_ff_o (by decide)]; exact htt) (by rw [hv, show n - 1 - d = (n - 1 - (d + 1)) + 1 by omega]; exact (if_pos ⟨c_38, c_48⟩).trans (if_neg (show ¬ τ 0 19 = 0 from c_64)))
          · refine vv_iconst (q := 68) hC (nI 0) dX4_done_67 (by decide) rfl ?_
            refine vv_zret (v := nI (0)) hC (by first | rfl | decide) dX4_done_68 ?_
            rw [hp]
            have hd1 : pm_dnr n k s t (n - 1) 0 σ = (false, pm_ch (pm_ff τ k d) n (pc_mo n s d) s t) := by rw [hv, show n - 1 - d = (n - 1 - (d + 1)) + 1 by omega]; exact (if_pos ⟨c_38, c_48⟩).trans (if_pos (show τ 0 19 = 0 from Decidable.of_not_not c_64))
            unfold pm_dn
            rw [hd1, if_neg (fun z => by cases z)]
            exact ⟨congrArg (fun z => some (Value.int z)) (vv_B0 (fun h => by cases h)).symm, rfl⟩
  exact lp_9 0 σ (by omega) ht rfl
set_option maxRecDepth 100000 in
set_option maxHeartbeats 4000000 in
theorem cm_X4_drained (l : Launch) (Y : vv_Y) (n : Nat) (hY : pm_sys Y n) (σ : vv_S) (hJ : pm_J σ) (hr0 : 0 < pm_r σ) : vv_M l Y yX4_drained wsX4_drained { frames := 3, cells := 0, slots := 0, locals := 73 } [.ref (Y.2.1 (0))] σ (vv_R (.int (vv_B ((pm_dr1 n σ).1 = true))) ((pm_dr1 n σ).2)) := by
  refine vv_M.of (cc := cX4_drained) (maxL := 4) (ret := (some .boolean)) hY.ok (by decide) rfl (Nat.le_of_ble_eq_true rfl) ?_
  intro Z hl hp hC
  subst hl
  have hi_X4 : ∀ w ∈ u_ws RX4 TX4 25, w ∈ wsX4_drained := by decide +kernel
  have hf_markCell : Cond.fieldLink RX4 117 "ParityRowModel" (TX4 15).2.1 (TX4 15).2.2.1 ∈ wsX4_drained := by decide +kernel
  have hf_serials : Cond.fieldLink RX4 36 "ParityRowModel" (TX4 10).2.1 (TX4 10).2.2.1 ∈ wsX4_drained := by decide +kernel
  have hf_counts : Cond.fieldLink RX4 60 "ParityRowModel" (TX4 22).2.1 (TX4 22).2.2.1 ∈ wsX4_drained := by decide +kernel
  have hf_records : Cond.fieldLink RX4 120 "ParityRowModel" (TX4 8).2.1 (TX4 8).2.2.1 ∈ wsX4_drained := by decide +kernel
  have hf_stripes : Cond.fieldLink RX4 33 "ParityRowModel" (TX4 9).2.1 (TX4 9).2.2.1 ∈ wsX4_drained := by decide +kernel
  have hf_bits : Cond.fieldLink RX4 39 "ParityRowModel" (TX4 11).2.1 (TX4 11).2.2.1 ∈ wsX4_drained := by decide +kernel
  have hf_hasParity : Cond.fieldLink RX4 42 "ParityRowModel" (TX4 12).2.1 (TX4 12).2.2.1 ∈ wsX4_drained := by decide +kernel
  have hf_ways : Cond.fieldLink RX4 45 "ParityRowModel" (TX4 13).2.1 (TX4 13).2.2.1 ∈ wsX4_drained := by decide +kernel
  have hf_kept : Cond.fieldLink RX4 48 "ParityRowModel" (TX4 14).2.1 (TX4 14).2.2.1 ∈ wsX4_drained := by decide +kernel
  have hlo := hY.lo
  have hhi := hY.hi
  have hr10 := hJ.1.2
  have h10 : ∀ k, k < 16 → vp_nar .boolean ((pm_tl (pm_dm n σ) 5) 10 k) = (pm_tl (pm_dm n σ) 5) 10 k := fun k hk => by rw [pm_tl_o (by decide), pm_dm_o (by decide) (by decide) (by decide) (by decide) (by decide) (by decide) (by decide) (by decide)]; exact hJ.2.2.1 k hk
  refine vv_loc (L' := [(0, .ref (Y.2.1 (0)))]) rfl ?_
  refine vv_aload_n (q := 1) hC dX4_drained_0 (x := Y.2.1 (0)) rfl rfl ?_
  refine pm_gM (q := 4) hY hC 15 hi_X4 hf_markCell (by decide) rfl (v := .int (σ 0 15)) rfl dX4_drained_1 rfl ?_
  refine vv_aload_n (q := 5) hC dX4_drained_4 (x := Y.2.1 (0)) rfl rfl ?_
  refine vv_iconst (q := 6) hC (nI 0) dX4_drained_5 (by decide) rfl ?_
  refine vv_callV (n := 1) (k := 0) (As := [.int (nI (0))]) (st := [.int (σ 0 15)]) (q := 9) hC (hY.k (by decide)) (hY.M _) (by rw [hY.cl]; rfl) (cm_X4_cellsOf _ Y n hY σ 0 (by omega)) gX4_drained_X4_cellsOf rfl (by decide +kernel) dX4_drained_6 rfl rfl rfl (vv_kR ?_)
  refine vv_iadd (x := σ 0 15) (y := nI (pm_cells σ n 0)) (q := 10) hC dX4_drained_9 rfl ?_
  refine vv_bipush (q := 12) hC (nI 32) dX4_drained_10 (by decide) rfl ?_
  refine vv_irem (x := (σ 0 15) + (nI (pm_cells σ n 0))) (y := nI (32)) (q := 13) hC dX4_drained_12 (by decide) rfl ?_
  refine vv_istore_n (L' := [(0, .ref (Y.2.1 (0))), (1, .int (((σ 0 15) + (nI (pm_cells σ n 0))) - ((σ 0 15) + (nI (pm_cells σ n 0))) / (nI (32)) * (nI (32))))]) (q := 14) hC dX4_drained_13 (by decide) rfl rfl rfl ?_
  refine vv_aload_n (q := 15) hC dX4_drained_14 (x := Y.2.1 (0)) rfl rfl ?_
  refine vv_iconst (q := 16) hC (nI 0) dX4_drained_15 (by decide) rfl ?_
  refine vv_callV (n := 1) (k := 0) (As := [.int (nI (0))]) (st := []) (q := 19) hC (hY.k (by decide)) (hY.M _) (by rw [hY.cl]; rfl) (cm_X4_done _ Y n hY σ 0 (pm_s σ 0) (pm_t σ) (by omega) (hJ.2.2.2 0 hr0).1 (hJ.2.2.2 0 hr0).2 hJ.2.1.1 hJ.2.1.2) gX4_drained_X4_done rfl (by decide +kernel) dX4_drained_16 rfl rfl rfl (vv_kR ?_)
  refine vv_ifB_eq (b := (pm_dn n 0 (pm_s σ 0) (pm_t σ) σ).1 = true) (q := 22) (tgt := 38) hC dX4_drained_19 (by decide) rfl (fun c_19 => ?_) (fun c_19 => ?_)
  · refine vv_iconst (q := 39) hC (nI 0) dX4_drained_38 (by decide) rfl ?_
    refine vv_zret (v := nI (0)) hC (by first | rfl | decide) dX4_drained_39 ?_
    rw [hp]
    unfold pm_dr1
    rw [if_neg (show ¬ (pm_dd n σ).1 = true from c_19)]
    exact ⟨congrArg (fun z => some (Value.int z)) (vv_B0 (fun h => by cases h)).symm, rfl⟩
  · refine vv_st (σ' := (pm_dd n σ).2) (rfl) ?_
    refine vv_aload_n (q := 23) hC dX4_drained_22 (x := Y.2.1 (0)) rfl rfl ?_
    refine vv_iload_n (q := 24) hC dX4_drained_23 (x := ((σ 0 15) + (nI (pm_cells σ n 0))) - ((σ 0 15) + (nI (pm_cells σ n 0))) / (nI (32)) * (nI (32))) rfl rfl ?_
    refine vv_aload_n (q := 25) hC dX4_drained_24 (x := Y.2.1 (0)) rfl rfl ?_
    refine pm_gM (q := 28) hY hC 10 hi_X4 hf_serials (by decide) rfl (v := .ref (Y.2.1 (8))) rfl dX4_drained_25 rfl ?_
    refine vv_iconst (q := 29) hC (nI 0) dX4_drained_28 (by decide) rfl ?_
    refine pm_ld_serials (q := 30) hY hC (i := 0) (by omega) dX4_drained_29 rfl ?_
    refine vv_iconst (q := 31) hC (nI 1) dX4_drained_30 (by decide) rfl ?_
    refine vv_iadd (x := ((pm_dd n σ).2) 8 0) (y := nI (1)) (q := 32) hC dX4_drained_31 rfl ?_
    refine vv_callV (n := 2) (k := 0) (As := [.int (((σ 0 15) + (nI (pm_cells σ n 0))) - ((σ 0 15) + (nI (pm_cells σ n 0))) / (nI (32)) * (nI (32))), .int ((((pm_dd n σ).2) 8 0) + (nI (1)))]) (st := []) (q := 35) hC (hY.k (by decide)) (hY.M _) (by rw [hY.cl]; rfl) (cm_X4_markIs _ Y n hY ((pm_dd n σ).2) (((σ 0 15) + (nI (pm_cells σ n 0))) - ((σ 0 15) + (nI (pm_cells σ n 0))) / (nI (32)) * (nI (32))) ((((pm_dd n σ).2) 8 0) + (nI (1))) ) gX4_drained_X4_markIs rfl (by decide +kernel) dX4_drained_32 rfl rfl rfl (vv_kR ?_)
    refine vv_ifB_ne (b := ¬ ((pm_dd n σ).2) 0 19 = 0) (q := 38) (tgt := 40) hC dX4_drained_35 (by decide) rfl (fun c_35 => ?_) (fun c_35 => ?_)
    · refine vv_st (σ' := pm_dm n σ) (rfl) ?_
      refine vv_aload_n (q := 41) hC dX4_drained_40 (x := Y.2.1 (0)) rfl rfl ?_
      refine pm_gM (q := 44) hY hC 22 hi_X4 hf_counts (by decide) rfl (v := .ref (Y.2.1 (13))) rfl dX4_drained_41 rfl ?_
      refine vv_iconst (q := 45) hC (nI 5) dX4_drained_44 (by decide) rfl ?_
      refine vv_dup2 (q := 46) hC dX4_drained_45 rfl rfl rfl ?_
      refine pm_ld_counts (q := 47) hY hC (i := 5) (by omega) dX4_drained_46 rfl ?_
      refine vv_iconst (q := 48) hC (nI 1) dX4_drained_47 (by decide) rfl ?_
      refine vv_iadd (x := (pm_dm n σ) 13 5) (y := nI (1)) (q := 49) hC dX4_drained_48 rfl ?_
      refine pm_st_counts (q := 50) hY hC (i := 5) (x := ((pm_dm n σ) 13 5) + (nI (1))) (by omega) dX4_drained_49 rfl ?_
      refine vv_st (σ' := (pm_tl (pm_dm n σ) 5)) (rfl) ?_
      refine vv_iconst (q := 51) hC (nI 1) dX4_drained_50 (by decide) rfl ?_
      refine vv_istore_n (L' := [(0, .ref (Y.2.1 (0))), (1, .int (((σ 0 15) + (nI (pm_cells σ n 0))) - ((σ 0 15) + (nI (pm_cells σ n 0))) / (nI (32)) * (nI (32)))), (2, .int (nI (1)))]) (q := 52) hC dX4_drained_51 (by decide) rfl rfl rfl ?_
      have lp_52 : ∀ i : Nat, (i + 1 ≤ pm_r σ) → vv_V Y 4 Z (pm_shi (pm_tl (pm_dm n σ) 5) i (48 * i)) 52 [(0, .ref (Y.2.1 (0))), (2, .int (nI (i + 1)))] [] := by
        refine vv_ind (fun i => pm_r σ - i) (fun i ih_52 => ?_)
        intro hi
        refine vv_iload_n (q := 53) hC dX4_drained_52 (x := nI (i + 1)) rfl rfl ?_
        refine vv_aload_n (q := 54) hC dX4_drained_53 (x := Y.2.1 (0)) rfl rfl ?_
        refine pm_gM (q := 57) hY hC 8 hi_X4 hf_records (by decide) rfl (v := .int ((pm_shi (pm_tl (pm_dm n σ) 5) i (48 * i)) 0 8)) rfl dX4_drained_54 rfl ?_
        refine vv_top (y := nI (pm_r σ)) (by show pm_tl (pm_dm n σ) 5 0 8 = _; rw [pm_tl_o (by decide), pm_dm_f (by decide) (by decide) (by decide) (by decide) (by decide)]; exact hJ.1.1) ?_
        refine vv_icmpN_ge (x := i + 1) (y := pm_r σ) (q := 60) (tgt := 174) hC dX4_drained_57 (by decide) (by omega) (by omega) rfl (fun c_57 => ?_) (fun c_57 => ?_)
        · refine vv_st (σ' := pm_shi (pm_tl (pm_dm n σ) 5) (pm_r σ - 1) (48 * (pm_r σ - 1))) (by rw [show i = pm_r σ - 1 by omega]) ?_
          refine vv_aload_n (q := 175) hC dX4_drained_174 (x := Y.2.1 (0)) rfl rfl ?_
          refine vv_dup (q := 176) hC dX4_drained_175 rfl rfl ?_
          refine pm_gM (q := 179) hY hC 8 hi_X4 hf_records (by decide) rfl (v := .int ((pm_shi (pm_tl (pm_dm n σ) 5) (pm_r σ - 1) (48 * (pm_r σ - 1))) 0 8)) rfl dX4_drained_176 rfl ?_
          refine vv_top (y := nI (pm_r σ)) (by show pm_tl (pm_dm n σ) 5 0 8 = _; rw [pm_tl_o (by decide), pm_dm_f (by decide) (by decide) (by decide) (by decide) (by decide)]; exact hJ.1.1) ?_
          refine vv_iconst (q := 180) hC (nI 1) dX4_drained_179 (by decide) rfl ?_
          refine vv_subN (x := pm_r σ) (y := 1) (q := 181) hC dX4_drained_180 (by omega) rfl ?_
          refine pm_pM (q := 184) hY hC 8 hi_X4 hf_records (by decide) rfl rfl (x := nI ((pm_r σ) - 1)) (ty := .int) (by decide +kernel) rfl rfl (fun _ => rfl) dX4_drained_181 rfl ?_
          refine vv_iconst (q := 185) hC (nI 1) dX4_drained_184 (by decide) rfl ?_
          refine vv_zret (v := nI (1)) hC (by first | rfl | decide) dX4_drained_185 ?_
          rw [hp]
          unfold pm_dr1
          rw [if_pos (show (pm_dd n σ).1 = true from c_19), if_neg c_35]
          exact ⟨congrArg (fun z => some (Value.int z)) (vv_B1 rfl).symm, rfl⟩
        · refine vv_aload_n (q := 61) hC dX4_drained_60 (x := Y.2.1 (0)) rfl rfl ?_
          refine pm_gM (q := 64) hY hC 9 hi_X4 hf_stripes (by decide) rfl (v := .ref (Y.2.1 (7))) rfl dX4_drained_61 rfl ?_
          refine vv_iload_n (q := 65) hC dX4_drained_64 (x := nI (i + 1)) rfl rfl ?_
          refine vv_iconst (q := 66) hC (nI 1) dX4_drained_65 (by decide) rfl ?_
          refine vv_subN (x := i + 1) (y := 1) (q := 67) hC dX4_drained_66 (by omega) rfl ?_
          refine vv_aload_n (q := 68) hC dX4_drained_67 (x := Y.2.1 (0)) rfl rfl ?_
          refine pm_gM (q := 71) hY hC 9 hi_X4 hf_stripes (by decide) rfl (v := .ref (Y.2.1 (7))) rfl dX4_drained_68 rfl ?_
          refine vv_iload_n (q := 72) hC dX4_drained_71 (x := nI (i + 1)) rfl rfl ?_
          refine pm_ld_stripes (q := 73) hY hC (i := i + 1) (by omega) dX4_drained_72 rfl ?_
          refine vv_top (y := (pm_tl (pm_dm n σ) 5) 7 (i + 1)) (by show pm_sf ((pm_tl (pm_dm n σ) 5) 7) i (i + 1) = _; exact if_neg (by omega)) ?_
          refine pm_st_stripes (q := 74) hY hC (i := (i + 1) - 1) (x := (pm_tl (pm_dm n σ) 5) 7 (i + 1)) (by omega) dX4_drained_73 rfl ?_
          refine vv_aload_n (q := 75) hC dX4_drained_74 (x := Y.2.1 (0)) rfl rfl ?_
          refine pm_gM (q := 78) hY hC 10 hi_X4 hf_serials (by decide) rfl (v := .ref (Y.2.1 (8))) rfl dX4_drained_75 rfl ?_
          refine vv_iload_n (q := 79) hC dX4_drained_78 (x := nI (i + 1)) rfl rfl ?_
          refine vv_iconst (q := 80) hC (nI 1) dX4_drained_79 (by decide) rfl ?_
          refine vv_subN (x := i + 1) (y := 1) (q := 81) hC dX4_drained_80 (by omega) rfl ?_
          refine vv_aload_n (q := 82) hC dX4_drained_81 (x := Y.2.1 (0)) rfl rfl ?_
          refine pm_gM (q := 85) hY hC 10 hi_X4 hf_serials (by decide) rfl (v := .ref (Y.2.1 (8))) rfl dX4_drained_82 rfl ?_
          refine vv_iload_n (q := 86) hC dX4_drained_85 (x := nI (i + 1)) rfl rfl ?_
          refine pm_ld_serials (q := 87) hY hC (i := i + 1) (by omega) dX4_drained_86 rfl ?_
          refine vv_top (y := (pm_tl (pm_dm n σ) 5) 8 (i + 1)) (by show pm_sf ((pm_tl (pm_dm n σ) 5) 8) i (i + 1) = _; exact if_neg (by omega)) ?_
          refine pm_st_serials (q := 88) hY hC (i := (i + 1) - 1) (x := (pm_tl (pm_dm n σ) 5) 8 (i + 1)) (by omega) dX4_drained_87 rfl ?_
          refine vv_aload_n (q := 89) hC dX4_drained_88 (x := Y.2.1 (0)) rfl rfl ?_
          refine pm_gM (q := 92) hY hC 11 hi_X4 hf_bits (by decide) rfl (v := .ref (Y.2.1 (9))) rfl dX4_drained_89 rfl ?_
          refine vv_iload_n (q := 93) hC dX4_drained_92 (x := nI (i + 1)) rfl rfl ?_
          refine vv_iconst (q := 94) hC (nI 1) dX4_drained_93 (by decide) rfl ?_
          refine vv_subN (x := i + 1) (y := 1) (q := 95) hC dX4_drained_94 (by omega) rfl ?_
          refine vv_aload_n (q := 96) hC dX4_drained_95 (x := Y.2.1 (0)) rfl rfl ?_
          refine pm_gM (q := 99) hY hC 11 hi_X4 hf_bits (by decide) rfl (v := .ref (Y.2.1 (9))) rfl dX4_drained_96 rfl ?_
          refine vv_iload_n (q := 100) hC dX4_drained_99 (x := nI (i + 1)) rfl rfl ?_
          refine pm_ld_bits (q := 101) hY hC (i := i + 1) (by omega) dX4_drained_100 rfl ?_
          refine vv_top (y := (pm_tl (pm_dm n σ) 5) 9 (i + 1)) (by show pm_sf ((pm_tl (pm_dm n σ) 5) 9) i (i + 1) = _; exact if_neg (by omega)) ?_
          refine pm_st_bits (q := 102) hY hC (i := (i + 1) - 1) (x := (pm_tl (pm_dm n σ) 5) 9 (i + 1)) (by omega) dX4_drained_101 rfl ?_
          refine vv_aload_n (q := 103) hC dX4_drained_102 (x := Y.2.1 (0)) rfl rfl ?_
          refine pm_gM (q := 106) hY hC 12 hi_X4 hf_hasParity (by decide) rfl (v := .ref (Y.2.1 (10))) rfl dX4_drained_103 rfl ?_
          refine vv_iload_n (q := 107) hC dX4_drained_106 (x := nI (i + 1)) rfl rfl ?_
          refine vv_iconst (q := 108) hC (nI 1) dX4_drained_107 (by decide) rfl ?_
          refine vv_subN (x := i + 1) (y := 1) (q := 109) hC dX4_drained_108 (by omega) rfl ?_
          refine vv_aload_n (q := 110) hC dX4_drained_109 (x := Y.2.1 (0)) rfl rfl ?_
          refine pm_gM (q := 113) hY hC 12 hi_X4 hf_hasParity (by decide) rfl (v := .ref (Y.2.1 (10))) rfl dX4_drained_110 rfl ?_
          refine vv_iload_n (q := 114) hC dX4_drained_113 (x := nI (i + 1)) rfl rfl ?_
          refine pm_ld_hasParity (q := 115) hY hC (i := i + 1) (by omega) dX4_drained_114 rfl ?_
          refine vv_top (y := (pm_tl (pm_dm n σ) 5) 10 (i + 1)) (by show pm_sf ((pm_tl (pm_dm n σ) 5) 10) i (i + 1) = _; exact if_neg (by omega)) ?_
          refine pm_st_hasParity (q := 116) hY hC (i := (i + 1) - 1) (x := (pm_tl (pm_dm n σ) 5) 10 (i + 1)) (by omega) dX4_drained_115 rfl ?_
          refine vv_aload_n (q := 117) hC dX4_drained_116 (x := Y.2.1 (0)) rfl rfl ?_
          refine pm_gM (q := 120) hY hC 13 hi_X4 hf_ways (by decide) rfl (v := .ref (Y.2.1 (11))) rfl dX4_drained_117 rfl ?_
          refine vv_iload_n (q := 121) hC dX4_drained_120 (x := nI (i + 1)) rfl rfl ?_
          refine vv_iconst (q := 122) hC (nI 1) dX4_drained_121 (by decide) rfl ?_
          refine vv_subN (x := i + 1) (y := 1) (q := 123) hC dX4_drained_122 (by omega) rfl ?_
          refine vv_aload_n (q := 124) hC dX4_drained_123 (x := Y.2.1 (0)) rfl rfl ?_
          refine pm_gM (q := 127) hY hC 13 hi_X4 hf_ways (by decide) rfl (v := .ref (Y.2.1 (11))) rfl dX4_drained_124 rfl ?_
          refine vv_iload_n (q := 128) hC dX4_drained_127 (x := nI (i + 1)) rfl rfl ?_
          refine pm_ld_ways (q := 129) hY hC (i := i + 1) (by omega) dX4_drained_128 rfl ?_
          refine vv_top (y := (pm_tl (pm_dm n σ) 5) 11 (i + 1)) (by show pm_sf ((pm_tl (pm_dm n σ) 5) 11) i (i + 1) = _; exact if_neg (by omega)) ?_
          refine pm_st_ways (q := 130) hY hC (i := (i + 1) - 1) (x := (pm_tl (pm_dm n σ) 5) 11 (i + 1)) (by omega) dX4_drained_129 rfl ?_
          refine vv_st (σ' := pm_shi (pm_tl (pm_dm n σ) 5) (i + 1) (48 * i)) (by rw [h10 (i + 1) (by omega)]; exact pm_shi_st) ?_
          refine vv_iconst (q := 131) hC (nI 0) dX4_drained_130 (by decide) rfl ?_
          refine vv_istore_n (L' := [(0, .ref (Y.2.1 (0))), (2, .int (nI (i + 1))), (3, .int (nI (0)))]) (q := 132) hC dX4_drained_131 (by decide) rfl rfl rfl ?_
          have lp_132 : ∀ c : Nat, (c ≤ 48) → vv_V Y 4 Z (pm_shi (pm_tl (pm_dm n σ) 5) (i + 1) (48 * i + c)) 132 [(0, .ref (Y.2.1 (0))), (2, .int (nI (i + 1))), (3, .int (nI (c)))] [] := by
            refine vv_ind (fun c => 48 - c) (fun c ih_132 => ?_)
            intro hc
            refine vv_iload_n (q := 133) hC dX4_drained_132 (x := nI (c)) rfl rfl ?_
            refine vv_bipush (q := 135) hC (nI 48) dX4_drained_133 (by decide) rfl ?_
            refine vv_icmpN_ge (x := c) (y := 48) (q := 138) (tgt := 168) hC dX4_drained_135 (by decide) (by omega) (by omega) rfl (fun c_135 => ?_) (fun c_135 => ?_)
            · refine vv_st (σ' := pm_shi (pm_tl (pm_dm n σ) 5) (i + 1) (48 * (i + 1))) (by rw [show 48 * (i + 1) = 48 * i + c by omega]) ?_
              refine vv_iincN (x := i + 1) (L' := [(0, .ref (Y.2.1 (0))), (2, .int (nI ((i + 1) + 1))), (3, .int (nI (c)))]) (q := 171) hC dX4_drained_168 rfl (by decide) rfl rfl rfl ?_
              refine vv_goto (tgt := 52) hC dX4_drained_171 (by decide) ?_
              refine vv_sub (L' := [(0, .ref (Y.2.1 (0))), (2, .int (nI ((i + 1) + 1)))]) (by simp) ?_
              exact ih_52 (i + 1) (by first | omega | (dsimp only; omega))  (by omega)
            · refine vv_aload_n (q := 139) hC dX4_drained_138 (x := Y.2.1 (0)) rfl rfl ?_
              refine pm_gM (q := 142) hY hC 14 hi_X4 hf_kept (by decide) rfl (v := .ref (Y.2.1 (12))) rfl dX4_drained_139 rfl ?_
              refine vv_bipush (q := 144) hC (nI 48) dX4_drained_142 (by decide) rfl ?_
              refine vv_iload_n (q := 145) hC dX4_drained_144 (x := nI (i + 1)) rfl rfl ?_
              refine vv_iconst (q := 146) hC (nI 1) dX4_drained_145 (by decide) rfl ?_
              refine vv_subN (x := i + 1) (y := 1) (q := 147) hC dX4_drained_146 (by omega) rfl ?_
              refine vv_mulN (x := 48) (y := (i + 1) - 1) (q := 148) hC dX4_drained_147 rfl ?_
              refine vv_iload_n (q := 149) hC dX4_drained_148 (x := nI (c)) rfl rfl ?_
              refine vv_addN (x := 48 * ((i + 1) - 1)) (y := c) (q := 150) hC dX4_drained_149 rfl ?_
              refine vv_aload_n (q := 151) hC dX4_drained_150 (x := Y.2.1 (0)) rfl rfl ?_
              refine pm_gM (q := 154) hY hC 14 hi_X4 hf_kept (by decide) rfl (v := .ref (Y.2.1 (12))) rfl dX4_drained_151 rfl ?_
              refine vv_bipush (q := 156) hC (nI 48) dX4_drained_154 (by decide) rfl ?_
              refine vv_iload_n (q := 157) hC dX4_drained_156 (x := nI (i + 1)) rfl rfl ?_
              refine vv_mulN (x := 48) (y := i + 1) (q := 158) hC dX4_drained_157 rfl ?_
              refine vv_iload_n (q := 159) hC dX4_drained_158 (x := nI (c)) rfl rfl ?_
              refine vv_addN (x := 48 * (i + 1)) (y := c) (q := 160) hC dX4_drained_159 rfl ?_
              refine pm_ld_kept (q := 161) hY hC (i := (48 * (i + 1)) + c) (by omega) dX4_drained_160 rfl ?_
              refine vv_top (y := (pm_tl (pm_dm n σ) 5) 12 ((48 * i + c) + 48)) (by show pm_s48 ((pm_tl (pm_dm n σ) 5) 12) (48 * i + c) (48 * (i + 1) + c) = _; unfold pm_s48; rw [if_neg (by omega)]; congr 1; omega) ?_
              refine pm_st_kept (q := 162) hY hC (i := (48 * ((i + 1) - 1)) + c) (x := (pm_tl (pm_dm n σ) 5) 12 ((48 * i + c) + 48)) (by omega) dX4_drained_161 rfl ?_
              refine vv_iincN (x := c) (L' := [(0, .ref (Y.2.1 (0))), (2, .int (nI (i + 1))), (3, .int (nI (c + 1)))]) (q := 165) hC dX4_drained_162 rfl (by decide) rfl rfl rfl ?_
              refine vv_goto (tgt := 132) hC dX4_drained_165 (by decide) ?_
              refine vv_st (σ' := pm_shi (pm_tl (pm_dm n σ) 5) (i + 1) (48 * i + (c + 1))) (pm_shi_k) ?_
              exact ih_132 (c + 1) (by first | omega | (dsimp only; omega))  (by omega)
          exact lp_132 0 (by omega)
      refine vv_sub (L' := [(0, .ref (Y.2.1 (0))), (2, .int (nI (1)))]) (by simp) ?_
      refine vv_st (σ' := pm_shi (pm_tl (pm_dm n σ) 5) 0 (48 * 0)) (pm_shi_0.symm) ?_
      exact lp_52 0 (by omega)
    · refine vv_iconst (q := 39) hC (nI 0) dX4_drained_38 (by decide) rfl ?_
      refine vv_zret (v := nI (0)) hC (by first | rfl | decide) dX4_drained_39 ?_
      rw [hp]
      unfold pm_dr1
      rw [if_pos (show (pm_dd n σ).1 = true from c_19), if_pos (Decidable.of_not_not c_35)]
      exact ⟨congrArg (fun z => some (Value.int z)) (vv_B0 (fun h => by cases h)).symm, rfl⟩
