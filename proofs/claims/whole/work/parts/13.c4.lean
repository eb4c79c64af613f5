set_option maxRecDepth 100000 in
set_option maxHeartbeats 4000000 in
theorem cm_X0_take (l : Launch) (Y : vv_Y) (n : Nat) (hY : pc_sys Y n) (σ : vv_S) (m : Nat) (s : Nat) (k : Nat) (b : Nat) (t : Int32) (hm : m < n) (hs : s < 24) (hk : pc_rw n k) (hb : b + 8 ≤ pc_len n k) (hkm : k = 5 ∨ (6 ≤ k ∧ k < 28)) : vv_M l Y yX0_take wsX0_take { frames := 1, cells := 0, slots := 0, locals := 23 } [.ref (Y.2.1 (pc_d m)), .int (nI (s)), .ref (Y.2.1 (k)), .int (nI (b)), .int (t)] σ (vv_Rv (pc_tk σ m s k b t)) := by
  refine vv_M.of (cc := cX0_take) (maxL := 6) (ret := none) hY.ok (by decide) rfl (Nat.le_of_ble_eq_true rfl) ?_
  intro Z hl hp hC
  subst hl
  have hi_X0 : ∀ w ∈ u_ws RX0 TX0 6, w ∈ wsX0_take := by decide +kernel
  have hf_torn : Cond.fieldLink RX0 18 "ParityRow$Disk" (TX0 2).2.1 (TX0 2).2.2.1 ∈ wsX0_take := by decide +kernel
  have hf_written : Cond.fieldLink RX0 29 "ParityRow$Disk" (TX0 5).2.1 (TX0 5).2.2.1 ∈ wsX0_take := by decide +kernel
  have hf_sums : Cond.fieldLink RX0 15 "ParityRow$Disk" (TX0 1).2.1 (TX0 1).2.2.1 ∈ wsX0_take := by decide +kernel
  have hf_words : Cond.fieldLink RX0 9 "ParityRow$Disk" (TX0 0).2.1 (TX0 0).2.2.1 ∈ wsX0_take := by decide +kernel
  have hlo := hY.lo
  have hhi := hY.hi
  have hlen := pc_len_lt (k := k) hY.hi
  have hkn : k ≠ pc_d m + 1 := by unfold pc_d; omega
  refine vv_loc (L' := [(0, .ref (Y.2.1 (pc_d m))), (1, .int (nI (s))), (2, .ref (Y.2.1 (k))), (3, .int (nI (b))), (4, .int (t))]) rfl ?_
  refine vv_iconst (q := 1) hC (nI 0) dX0_take_0 (by decide) rfl ?_
  refine vv_istore (L' := [(0, .ref (Y.2.1 (pc_d m))), (1, .int (nI (s))), (2, .ref (Y.2.1 (k))), (3, .int (nI (b))), (4, .int (t)), (5, .int (nI (0)))]) (q := 3) hC dX0_take_1 (by decide) rfl rfl rfl ?_
  have lp_3 : ∀ i : Nat, (i ≤ 8) → (∀ j, j < i → nI j < t) → vv_V Y 6 Z (vv_row σ (pc_d m + 1) (fun j => if s * 8 ≤ j ∧ j < s * 8 + i then σ k (b + (j - s * 8)) else σ (pc_d m + 1) j)) 3 [(0, .ref (Y.2.1 (pc_d m))), (1, .int (nI (s))), (2, .ref (Y.2.1 (k))), (3, .int (nI (b))), (4, .int (t)), (5, .int (nI (i)))] [] := by
    refine vv_ind (fun i => 8 - i) (fun i ih_3 => ?_)
    intro hi8 ht
    refine vv_iload (q := 5) hC dX0_take_3 (x := nI (i)) rfl rfl ?_
    refine vv_bipush (q := 7) hC (nI 8) dX0_take_5 (by decide) rfl ?_
    refine vv_icmpN_ge (x := i) (y := 8) (q := 10) (tgt := 41) hC dX0_take_7 (by decide) (by omega) (by omega) rfl (fun c_7 => ?_) (fun c_7 => ?_)
    · refine vv_st (σ' := vv_row σ (pc_d m + 1) (pc_tw σ m s k b t)) (congrArg (vv_row σ (pc_d m + 1)) (pc_tw_eq hi8 ht (Or.inl (by omega)))) ?_
      refine vv_iload (q := 43) hC dX0_take_41 (x := t) rfl rfl ?_
      refine vv_bipush (q := 45) hC (nI 8) dX0_take_43 (by decide) rfl ?_
      refine vv_icmp_le (x := t) (y := nI (8)) (q := 48) (tgt := 59) hC dX0_take_45 (by decide) rfl (fun c_45 => ?_) (fun c_45 => ?_)
      · refine vv_aload_n (q := 60) hC dX0_take_59 (x := Y.2.1 (pc_d m)) rfl rfl ?_
        refine pc_gD (q := 63) hY hC (by omega) 2 hi_X0 hf_torn (by decide) rfl (v := .ref (Y.2.1 (pc_d m + 3))) rfl dX0_take_60 rfl ?_
        refine vv_iload_n (q := 64) hC dX0_take_63 (x := nI (s)) rfl rfl ?_
        refine vv_iload (q := 66) hC dX0_take_64 (x := t) rfl rfl ?_
        refine vv_bipush (q := 68) hC (nI 8) dX0_take_66 (by decide) rfl ?_
        refine vv_icmp_gt (x := t) (y := nI (8)) (q := 71) (tgt := 75) hC dX0_take_68 (by decide) rfl (fun c_68 => absurd c_68 (Int32.not_lt.mpr c_45)) (fun c_68 => ?_)
        refine vv_iconst (q := 72) hC (nI 1) dX0_take_71 (by decide) rfl ?_
        refine vv_goto (tgt := 76) hC dX0_take_72 (by decide) ?_
        refine pc_st_dt (q := 77) hY hC (by omega) (i := s) (x := nI (1)) (by omega) dX0_take_76 rfl ?_
        refine vv_st (σ' := pc_tks σ m s k b t) (by unfold pc_tks; rw [show vp_nar .boolean (nI 1) = nI 1 from by decide, if_neg (Int32.not_lt.mpr c_45)]) ?_
        refine vv_aload_n (q := 78) hC dX0_take_77 (x := Y.2.1 (pc_d m)) rfl rfl ?_
        refine vv_dup (q := 79) hC dX0_take_78 rfl rfl ?_
        refine pc_gD (q := 82) hY hC (by omega) 5 hi_X0 hf_written (by decide) rfl (v := .int ((pc_tks σ m s k b t) (pc_d m) 5)) rfl dX0_take_79 rfl ?_
        refine vv_iconst (q := 83) hC (nI 1) dX0_take_82 (by decide) rfl ?_
        refine vv_iadd (x := (pc_tks σ m s k b t) (pc_d m) 5) (y := nI (1)) (q := 84) hC dX0_take_83 rfl ?_
        refine pc_pD (q := 87) hY hC (by omega) 5 hi_X0 hf_written (by decide) rfl rfl (x := ((pc_tks σ m s k b t) (pc_d m) 5) + (nI (1))) (ty := .int) (by decide +kernel) rfl rfl (fun _ => rfl) dX0_take_84 rfl ?_
        refine vv_vret hC dX0_take_87 ?_
        rw [hp]
        exact ⟨rfl, rfl⟩
      · refine vv_aload_n (q := 49) hC dX0_take_48 (x := Y.2.1 (pc_d m)) rfl rfl ?_
        refine pc_gD (q := 52) hY hC (by omega) 1 hi_X0 hf_sums (by decide) rfl (v := .ref (Y.2.1 (pc_d m + 2))) rfl dX0_take_49 rfl ?_
        refine vv_iload_n (q := 53) hC dX0_take_52 (x := nI (s)) rfl rfl ?_
        refine vv_aload_n (q := 54) hC dX0_take_53 (x := Y.2.1 (k)) rfl rfl ?_
        refine vv_iload_n (q := 55) hC dX0_take_54 (x := nI (b)) rfl rfl ?_
        refine vv_callS (n := 2) (As := [.ref (Y.2.1 (k)), .int (nI (b))]) (st := [.int (nI (s)), .ref (Y.2.1 (pc_d m + 2))]) (q := 58) hC (cm_X0_sumOf _ Y n hY (vv_row σ (pc_d m + 1) (pc_tw σ m s k b t)) k b hk hb) gX0_take_X0_sumOf rfl (by decide +kernel) dX0_take_55 rfl rfl rfl (vv_kR ?_)
        refine vv_top (y := pc_sum (σ k) b 8) (by rw [vv_row_n hkn]) ?_
        refine pc_st_ds (q := 59) hY hC (by omega) (i := s) (x := pc_sum (σ k) b 8) (by omega) dX0_take_58 rfl ?_
        refine vv_aload_n (q := 60) hC dX0_take_59 (x := Y.2.1 (pc_d m)) rfl rfl ?_
        refine pc_gD (q := 63) hY hC (by omega) 2 hi_X0 hf_torn (by decide) rfl (v := .ref (Y.2.1 (pc_d m + 3))) rfl dX0_take_60 rfl ?_
        refine vv_iload_n (q := 64) hC dX0_take_63 (x := nI (s)) rfl rfl ?_
        refine vv_iload (q := 66) hC dX0_take_64 (x := t) rfl rfl ?_
        refine vv_bipush (q := 68) hC (nI 8) dX0_take_66 (by decide) rfl ?_
        refine vv_icmp_gt (x := t) (y := nI (8)) (q := 71) (tgt := 75) hC dX0_take_68 (by decide) rfl (fun c_68 => ?_) (fun c_68 => absurd (Int32.not_le.mp c_45) c_68)
        refine vv_iconst (q := 76) hC (nI 0) dX0_take_75 (by decide) rfl ?_
        refine pc_st_dt (q := 77) hY hC (by omega) (i := s) (x := nI (0)) (by omega) dX0_take_76 rfl ?_
        refine vv_st (σ' := pc_tks σ m s k b t) (by unfold pc_tks; rw [show vp_nar .boolean (nI 0) = nI 0 from by decide, if_pos (Int32.not_le.mp c_45)]) ?_
        refine vv_aload_n (q := 78) hC dX0_take_77 (x := Y.2.1 (pc_d m)) rfl rfl ?_
        refine vv_dup (q := 79) hC dX0_take_78 rfl rfl ?_
        refine pc_gD (q := 82) hY hC (by omega) 5 hi_X0 hf_written (by decide) rfl (v := .int ((pc_tks σ m s k b t) (pc_d m) 5)) rfl dX0_take_79 rfl ?_
        refine vv_iconst (q := 83) hC (nI 1) dX0_take_82 (by decide) rfl ?_
        refine vv_iadd (x := (pc_tks σ m s k b t) (pc_d m) 5) (y := nI (1)) (q := 84) hC dX0_take_83 rfl ?_
        refine pc_pD (q := 87) hY hC (by omega) 5 hi_X0 hf_written (by decide) rfl rfl (x := ((pc_tks σ m s k b t) (pc_d m) 5) + (nI (1))) (ty := .int) (by decide +kernel) rfl rfl (fun _ => rfl) dX0_take_84 rfl ?_
        refine vv_vret hC dX0_take_87 ?_
        rw [hp]
        exact ⟨rfl, rfl⟩
    · refine vv_iload (q := 12) hC dX0_take_10 (x := nI (i)) rfl rfl ?_
      refine vv_iload (q := 14) hC dX0_take_12 (x := t) rfl rfl ?_
      refine vv_icmp_ge (x := nI (i)) (y := t) (q := 17) (tgt := 41) hC dX0_take_14 (by decide) rfl (fun c_14 => ?_) (fun c_14 => ?_)
      · refine vv_st (σ' := vv_row σ (pc_d m + 1) (pc_tw σ m s k b t)) (congrArg (vv_row σ (pc_d m + 1)) (pc_tw_eq hi8 ht (Or.inr c_14))) ?_
        refine vv_iload (q := 43) hC dX0_take_41 (x := t) rfl rfl ?_
        refine vv_bipush (q := 45) hC (nI 8) dX0_take_43 (by decide) rfl ?_
        refine vv_icmp_le (x := t) (y := nI (8)) (q := 48) (tgt := 59) hC dX0_take_45 (by decide) rfl (fun c_45 => ?_) (fun c_45 => ?_)
        · refine vv_aload_n (q := 60) hC dX0_take_59 (x := Y.2.1 (pc_d m)) rfl rfl ?_
          refine pc_gD (q := 63) hY hC (by omega) 2 hi_X0 hf_torn (by decide) rfl (v := .ref (Y.2.1 (pc_d m + 3))) rfl dX0_take_60 rfl ?_
          refine vv_iload_n (q := 64) hC dX0_take_63 (x := nI (s)) rfl rfl ?_
          refine vv_iload (q := 66) hC dX0_take_64 (x := t) rfl rfl ?_
          refine vv_bipush (q := 68) hC (nI 8) dX0_take_66 (by decide) rfl ?_
          refine vv_icmp_gt (x := t) (y := nI (8)) (q := 71) (tgt := 75) hC dX0_take_68 (by decide) rfl (fun c_68 => absurd c_68 (Int32.not_lt.mpr c_45)) (fun c_68 => ?_)
          refine vv_iconst (q := 72) hC (nI 1) dX0_take_71 (by decide) rfl ?_
          refine vv_goto (tgt := 76) hC dX0_take_72 (by decide) ?_
          refine pc_st_dt (q := 77) hY hC (by omega) (i := s) (x := nI (1)) (by omega) dX0_take_76 rfl ?_
          refine vv_st (σ' := pc_tks σ m s k b t) (by unfold pc_tks; rw [show vp_nar .boolean (nI 1) = nI 1 from by decide, if_neg (Int32.not_lt.mpr c_45)]) ?_
          refine vv_aload_n (q := 78) hC dX0_take_77 (x := Y.2.1 (pc_d m)) rfl rfl ?_
          refine vv_dup (q := 79) hC dX0_take_78 rfl rfl ?_
          refine pc_gD (q := 82) hY hC (by omega) 5 hi_X0 hf_written (by decide) rfl (v := .int ((pc_tks σ m s k b t) (pc_d m) 5)) rfl dX0_take_79 rfl ?_
          refine vv_iconst (q := 83) hC (nI 1) dX0_take_82 (by decide) rfl ?_
          refine vv_iadd (x := (pc_tks σ m s k b t) (pc_d m) 5) (y := nI (1)) (q := 84) hC dX0_take_83 rfl ?_
          refine pc_pD (q := 87) hY hC (by omega) 5 hi_X0 hf_written (by decide) rfl rfl (x := ((pc_tks σ m s k b t) (pc_d m) 5) + (nI (1))) (ty := .int) (by decide +kernel) rfl rfl (fun _ => rfl) dX0_take_84 rfl ?_
          refine vv_vret hC dX0_take_87 ?_
          rw [hp]
          exact ⟨rfl, rfl⟩
        · refine vv_aload_n (q := 49) hC dX0_take_48 (x := Y.2.1 (pc_d m)) rfl rfl ?_
          refine pc_gD (q := 52) hY hC (by omega) 1 hi_X0 hf_sums (by decide) rfl (v := .ref (Y.2.1 (pc_d m + 2))) rfl dX0_take_49 rfl ?_
          refine vv_iload_n (q := 53) hC dX0_take_52 (x := nI (s)) rfl rfl ?_
          refine vv_aload_n (q := 54) hC dX0_take_53 (x := Y.2.1 (k)) rfl rfl ?_
          refine vv_iload_n (q := 55) hC dX0_take_54 (x := nI (b)) rfl rfl ?_
          refine vv_callS (n := 2) (As := [.ref (Y.2.1 (k)), .int (nI (b))]) (st := [.int (nI (s)), .ref (Y.2.1 (pc_d m + 2))]) (q := 58) hC (cm_X0_sumOf _ Y n hY (vv_row σ (pc_d m + 1) (pc_tw σ m s k b t)) k b hk hb) gX0_take_X0_sumOf rfl (by decide +kernel) dX0_take_55 rfl rfl rfl (vv_kR ?_)
          refine vv_top (y := pc_sum (σ k) b 8) (by rw [vv_row_n hkn]) ?_
          refine pc_st_ds (q := 59) hY hC (by omega) (i := s) (x := pc_sum (σ k) b 8) (by omega) dX0_take_58 rfl ?_
          refine vv_aload_n (q := 60) hC dX0_take_59 (x := Y.2.1 (pc_d m)) rfl rfl ?_
          refine pc_gD (q := 63) hY hC (by omega) 2 hi_X0 hf_torn (by decide) rfl (v := .ref (Y.2.1 (pc_d m + 3))) rfl dX0_take_60 rfl ?_
          refine vv_iload_n (q := 64) hC dX0_take_63 (x := nI (s)) rfl rfl ?_
          refine vv_iload (q := 66) hC dX0_take_64 (x := t) rfl rfl ?_
          refine vv_bipush (q := 68) hC (nI 8) dX0_take_66 (by decide) rfl ?_
          refine vv_icmp_gt (x := t) (y := nI (8)) (q := 71) (tgt := 75) hC dX0_take_68 (by decide) rfl (fun c_68 => ?_) (fun c_68 => absurd (Int32.not_le.mp c_45) c_68)
          refine vv_iconst (q := 76) hC (nI 0) dX0_take_75 (by decide) rfl ?_
          refine pc_st_dt (q := 77) hY hC (by omega) (i := s) (x := nI (0)) (by omega) dX0_take_76 rfl ?_
          refine vv_st (σ' := pc_tks σ m s k b t) (by unfold pc_tks; rw [show vp_nar .boolean (nI 0) = nI 0 from by decide, if_pos (Int32.not_le.mp c_45)]) ?_
          refine vv_aload_n (q := 78) hC dX0_take_77 (x := Y.2.1 (pc_d m)) rfl rfl ?_
          refine vv_dup (q := 79) hC dX0_take_78 rfl rfl ?_
          refine pc_gD (q := 82) hY hC (by omega) 5 hi_X0 hf_written (by decide) rfl (v := .int ((pc_tks σ m s k b t) (pc_d m) 5)) rfl dX0_take_79 rfl ?_
          refine vv_iconst (q := 83) hC (nI 1) dX0_take_82 (by decide) rfl ?_
          refine vv_iadd (x := (pc_tks σ m s k b t) (pc_d m) 5) (y := nI (1)) (q := 84) hC dX0_take_83 rfl ?_
          refine pc_pD (q := 87) hY hC (by omega) 5 hi_X0 hf_written (by decide) rfl rfl (x := ((pc_tks σ m s k b t) (pc_d m) 5) + (nI (1))) (ty := .int) (by decide +kernel) rfl rfl (fun _ => rfl) dX0_take_84 rfl ?_
          refine vv_vret hC dX0_take_87 ?_
          rw [hp]
          exact ⟨rfl, rfl⟩
      · refine vv_aload_n (q := 18) hC dX0_take_17 (x := Y.2.1 (pc_d m)) rfl rfl ?_
        refine pc_gD (q := 21) hY hC (by omega) 0 hi_X0 hf_words (by decide) rfl (v := .ref (Y.2.1 (pc_d m + 1))) rfl dX0_take_18 rfl ?_
        refine vv_iload_n (q := 22) hC dX0_take_21 (x := nI (s)) rfl rfl ?_
        refine vv_bipush (q := 24) hC (nI 8) dX0_take_22 (by decide) rfl ?_
        refine vv_mulN (x := s) (y := 8) (q := 25) hC dX0_take_24 rfl ?_
        refine vv_iload (q := 27) hC dX0_take_25 (x := nI (i)) rfl rfl ?_
        refine vv_addN (x := s * 8) (y := i) (q := 28) hC dX0_take_27 rfl ?_
        refine vv_aload_n (q := 29) hC dX0_take_28 (x := Y.2.1 (k)) rfl rfl ?_
        refine vv_iload_n (q := 30) hC dX0_take_29 (x := nI (b)) rfl rfl ?_
        refine vv_iload (q := 32) hC dX0_take_30 (x := nI (i)) rfl rfl ?_
        refine vv_addN (x := b) (y := i) (q := 33) hC dX0_take_32 rfl ?_
        refine pc_ld_row (q := 34) hY hC hk (i := b + i) (by omega) dX0_take_33 rfl ?_
        refine vv_top (y := σ k (b + i)) (by rw [vv_row_n hkn]) ?_
        refine pc_st_dw (q := 35) hY hC (by omega) (i := (s * 8) + i) (x := σ k (b + i)) (by omega) dX0_take_34 rfl ?_
        refine vv_iincN (x := i) (L' := [(0, .ref (Y.2.1 (pc_d m))), (1, .int (nI (s))), (2, .ref (Y.2.1 (k))), (3, .int (nI (b))), (4, .int (t)), (5, .int (nI (i + 1)))]) (q := 38) hC dX0_take_35 rfl (by decide) rfl rfl rfl ?_
        refine vv_goto (tgt := 3) hC dX0_take_38 (by decide) ?_
        refine vv_st (σ' := vv_row σ (pc_d m + 1) (fun j => if s * 8 ≤ j ∧ j < s * 8 + (i + 1) then σ k (b + (j - s * 8)) else σ (pc_d m + 1) j)) (by rw [vv_up_row]; exact congrArg (vv_row σ (pc_d m + 1)) (funext fun j => by unfold upd; grind)) ?_
        exact ih_3 (i + 1) (by first | omega | (dsimp only; omega))  (by omega) (lt_s ht (Int32.not_le.mp c_14))
  refine vv_st (σ' := vv_row σ (pc_d m + 1) (fun j => if s * 8 ≤ j ∧ j < s * 8 + 0 then σ k (b + (j - s * 8)) else σ (pc_d m + 1) j)) ((vv_row_of (funext fun j => by grind)).symm) ?_
  exact lp_3 0 (by omega) (fun i hi => absurd hi (Nat.not_lt_zero i))
set_option maxRecDepth 100000 in
set_option maxHeartbeats 4000000 in
theorem cm_X0_replace (l : Launch) (Y : vv_Y) (n : Nat) (hY : pc_sys Y n) (σ : vv_S) (m : Nat) (hm : m < n) : vv_M l Y yX0_replace wsX0_replace { frames := 0, cells := 0, slots := 0, locals := 0 } [.ref (Y.2.1 (pc_d m))] σ (vv_Rv (pc_rp σ m)) := by
  refine vv_M.of (cc := cX0_replace) (maxL := 2) (ret := none) hY.ok (by decide) rfl (Nat.le_of_ble_eq_true rfl) ?_
  intro Z hl hp hC
  subst hl
  have hi_X0 : ∀ w ∈ u_ws RX0 TX0 6, w ∈ wsX0_replace := by decide +kernel
  have hf_state : Cond.fieldLink RX0 22 "ParityRow$Disk" (TX0 3).2.1 (TX0 3).2.2.1 ∈ wsX0_replace := by decide +kernel
  have hf_built : Cond.fieldLink RX0 26 "ParityRow$Disk" (TX0 4).2.1 (TX0 4).2.2.1 ∈ wsX0_replace := by decide +kernel
  have hf_sums : Cond.fieldLink RX0 15 "ParityRow$Disk" (TX0 1).2.1 (TX0 1).2.2.1 ∈ wsX0_replace := by decide +kernel
  have hf_torn : Cond.fieldLink RX0 18 "ParityRow$Disk" (TX0 2).2.1 (TX0 2).2.2.1 ∈ wsX0_replace := by decide +kernel
  have hf_words : Cond.fieldLink RX0 9 "ParityRow$Disk" (TX0 0).2.1 (TX0 0).2.2.1 ∈ wsX0_replace := by decide +kernel
  have hlo := hY.lo
  have hhi := hY.hi
  refine vv_loc (L' := [(0, .ref (Y.2.1 (pc_d m)))]) rfl ?_
  refine vv_iconst (q := 1) hC (nI 0) dX0_replace_0 (by decide) rfl ?_
  refine vv_istore_n (L' := [(0, .ref (Y.2.1 (pc_d m))), (1, .int (nI (0)))]) (q := 2) hC dX0_replace_1 (by decide) rfl rfl rfl ?_
  have lp_2 : ∀ i : Nat, (i ≤ 192) → vv_V Y 2 Z (vv_row σ (pc_d m + 1) (fun j => if j < i then nI 0 else σ (pc_d m + 1) j)) 2 [(0, .ref (Y.2.1 (pc_d m))), (1, .int (nI (i)))] [] := by
    refine vv_ind (fun i => 192 - i) (fun i ih_2 => ?_)
    intro hi
    refine vv_iload_n (q := 3) hC dX0_replace_2 (x := nI (i)) rfl rfl ?_
    refine vv_sipush (q := 6) hC (nI 192) dX0_replace_3 (by decide) rfl ?_
    refine vv_icmpN_ge (x := i) (y := 192) (q := 9) (tgt := 22) hC dX0_replace_6 (by decide) (by omega) (by omega) rfl (fun c_6 => ?_) (fun c_6 => ?_)
    · have ei : i = 192 := by omega
      subst ei
      refine vv_iconst (q := 23) hC (nI 0) dX0_replace_22 (by decide) rfl ?_
      refine vv_istore_n (L' := [(0, .ref (Y.2.1 (pc_d m))), (1, .int (nI (0)))]) (q := 24) hC dX0_replace_23 (by decide) rfl rfl rfl ?_
      have lp_24 : ∀ i : Nat, (i ≤ 24) → vv_V Y 2 Z (vv_row (vv_row (vv_row σ (pc_d m + 1) (fun j => if j < 192 then nI 0 else σ (pc_d m + 1) j)) (pc_d m + 2) (fun j => if j < i then nI 0 else σ (pc_d m + 2) j)) (pc_d m + 3) (fun j => if j < i then nI 0 else σ (pc_d m + 3) j)) 24 [(0, .ref (Y.2.1 (pc_d m))), (1, .int (nI (i)))] [] := by
        refine vv_ind (fun i => 24 - i) (fun i ih_24 => ?_)
        intro hi
        refine vv_iload_n (q := 25) hC dX0_replace_24 (x := nI (i)) rfl rfl ?_
        refine vv_bipush (q := 27) hC (nI 24) dX0_replace_25 (by decide) rfl ?_
        refine vv_icmpN_ge (x := i) (y := 24) (q := 30) (tgt := 50) hC dX0_replace_27 (by decide) (by omega) (by omega) rfl (fun c_27 => ?_) (fun c_27 => ?_)
        · have ei : i = 24 := by omega
          subst ei
          refine vv_aload_n (q := 51) hC dX0_replace_50 (x := Y.2.1 (pc_d m)) rfl rfl ?_
          refine vv_iconst (q := 52) hC (nI 2) dX0_replace_51 (by decide) rfl ?_
          refine pc_pD (q := 55) hY hC (by omega) 3 hi_X0 hf_state (by decide) rfl rfl (x := nI (2)) (ty := .int) (by decide +kernel) rfl rfl (fun _ => rfl) dX0_replace_52 rfl ?_
          refine vv_aload_n (q := 56) hC dX0_replace_55 (x := Y.2.1 (pc_d m)) rfl rfl ?_
          refine vv_iconst (q := 57) hC (nI 0) dX0_replace_56 (by decide) rfl ?_
          refine pc_pD (q := 60) hY hC (by omega) 4 hi_X0 hf_built (by decide) rfl rfl (x := nI (0)) (ty := .int) (by decide +kernel) rfl rfl (fun _ => rfl) dX0_replace_57 rfl ?_
          refine vv_vret hC dX0_replace_60 ?_
          rw [hp]
          exact ⟨rfl, rfl⟩
        · refine vv_aload_n (q := 31) hC dX0_replace_30 (x := Y.2.1 (pc_d m)) rfl rfl ?_
          refine pc_gD (q := 34) hY hC (by omega) 1 hi_X0 hf_sums (by decide) rfl (v := .ref (Y.2.1 (pc_d m + 2))) rfl dX0_replace_31 rfl ?_
          refine vv_iload_n (q := 35) hC dX0_replace_34 (x := nI (i)) rfl rfl ?_
          refine vv_iconst (q := 36) hC (nI 0) dX0_replace_35 (by decide) rfl ?_
          refine pc_st_ds (q := 37) hY hC (by omega) (i := i) (x := nI (0)) (by omega) dX0_replace_36 rfl ?_
          refine vv_aload_n (q := 38) hC dX0_replace_37 (x := Y.2.1 (pc_d m)) rfl rfl ?_
          refine pc_gD (q := 41) hY hC (by omega) 2 hi_X0 hf_torn (by decide) rfl (v := .ref (Y.2.1 (pc_d m + 3))) rfl dX0_replace_38 rfl ?_
          refine vv_iload_n (q := 42) hC dX0_replace_41 (x := nI (i)) rfl rfl ?_
          refine vv_iconst (q := 43) hC (nI 0) dX0_replace_42 (by decide) rfl ?_
          refine pc_st_dt (q := 44) hY hC (by omega) (i := i) (x := nI (0)) (by omega) dX0_replace_43 rfl ?_
          refine vv_iincN (x := i) (L' := [(0, .ref (Y.2.1 (pc_d m))), (1, .int (nI (i + 1)))]) (q := 47) hC dX0_replace_44 rfl (by decide) rfl rfl rfl ?_
          refine vv_goto (tgt := 24) hC dX0_replace_47 (by decide) ?_
          refine vv_st (σ' := vv_row (vv_row (vv_row σ (pc_d m + 1) (fun j => if j < 192 then nI 0 else σ (pc_d m + 1) j)) (pc_d m + 2) (fun j => if j < (i + 1) then nI 0 else σ (pc_d m + 2) j)) (pc_d m + 3) (fun j => if j < (i + 1) then nI 0 else σ (pc_d m + 3) j)) (by rw [vv_up_row_n (by omega), vv_up_row, vv_up_row, show vp_nar .boolean (nI 0) = nI 0 from by decide]; exact congr (congrArg (fun f g => vv_row (vv_row _ _ f) _ g) (funext fun j => by unfold upd; grind)) (funext fun j => by unfold upd; grind)) ?_
          exact ih_24 (i + 1) (by first | omega | (dsimp only; omega))  (by omega)
      refine vv_st (σ' := vv_row (vv_row (vv_row σ (pc_d m + 1) (fun j => if j < 192 then nI 0 else σ (pc_d m + 1) j)) (pc_d m + 2) (fun j => if j < 0 then nI 0 else σ (pc_d m + 2) j)) (pc_d m + 3) (fun j => if j < 0 then nI 0 else σ (pc_d m + 3) j)) ((by rw [vv_row_of (k := pc_d m + 3) (by rw [vv_row_n (by omega), vv_row_n (by omega)]; funext j; grind), vv_row_of (k := pc_d m + 2) (by rw [vv_row_n (by omega)]; funext j; grind)])) ?_
      exact lp_24 0 (by omega)
    · refine vv_aload_n (q := 10) hC dX0_replace_9 (x := Y.2.1 (pc_d m)) rfl rfl ?_
      refine pc_gD (q := 13) hY hC (by omega) 0 hi_X0 hf_words (by decide) rfl (v := .ref (Y.2.1 (pc_d m + 1))) rfl dX0_replace_10 rfl ?_
      refine vv_iload_n (q := 14) hC dX0_replace_13 (x := nI (i)) rfl rfl ?_
      refine vv_iconst (q := 15) hC (nI 0) dX0_replace_14 (by decide) rfl ?_
      refine pc_st_dw (q := 16) hY hC (by omega) (i := i) (x := nI (0)) (by omega) dX0_replace_15 rfl ?_
      refine vv_iincN (x := i) (L' := [(0, .ref (Y.2.1 (pc_d m))), (1, .int (nI (i + 1)))]) (q := 19) hC dX0_replace_16 rfl (by decide) rfl rfl rfl ?_
      refine vv_goto (tgt := 2) hC dX0_replace_19 (by decide) ?_
      refine vv_st (σ' := vv_row σ (pc_d m + 1) (fun j => if j < (i + 1) then nI 0 else σ (pc_d m + 1) j)) (by rw [vv_up_row]; exact congrArg (vv_row σ (pc_d m + 1)) (funext fun j => by unfold upd; grind)) ?_
      exact ih_2 (i + 1) (by first | omega | (dsimp only; omega))  (by omega)
  refine vv_st (σ' := vv_row σ (pc_d m + 1) (fun j => if j < 0 then nI 0 else σ (pc_d m + 1) j)) ((vv_row_of (funext fun j => by grind)).symm) ?_
  exact lp_2 0 (by omega)
set_option maxRecDepth 100000 in
set_option maxHeartbeats 4000000 in
theorem cm_X1_addDatum (l : Launch) (Y : vv_Y) (n : Nat) (hY : pc_sys Y n) (σ : vv_S) (e : Nat) (p : Nat) (v : Int32) (he : e < 11) (hp9 : p < n) : vv_M l Y yX1_addDatum wsX1_addDatum { frames := 0, cells := 0, slots := 0, locals := 0 } [.ref (Y.2.1 (pc_e e)), .int (nI (p)), .int (v)] σ (vv_Rv (pc_ad σ e p v)) := by
  refine vv_M.of (cc := cX1_addDatum) (maxL := 4) (ret := none) hY.ok (by decide) rfl (Nat.le_of_ble_eq_true rfl) ?_
  intro Z hl hp hC
  subst hl
  have hi_X1 : ∀ w ∈ u_ws RX1 TX1 4, w ∈ wsX1_addDatum := by decide +kernel
  have hf_parts : Cond.fieldLink RX1 15 "ParityRow$Entry" (TX1 2).2.1 (TX1 2).2.2.1 ∈ wsX1_addDatum := by decide +kernel
  have hf_words : Cond.fieldLink RX1 21 "ParityRow$Entry" (TX1 0).2.1 (TX1 0).2.2.1 ∈ wsX1_addDatum := by decide +kernel
  have hlo := hY.lo
  have hhi := hY.hi
  refine vv_loc (L' := [(0, .ref (Y.2.1 (pc_e e))), (1, .int (nI (p))), (2, .int (v))]) rfl ?_
  refine vv_aload_n (q := 1) hC dX1_addDatum_0 (x := Y.2.1 (pc_e e)) rfl rfl ?_
  refine vv_dup (q := 2) hC dX1_addDatum_1 rfl rfl ?_
  refine pc_gE (q := 5) hY hC (by omega) 2 hi_X1 hf_parts (by decide) rfl (v := .int (σ (pc_e e) 2)) rfl dX1_addDatum_2 rfl ?_
  refine vv_iconst (q := 6) hC (nI 1) dX1_addDatum_5 (by decide) rfl ?_
  refine vv_iload_n (q := 7) hC dX1_addDatum_6 (x := nI (p)) rfl rfl ?_
  refine vv_ishl (x := nI (1)) (y := nI (p)) (q := 8) hC dX1_addDatum_7 rfl ?_
  refine vv_ior (x := σ (pc_e e) 2) (y := (nI (1)) <<< ((nI (p)) &&& 31)) (q := 9) hC dX1_addDatum_8 rfl ?_
  refine pc_pE (q := 12) hY hC (by omega) 2 hi_X1 hf_parts (by decide) rfl rfl (x := (σ (pc_e e) 2) ||| ((nI (1)) <<< ((nI (p)) &&& 31))) (ty := .int) (by decide +kernel) rfl rfl (fun _ => rfl) dX1_addDatum_9 rfl ?_
  refine vv_st (σ' := pc_or σ e p) (rfl) ?_
  refine vv_iconst (q := 13) hC (nI 0) dX1_addDatum_12 (by decide) rfl ?_
  refine vv_istore_n (L' := [(0, .ref (Y.2.1 (pc_e e))), (1, .int (nI (p))), (2, .int (v)), (3, .int (nI (0)))]) (q := 14) hC dX1_addDatum_13 (by decide) rfl rfl rfl ?_
  have lp_14 : ∀ i : Nat, (i ≤ 8) → vv_V Y 4 Z (vv_row (pc_or σ e p) (pc_e e + 1) (fun j => if p * 8 ≤ j ∧ j < p * 8 + i then v + nI (j - p * 8) else σ (pc_e e + 1) j)) 14 [(0, .ref (Y.2.1 (pc_e e))), (1, .int (nI (p))), (2, .int (v)), (3, .int (nI (i)))] [] := by
    refine vv_ind (fun i => 8 - i) (fun i ih_14 => ?_)
    intro hi8
    refine vv_iload_n (q := 15) hC dX1_addDatum_14 (x := nI (i)) rfl rfl ?_
    refine vv_bipush (q := 17) hC (nI 8) dX1_addDatum_15 (by decide) rfl ?_
    refine vv_icmpN_ge (x := i) (y := 8) (q := 20) (tgt := 40) hC dX1_addDatum_17 (by decide) (by omega) (by omega) rfl (fun c_17 => ?_) (fun c_17 => ?_)
    · refine vv_vret hC dX1_addDatum_40 ?_
      rw [hp]
      have e8 : i = 8 := by omega
      subst e8
      exact ⟨rfl, rfl⟩
    · refine vv_aload_n (q := 21) hC dX1_addDatum_20 (x := Y.2.1 (pc_e e)) rfl rfl ?_
      refine pc_gE (q := 24) hY hC (by omega) 0 hi_X1 hf_words (by decide) rfl (v := .ref (Y.2.1 (pc_e e + 1))) rfl dX1_addDatum_21 rfl ?_
      refine vv_iload_n (q := 25) hC dX1_addDatum_24 (x := nI (p)) rfl rfl ?_
      refine vv_bipush (q := 27) hC (nI 8) dX1_addDatum_25 (by decide) rfl ?_
      refine vv_mulN (x := p) (y := 8) (q := 28) hC dX1_addDatum_27 rfl ?_
      refine vv_iload_n (q := 29) hC dX1_addDatum_28 (x := nI (i)) rfl rfl ?_
      refine vv_addN (x := p * 8) (y := i) (q := 30) hC dX1_addDatum_29 rfl ?_
      refine vv_iload_n (q := 31) hC dX1_addDatum_30 (x := v) rfl rfl ?_
      refine vv_iload_n (q := 32) hC dX1_addDatum_31 (x := nI (i)) rfl rfl ?_
      refine vv_iadd (x := v) (y := nI (i)) (q := 33) hC dX1_addDatum_32 rfl ?_
      refine pc_st_ew (q := 34) hY hC (by omega) (i := (p * 8) + i) (x := v + (nI (i))) (by omega) dX1_addDatum_33 rfl ?_
      refine vv_iincN (x := i) (L' := [(0, .ref (Y.2.1 (pc_e e))), (1, .int (nI (p))), (2, .int (v)), (3, .int (nI (i + 1)))]) (q := 37) hC dX1_addDatum_34 rfl (by decide) rfl rfl rfl ?_
      refine vv_goto (tgt := 14) hC dX1_addDatum_37 (by decide) ?_
      refine vv_st (σ' := vv_row (pc_or σ e p) (pc_e e + 1) (fun j => if p * 8 ≤ j ∧ j < p * 8 + (i + 1) then v + nI (j - p * 8) else σ (pc_e e + 1) j)) (by rw [vv_up_row]; exact congrArg (vv_row (pc_or σ e p) (pc_e e + 1)) (funext fun j => by unfold upd; grind)) ?_
      exact ih_14 (i + 1) (by first | omega | (dsimp only; omega))  (by omega)
  refine vv_st (σ' := vv_row (pc_or σ e p) (pc_e e + 1) (fun j => if p * 8 ≤ j ∧ j < p * 8 + 0 then v + nI (j - p * 8) else σ (pc_e e + 1) j)) ((vv_row_of (by rw [pc_or_w]; funext j; grind)).symm) ?_
  exact lp_14 0 (by omega)
set_option maxRecDepth 100000 in
set_option maxHeartbeats 4000000 in
theorem cm_X1_addWords (l : Launch) (Y : vv_Y) (n : Nat) (hY : pc_sys Y n) (σ : vv_S) (e : Nat) (p : Nat) (he : e < 11) (hp9 : p < n) : vv_M l Y yX1_addWords wsX1_addWords { frames := 0, cells := 0, slots := 0, locals := 0 } [.ref (Y.2.1 (pc_e e)), .int (nI (p)), .ref (Y.2.1 (5))] σ (vv_Rv (pc_aw σ e p)) := by
  refine vv_M.of (cc := cX1_addWords) (maxL := 4) (ret := none) hY.ok (by decide) rfl (Nat.le_of_ble_eq_true rfl) ?_
  intro Z hl hp hC
  subst hl
  have hi_X1 : ∀ w ∈ u_ws RX1 TX1 4, w ∈ wsX1_addWords := by decide +kernel
  have hf_parts : Cond.fieldLink RX1 15 "ParityRow$Entry" (TX1 2).2.1 (TX1 2).2.2.1 ∈ wsX1_addWords := by decide +kernel
  have hf_words : Cond.fieldLink RX1 21 "ParityRow$Entry" (TX1 0).2.1 (TX1 0).2.2.1 ∈ wsX1_addWords := by decide +kernel
  have hlo := hY.lo
  have hhi := hY.hi
  refine vv_loc (L' := [(0, .ref (Y.2.1 (pc_e e))), (1, .int (nI (p))), (2, .ref (Y.2.1 (5)))]) rfl ?_
  refine vv_aload_n (q := 1) hC dX1_addWords_0 (x := Y.2.1 (pc_e e)) rfl rfl ?_
  refine vv_dup (q := 2) hC dX1_addWords_1 rfl rfl ?_
  refine pc_gE (q := 5) hY hC (by omega) 2 hi_X1 hf_parts (by decide) rfl (v := .int (σ (pc_e e) 2)) rfl dX1_addWords_2 rfl ?_
  refine vv_iconst (q := 6) hC (nI 1) dX1_addWords_5 (by decide) rfl ?_
  refine vv_iload_n (q := 7) hC dX1_addWords_6 (x := nI (p)) rfl rfl ?_
  refine vv_ishl (x := nI (1)) (y := nI (p)) (q := 8) hC dX1_addWords_7 rfl ?_
  refine vv_ior (x := σ (pc_e e) 2) (y := (nI (1)) <<< ((nI (p)) &&& 31)) (q := 9) hC dX1_addWords_8 rfl ?_
  refine pc_pE (q := 12) hY hC (by omega) 2 hi_X1 hf_parts (by decide) rfl rfl (x := (σ (pc_e e) 2) ||| ((nI (1)) <<< ((nI (p)) &&& 31))) (ty := .int) (by decide +kernel) rfl rfl (fun _ => rfl) dX1_addWords_9 rfl ?_
  refine vv_st (σ' := pc_or σ e p) (rfl) ?_
  refine vv_iconst (q := 13) hC (nI 0) dX1_addWords_12 (by decide) rfl ?_
  refine vv_istore_n (L' := [(0, .ref (Y.2.1 (pc_e e))), (1, .int (nI (p))), (2, .ref (Y.2.1 (5))), (3, .int (nI (0)))]) (q := 14) hC dX1_addWords_13 (by decide) rfl rfl rfl ?_
  have lp_14 : ∀ i : Nat, (i ≤ 8) → vv_V Y 4 Z (vv_row (pc_or σ e p) (pc_e e + 1) (fun j => if p * 8 ≤ j ∧ j < p * 8 + i then σ 5 (j - p * 8) else σ (pc_e e + 1) j)) 14 [(0, .ref (Y.2.1 (pc_e e))), (1, .int (nI (p))), (2, .ref (Y.2.1 (5))), (3, .int (nI (i)))] [] := by
    refine vv_ind (fun i => 8 - i) (fun i ih_14 => ?_)
    intro hi8
    refine vv_iload_n (q := 15) hC dX1_addWords_14 (x := nI (i)) rfl rfl ?_
    refine vv_bipush (q := 17) hC (nI 8) dX1_addWords_15 (by decide) rfl ?_
    refine vv_icmpN_ge (x := i) (y := 8) (q := 20) (tgt := 40) hC dX1_addWords_17 (by decide) (by omega) (by omega) rfl (fun c_17 => ?_) (fun c_17 => ?_)
    · refine vv_vret hC dX1_addWords_40 ?_
      rw [hp]
      have e8 : i = 8 := by omega
      subst e8
      exact ⟨rfl, rfl⟩
    · refine vv_aload_n (q := 21) hC dX1_addWords_20 (x := Y.2.1 (pc_e e)) rfl rfl ?_
      refine pc_gE (q := 24) hY hC (by omega) 0 hi_X1 hf_words (by decide) rfl (v := .ref (Y.2.1 (pc_e e + 1))) rfl dX1_addWords_21 rfl ?_
      refine vv_iload_n (q := 25) hC dX1_addWords_24 (x := nI (p)) rfl rfl ?_
      refine vv_bipush (q := 27) hC (nI 8) dX1_addWords_25 (by decide) rfl ?_
      refine vv_mulN (x := p) (y := 8) (q := 28) hC dX1_addWords_27 rfl ?_
      refine vv_iload_n (q := 29) hC dX1_addWords_28 (x := nI (i)) rfl rfl ?_
      refine vv_addN (x := p * 8) (y := i) (q := 30) hC dX1_addWords_29 rfl ?_
      refine vv_aload_n (q := 31) hC dX1_addWords_30 (x := Y.2.1 (5)) rfl rfl ?_
      refine vv_iload_n (q := 32) hC dX1_addWords_31 (x := nI (i)) rfl rfl ?_
      refine pc_ld_mixed (q := 33) hY hC (i := i) (by omega) dX1_addWords_32 rfl ?_
      refine vv_top (y := σ 5 i) (by rw [vv_row_n (by unfold pc_e; omega), pc_or_5]) ?_
      refine pc_st_ew (q := 34) hY hC (by omega) (i := (p * 8) + i) (x := σ 5 i) (by omega) dX1_addWords_33 rfl ?_
      refine vv_iincN (x := i) (L' := [(0, .ref (Y.2.1 (pc_e e))), (1, .int (nI (p))), (2, .ref (Y.2.1 (5))), (3, .int (nI (i + 1)))]) (q := 37) hC dX1_addWords_34 rfl (by decide) rfl rfl rfl ?_
      refine vv_goto (tgt := 14) hC dX1_addWords_37 (by decide) ?_
      refine vv_st (σ' := vv_row (pc_or σ e p) (pc_e e + 1) (fun j => if p * 8 ≤ j ∧ j < p * 8 + (i + 1) then σ 5 (j - p * 8) else σ (pc_e e + 1) j)) (by rw [vv_up_row]; exact congrArg (vv_row (pc_or σ e p) (pc_e e + 1)) (funext fun j => by unfold upd; grind)) ?_
      exact ih_14 (i + 1) (by first | omega | (dsimp only; omega))  (by omega)
  refine vv_st (σ' := vv_row (pc_or σ e p) (pc_e e + 1) (fun j => if p * 8 ≤ j ∧ j < p * 8 + 0 then σ 5 (j - p * 8) else σ (pc_e e + 1) j)) ((vv_row_of (by rw [pc_or_w]; funext j; grind)).symm) ?_
  exact lp_14 0 (by omega)
set_option maxRecDepth 100000 in
set_option maxHeartbeats 4000000 in
theorem cm_X2_free (l : Launch) (Y : vv_Y) (n : Nat) (hY : pc_sys Y n) (σ : vv_S) (o : Nat) (r : Nat) (q : Nat) (ho : σ 2 1 = nI o) (ho11 : o < 11) (hr : σ 2 2 = nI r) (hr10 : r ≤ 10) (hq9 : q ≤ r) : vv_M l Y yX2_free wsX2_free { frames := 2, cells := 0, slots := 0, locals := 40 } [.ref (Y.2.1 (2)), .int (nI (q))] σ (vv_Rv (vv_row σ 2 (pc_fj σ o r q))) := by
  refine vv_M.of (cc := cX2_free) (maxL := 4) (ret := none) hY.ok (by decide) rfl (Nat.le_of_ble_eq_true rfl) ?_
  intro Z hl hp hC
  subst hl
  have hi_X2 : ∀ w ∈ u_ws RX2 TX2 6, w ∈ wsX2_free := by decide +kernel
  have hf_records : Cond.fieldLink RX2 21 "ParityRow$Journal" (TX2 2).2.1 (TX2 2).2.2.1 ∈ wsX2_free := by decide +kernel
  have hf_markCell : Cond.fieldLink RX2 27 "ParityRow$Journal" (TX2 4).2.1 (TX2 4).2.2.1 ∈ wsX2_free := by decide +kernel
  have hf_markSerial : Cond.fieldLink RX2 30 "ParityRow$Journal" (TX2 5).2.1 (TX2 5).2.2.1 ∈ wsX2_free := by decide +kernel
  have hf_usedCells : Cond.fieldLink RX2 24 "ParityRow$Journal" (TX2 3).2.1 (TX2 3).2.2.1 ∈ wsX2_free := by decide +kernel
  have hf_oldest : Cond.fieldLink RX2 17 "ParityRow$Journal" (TX2 1).2.1 (TX2 1).2.2.1 ∈ wsX2_free := by decide +kernel
  have hlo := hY.lo
  have hhi := hY.hi
  refine vv_loc (L' := [(0, .ref (Y.2.1 (2))), (1, .int (nI (q)))]) rfl ?_
  refine vv_iconst (q := 1) hC (nI 0) dX2_free_0 (by decide) rfl ?_
  refine vv_istore_n (L' := [(0, .ref (Y.2.1 (2))), (1, .int (nI (q))), (2, .int (nI (0)))]) (q := 2) hC dX2_free_1 (by decide) rfl rfl rfl ?_
  have lp_2 : ∀ k : Nat, (k ≤ q) → vv_V Y 4 Z (vv_row σ 2 (pc_fj σ o r k)) 2 [(0, .ref (Y.2.1 (2))), (1, .int (nI (q))), (2, .int (nI (k)))] [] := by
    refine vv_ind (fun k => q - k) (fun k ih_2 => ?_)
    intro hk
    refine vv_iload_n (q := 3) hC dX2_free_2 (x := nI (k)) rfl rfl ?_
    refine vv_iload_n (q := 4) hC dX2_free_3 (x := nI (q)) rfl rfl ?_
    refine vv_icmpN_ge (x := k) (y := q) (q := 7) (tgt := 85) hC dX2_free_4 (by decide) (by omega) (by omega) rfl (fun c_4 => ?_) (fun c_4 => ?_)
    · refine vv_vret hC dX2_free_85 ?_
      rw [hp]
      have ek : k = q := by omega
      subst ek
      exact ⟨rfl, rfl⟩
    · refine vv_aload_n (q := 8) hC dX2_free_7 (x := Y.2.1 (2)) rfl rfl ?_
      refine pc_gJ (q := 11) hY hC 2 hi_X2 hf_records (by decide) rfl (v := .int ((vv_row σ 2 (pc_fj σ o r k)) 2 2)) rfl dX2_free_8 rfl ?_
      refine vv_top (y := nI (r - k)) (by rw [vv_row_s, pc_fj_2 hr]) ?_
      refine vv_if_le (x := nI (r - k)) (q := 14) (tgt := 85) hC dX2_free_11 (by decide) rfl (fun c_11 => absurd c_11 (nI_nle (by omega) (by omega))) (fun c_11 => ?_)
      refine vv_aload_n (q := 15) hC dX2_free_14 (x := Y.2.1 (2)) rfl rfl ?_
      refine vv_iconst (q := 16) hC (nI 0) dX2_free_15 (by decide) rfl ?_
      refine vv_callV (n := 1) (k := 2) (As := [.int (nI (0))]) (st := []) (q := 19) hC (hY.k (by decide)) (hY.J _) (by rw [hY.cl]; rfl) (cm_X2_entry _ Y n hY (vv_row σ 2 (pc_fj σ o r k)) (pc_re o k) 0 (by rw [vv_row_s, pc_fj_1 ho ho11]) (Nat.mod_lt _ (by decide)) (by omega)) gX2_free_X2_entry rfl (by decide +kernel) dX2_free_16 rfl rfl rfl (vv_kR ?_)
      refine vv_stk (st' := [.ref (Y.2.1 (pc_e (pc_re o k)))]) (by rw [pc_re_0]) ?_
      refine vv_callVN (n := 0) (k := pc_e (pc_re o k)) (As := []) (st := []) (q := 22) hC (hY.ke (j := 0) (Nat.mod_lt _ (by decide)) (by decide)) (hY.E (Nat.mod_lt _ (by decide)) _) (by rw [hY.cl]; rfl) (cm_X1_cells _ Y n hY ((vv_row σ 2 (pc_fj σ o r k))) (pc_re o k) (Nat.mod_lt _ (by decide))) gX2_free_X1_cells_n44 rfl (hY.nw nw_X2_44) (by decide +kernel) (by decide +kernel) (by decide +kernel) (by decide +kernel) dX2_free_19 rfl rfl rfl (vv_kR ?_)
      refine vv_top (y := pc_cells (σ (pc_e (pc_re o k)) 2)) (by rw [vv_row_n (by unfold pc_e; omega)]) ?_
      refine vv_istore_n (L' := [(0, .ref (Y.2.1 (2))), (1, .int (nI (q))), (2, .int (nI (k))), (3, .int (pc_cells (σ (pc_e (pc_re o k)) 2)))]) (q := 23) hC dX2_free_22 (by decide) rfl rfl rfl ?_
      refine vv_aload_n (q := 24) hC dX2_free_23 (x := Y.2.1 (2)) rfl rfl ?_
      refine vv_aload_n (q := 25) hC dX2_free_24 (x := Y.2.1 (2)) rfl rfl ?_
      refine pc_gJ (q := 28) hY hC 4 hi_X2 hf_markCell (by decide) rfl (v := .int ((((vv_row σ 2 (pc_fj σ o r k)))) 2 4)) rfl dX2_free_25 rfl ?_
      refine vv_top (y := pc_fj σ o r k 4) (congrFun vv_row_s 4) ?_
      refine vv_iload_n (q := 29) hC dX2_free_28 (x := pc_cells (σ (pc_e (pc_re o k)) 2)) rfl rfl ?_
      refine vv_iadd (x := pc_fj σ o r k 4) (y := pc_cells (σ (pc_e (pc_re o k)) 2)) (q := 30) hC dX2_free_29 rfl ?_
      refine vv_bipush (q := 32) hC (nI 32) dX2_free_30 (by decide) rfl ?_
      refine vv_irem (x := (pc_fj σ o r k 4) + (pc_cells (σ (pc_e (pc_re o k)) 2))) (y := nI (32)) (q := 33) hC dX2_free_32 (by decide) rfl ?_
      refine pc_pJ (q := 36) hY hC 4 hi_X2 hf_markCell (by decide) rfl rfl (x := ((pc_fj σ o r k 4) + (pc_cells (σ (pc_e (pc_re o k)) 2))) - ((pc_fj σ o r k 4) + (pc_cells (σ (pc_e (pc_re o k)) 2))) / (nI (32)) * (nI (32))) (ty := .int) (by decide +kernel) rfl rfl (fun _ => rfl) dX2_free_33 rfl ?_
      refine vv_aload_n (q := 37) hC dX2_free_36 (x := Y.2.1 (2)) rfl rfl ?_
      refine vv_dup (q := 38) hC dX2_free_37 rfl rfl ?_
      refine pc_gJ (q := 41) hY hC 5 hi_X2 hf_markSerial (by decide) rfl (v := .int ((vv_up (((vv_row σ 2 (pc_fj σ o r k)))) 2 4 (((pc_fj σ o r k 4) + (pc_cells (σ (pc_e (pc_re o k)) 2))) - ((pc_fj σ o r k 4) + (pc_cells (σ (pc_e (pc_re o k)) 2))) / (nI (32)) * (nI (32)))) 2 5)) rfl dX2_free_38 rfl ?_
      refine vv_top (y := pc_fj σ o r k 5) (by simp only [vv_up_row, vv_row_s]; rfl) ?_
      refine vv_iconst (q := 42) hC (nI 1) dX2_free_41 (by decide) rfl ?_
      refine vv_iadd (x := pc_fj σ o r k 5) (y := nI (1)) (q := 43) hC dX2_free_42 rfl ?_
      refine pc_pJ (q := 46) hY hC 5 hi_X2 hf_markSerial (by decide) rfl rfl (x := (pc_fj σ o r k 5) + (nI (1))) (ty := .int) (by decide +kernel) rfl rfl (fun _ => rfl) dX2_free_43 rfl ?_
      refine vv_aload_n (q := 47) hC dX2_free_46 (x := Y.2.1 (2)) rfl rfl ?_
      refine vv_dup (q := 48) hC dX2_free_47 rfl rfl ?_
      refine pc_gJ (q := 51) hY hC 3 hi_X2 hf_usedCells (by decide) rfl (v := .int ((vv_up (vv_up (((vv_row σ 2 (pc_fj σ o r k)))) 2 4 (((pc_fj σ o r k 4) + (pc_cells (σ (pc_e (pc_re o k)) 2))) - ((pc_fj σ o r k 4) + (pc_cells (σ (pc_e (pc_re o k)) 2))) / (nI (32)) * (nI (32)))) 2 5 ((pc_fj σ o r k 5) + (nI (1)))) 2 3)) rfl dX2_free_48 rfl ?_
      refine vv_top (y := pc_fj σ o r k 3) (by simp only [vv_up_row, vv_row_s]; rfl) ?_
      refine vv_iload_n (q := 52) hC dX2_free_51 (x := pc_cells (σ (pc_e (pc_re o k)) 2)) rfl rfl ?_
      refine vv_isub (x := pc_fj σ o r k 3) (y := pc_cells (σ (pc_e (pc_re o k)) 2)) (q := 53) hC dX2_free_52 rfl ?_
      refine pc_pJ (q := 56) hY hC 3 hi_X2 hf_usedCells (by decide) rfl rfl (x := (pc_fj σ o r k 3) - (pc_cells (σ (pc_e (pc_re o k)) 2))) (ty := .int) (by decide +kernel) rfl rfl (fun _ => rfl) dX2_free_53 rfl ?_
      refine vv_aload_n (q := 57) hC dX2_free_56 (x := Y.2.1 (2)) rfl rfl ?_
      refine vv_aload_n (q := 58) hC dX2_free_57 (x := Y.2.1 (2)) rfl rfl ?_
      refine pc_gJ (q := 61) hY hC 1 hi_X2 hf_oldest (by decide) rfl (v := .int ((vv_up (vv_up (vv_up (((vv_row σ 2 (pc_fj σ o r k)))) 2 4 (((pc_fj σ o r k 4) + (pc_cells (σ (pc_e (pc_re o k)) 2))) - ((pc_fj σ o r k 4) + (pc_cells (σ (pc_e (pc_re o k)) 2))) / (nI (32)) * (nI (32)))) 2 5 ((pc_fj σ o r k 5) + (nI (1)))) 2 3 ((pc_fj σ o r k 3) - (pc_cells (σ (pc_e (pc_re o k)) 2)))) 2 1)) rfl dX2_free_58 rfl ?_
      refine vv_top (y := nI (pc_re o k)) (by simp only [vv_up_row, vv_row_s]; exact pc_fj_1 ho ho11 k) ?_
      refine vv_iconst (q := 62) hC (nI 1) dX2_free_61 (by decide) rfl ?_
      refine vv_addN (x := pc_re o k) (y := 1) (q := 63) hC dX2_free_62 rfl ?_
      refine vv_bipush (q := 65) hC (nI 11) dX2_free_63 (by decide) rfl ?_
      refine vv_remN (x := (pc_re o k) + 1) (y := 11) (q := 66) hC dX2_free_65 (by have : pc_re o k < 11 := Nat.mod_lt _ (by decide); omega) (by omega) (by omega) rfl ?_
      refine pc_pJ (q := 69) hY hC 1 hi_X2 hf_oldest (by decide) rfl rfl (x := nI (((pc_re o k) + 1) % 11)) (ty := .int) (by decide +kernel) rfl rfl (fun _ => rfl) dX2_free_66 rfl ?_
      refine vv_aload_n (q := 70) hC dX2_free_69 (x := Y.2.1 (2)) rfl rfl ?_
      refine vv_dup (q := 71) hC dX2_free_70 rfl rfl ?_
      refine pc_gJ (q := 74) hY hC 2 hi_X2 hf_records (by decide) rfl (v := .int ((vv_up (vv_up (vv_up (vv_up (((vv_row σ 2 (pc_fj σ o r k)))) 2 4 (((pc_fj σ o r k 4) + (pc_cells (σ (pc_e (pc_re o k)) 2))) - ((pc_fj σ o r k 4) + (pc_cells (σ (pc_e (pc_re o k)) 2))) / (nI (32)) * (nI (32)))) 2 5 ((pc_fj σ o r k 5) + (nI (1)))) 2 3 ((pc_fj σ o r k 3) - (pc_cells (σ (pc_e (pc_re o k)) 2)))) 2 1 (nI (((pc_re o k) + 1) % 11))) 2 2)) rfl dX2_free_71 rfl ?_
      refine vv_top (y := nI (r - k)) (by simp only [vv_up_row, vv_row_s]; exact pc_fj_2 hr k) ?_
      refine vv_iconst (q := 75) hC (nI 1) dX2_free_74 (by decide) rfl ?_
      refine vv_subN (x := r - k) (y := 1) (q := 76) hC dX2_free_75 (by omega) rfl ?_
      refine pc_pJ (q := 79) hY hC 2 hi_X2 hf_records (by decide) rfl rfl (x := nI ((r - k) - 1)) (ty := .int) (by decide +kernel) rfl rfl (fun _ => rfl) dX2_free_76 rfl ?_
      refine vv_iincN (x := k) (L' := [(0, .ref (Y.2.1 (2))), (1, .int (nI (q))), (2, .int (nI (k + 1))), (3, .int (pc_cells (σ (pc_e (pc_re o k)) 2)))]) (q := 82) hC dX2_free_79 rfl (by decide) rfl rfl rfl ?_
      refine vv_goto (tgt := 2) hC dX2_free_82 (by decide) ?_
      refine vv_sub (L' := [(0, .ref (Y.2.1 (2))), (1, .int (nI (q))), (2, .int (nI (k + 1)))]) (by simp) ?_
      refine vv_st (σ' := vv_row σ 2 (pc_fj σ o r (k + 1))) (by simp only [vv_up_row]; rfl) ?_
      exact ih_2 (k + 1) (by first | omega | (dsimp only; omega))  (by omega)
  refine vv_st (σ' := vv_row σ 2 (pc_fj σ o r 0)) (vv_row_self.symm) ?_
  exact lp_2 0 (by omega)
set_option maxRecDepth 100000 in
set_option maxHeartbeats 4000000 in
theorem cm_X3_powerStays (l : Launch) (Y : vv_Y) (n : Nat) (hY : pc_sys Y n) (σ : vv_S) : vv_M l Y yX3_powerStays wsX3_powerStays { frames := 1, cells := 0, slots := 0, locals := 20 } [.ref (Y.2.1 (0))] σ (vv_R (.int (vv_B (¬ σ 0 7 = 0))) (pc_pw σ n)) := by
  refine vv_M.of (cc := cX3_powerStays) (maxL := 2) (ret := (some .boolean)) hY.ok (by decide) rfl (Nat.le_of_ble_eq_true rfl) ?_
  intro Z hl hp hC
  subst hl
  have hi_X3 : ∀ w ∈ u_ws RX3 TX3 10, w ∈ wsX3_powerStays := by decide +kernel
  have hf_tally : Cond.fieldLink RX3 9 "ParityRow" (TX3 4).2.1 (TX3 4).2.2.1 ∈ wsX3_powerStays := by decide +kernel
  have hf_writesToCut : Cond.fieldLink RX3 20 "ParityRow" (TX3 7).2.1 (TX3 7).2.2.1 ∈ wsX3_powerStays := by decide +kernel
  have hf_down : Cond.fieldLink RX3 16 "ParityRow" (TX3 6).2.1 (TX3 6).2.2.1 ∈ wsX3_powerStays := by decide +kernel
  have hf_nextScrub : Cond.fieldLink RX3 27 "ParityRow" (TX3 9).2.1 (TX3 9).2.2.1 ∈ wsX3_powerStays := by decide +kernel
  have hf_width : Cond.fieldLink RX3 36 "ParityRow" (TX3 0).2.1 (TX3 0).2.2.1 ∈ wsX3_powerStays := by decide +kernel
  have hf_disks : Cond.fieldLink RX3 44 "ParityRow" (TX3 2).2.1 (TX3 2).2.2.1 ∈ wsX3_powerStays := by decide +kernel
  have hlo := hY.lo
  have hhi := hY.hi
  refine vv_loc (L' := [(0, .ref (Y.2.1 (0)))]) rfl ?_
  refine vv_aload_n (q := 1) hC dX3_powerStays_0 (x := Y.2.1 (0)) rfl rfl ?_
  refine pc_gP (q := 4) hY hC 4 hi_X3 hf_tally (by decide) rfl (v := .ref (Y.2.1 (4))) rfl dX3_powerStays_1 rfl ?_
  refine vv_iconst (q := 5) hC (nI 0) dX3_powerStays_4 (by decide) rfl ?_
  refine vv_dup2 (q := 6) hC dX3_powerStays_5 rfl rfl rfl ?_
  refine pc_ld_tally (q := 7) hY hC (i := 0) (by omega) dX3_powerStays_6 rfl ?_
  refine vv_iconst (q := 8) hC (nI 1) dX3_powerStays_7 (by decide) rfl ?_
  refine vv_iadd (x := σ 4 0) (y := nI (1)) (q := 9) hC dX3_powerStays_8 rfl ?_
  refine pc_st_tally (q := 10) hY hC (i := 0) (x := (σ 4 0) + (nI (1))) (by omega) dX3_powerStays_9 rfl ?_
  refine vv_st (σ' := pc_tl σ 0) (rfl) ?_
  refine vv_aload_n (q := 11) hC dX3_powerStays_10 (x := Y.2.1 (0)) rfl rfl ?_
  refine pc_gP (q := 14) hY hC 7 hi_X3 hf_writesToCut (by decide) rfl (v := .int ((pc_tl σ 0) 0 7)) rfl dX3_powerStays_11 rfl ?_
  refine vv_top (y := σ 0 7) (rfl) ?_
  refine vv_if_eq (x := σ 0 7) (q := 17) (tgt := 40) hC dX3_powerStays_14 (by decide) rfl (fun c_14 => ?_) (fun c_14 => ?_)
  · refine vv_aload_n (q := 41) hC dX3_powerStays_40 (x := Y.2.1 (0)) rfl rfl ?_
    refine vv_iconst (q := 42) hC ((-1)) dX3_powerStays_41 (by decide) rfl ?_
    refine pc_pP (q := 45) hY hC 7 hi_X3 hf_writesToCut (by decide) rfl rfl (x := (-1)) (ty := .int) (by decide +kernel) rfl rfl (fun _ => rfl) dX3_powerStays_42 rfl ?_
    refine vv_aload_n (q := 46) hC dX3_powerStays_45 (x := Y.2.1 (0)) rfl rfl ?_
    refine vv_iconst (q := 47) hC (nI 1) dX3_powerStays_46 (by decide) rfl ?_
    refine pc_pP (q := 50) hY hC 6 hi_X3 hf_down (by decide) rfl rfl (x := nI (1)) (ty := .boolean) (by decide +kernel) rfl rfl (fun _ => rfl) dX3_powerStays_47 rfl ?_
    refine vv_aload_n (q := 51) hC dX3_powerStays_50 (x := Y.2.1 (0)) rfl rfl ?_
    refine vv_iconst (q := 52) hC (nI 0) dX3_powerStays_51 (by decide) rfl ?_
    refine pc_pP (q := 55) hY hC 9 hi_X3 hf_nextScrub (by decide) rfl rfl (x := nI (0)) (ty := .int) (by decide +kernel) rfl rfl (fun _ => rfl) dX3_powerStays_52 rfl ?_
    refine vv_st (σ' := pc_cutS σ) (rfl) ?_
    refine vv_iconst (q := 56) hC (nI 0) dX3_powerStays_55 (by decide) rfl ?_
    refine vv_istore_n (L' := [(0, .ref (Y.2.1 (0))), (1, .int (nI (0)))]) (q := 57) hC dX3_powerStays_56 (by decide) rfl rfl rfl ?_
    have lp_57 : ∀ m : Nat, (m ≤ n) → vv_V Y 2 Z (pc_fb (pc_cutS σ) m) 57 [(0, .ref (Y.2.1 (0))), (1, .int (nI (m)))] [] := by
      refine vv_ind (fun m => n - m) (fun m ih_57 => ?_)
      intro hm
      refine vv_iload_n (q := 58) hC dX3_powerStays_57 (x := nI (m)) rfl rfl ?_
      refine vv_aload_n (q := 59) hC dX3_powerStays_58 (x := Y.2.1 (0)) rfl rfl ?_
      refine pc_gP (q := 62) hY hC 0 hi_X3 hf_width (by decide) rfl (v := .int (nI (n))) rfl dX3_powerStays_59 rfl ?_
      refine vv_icmpN_ge (x := m) (y := n) (q := 65) (tgt := 80) hC dX3_powerStays_62 (by decide) (by omega) (by omega) rfl (fun c_62 => ?_) (fun c_62 => ?_)
      · refine vv_iconst (q := 81) hC (nI 0) dX3_powerStays_80 (by decide) rfl ?_
        refine vv_zret (v := nI (0)) hC (by first | rfl | decide) dX3_powerStays_81 ?_
        rw [hp]
        have em : m = n := by omega
        subst em
        exact ⟨congrArg (fun z => some (Value.int z)) (vv_B0 (fun h => h c_14)).symm, by unfold pc_pw; rw [if_pos c_14]⟩
      · refine vv_aload_n (q := 66) hC dX3_powerStays_65 (x := Y.2.1 (0)) rfl rfl ?_
        refine pc_gP (q := 69) hY hC 2 hi_X3 hf_disks (by decide) rfl (v := .ref (Y.2.1 (1))) rfl dX3_powerStays_66 rfl ?_
        refine vv_iload_n (q := 70) hC dX3_powerStays_69 (x := nI (m)) rfl rfl ?_
        refine pc_ld_disks (q := 71) (m := m) hY hC (by omega) dX3_powerStays_70 rfl ?_
        refine vv_callVN (n := 0) (k := pc_d m) (As := []) (st := []) (q := 74) hC (hY.kd (j := 0) (by omega) (by decide)) (hY.D _) (by rw [hY.cl]; rfl) (cm_X0_forgetBuilding _ Y n hY (pc_fb (pc_cutS σ) m) m (by omega)) gX3_powerStays_X0_forgetBuilding_n224 rfl (hY.nw nw_X3_224) (by decide +kernel) (by decide +kernel) (by decide +kernel) (by decide +kernel) dX3_powerStays_71 rfl rfl rfl (vv_kRv ?_)
        refine vv_iincN (x := m) (L' := [(0, .ref (Y.2.1 (0))), (1, .int (nI (m + 1)))]) (q := 77) hC dX3_powerStays_74 rfl (by decide) rfl rfl rfl ?_
        refine vv_goto (tgt := 57) hC dX3_powerStays_77 (by decide) ?_
        exact ih_57 (m + 1) (by first | omega | (dsimp only; omega))  (by omega)
    exact lp_57 0 (by omega)
  · refine vv_aload_n (q := 18) hC dX3_powerStays_17 (x := Y.2.1 (0)) rfl rfl ?_
    refine vv_aload_n (q := 19) hC dX3_powerStays_18 (x := Y.2.1 (0)) rfl rfl ?_
    refine pc_gP (q := 22) hY hC 7 hi_X3 hf_writesToCut (by decide) rfl (v := .int ((pc_tl σ 0) 0 7)) rfl dX3_powerStays_19 rfl ?_
    refine vv_top (y := σ 0 7) (rfl) ?_
    refine vv_if_ge (x := σ 0 7) (q := 25) (tgt := 29) hC dX3_powerStays_22 (by decide) rfl (fun c_22 => ?_) (fun c_22 => ?_)
    · refine vv_aload_n (q := 30) hC dX3_powerStays_29 (x := Y.2.1 (0)) rfl rfl ?_
      refine pc_gP (q := 33) hY hC 7 hi_X3 hf_writesToCut (by decide) rfl (v := .int ((pc_tl σ 0) 0 7)) rfl dX3_powerStays_30 rfl ?_
      refine vv_top (y := σ 0 7) (rfl) ?_
      refine vv_iconst (q := 34) hC (nI 1) dX3_powerStays_33 (by decide) rfl ?_
      refine vv_isub (x := σ 0 7) (y := nI (1)) (q := 35) hC dX3_powerStays_34 rfl ?_
      refine pc_pP (q := 38) hY hC 7 hi_X3 hf_writesToCut (by decide) rfl rfl (x := (σ 0 7) - (nI (1))) (ty := .int) (by decide +kernel) rfl rfl (fun _ => rfl) dX3_powerStays_35 rfl ?_
      refine vv_iconst (q := 39) hC (nI 1) dX3_powerStays_38 (by decide) rfl ?_
      refine vv_zret (v := nI (1)) hC (by first | rfl | decide) dX3_powerStays_39 ?_
      rw [hp]
      exact ⟨congrArg (fun z => some (Value.int z)) (vv_B1 c_14).symm, by unfold pc_pw; rw [if_neg c_14, if_pos c_22]⟩
    · refine vv_iconst (q := 26) hC ((-1)) dX3_powerStays_25 (by decide) rfl ?_
      refine vv_goto (tgt := 35) hC dX3_powerStays_26 (by decide) ?_
      refine pc_pP (q := 38) hY hC 7 hi_X3 hf_writesToCut (by decide) rfl rfl (x := (-1)) (ty := .int) (by decide +kernel) rfl rfl (fun _ => rfl) dX3_powerStays_35 rfl ?_
      refine vv_iconst (q := 39) hC (nI 1) dX3_powerStays_38 (by decide) rfl ?_
      refine vv_zret (v := nI (1)) hC (by first | rfl | decide) dX3_powerStays_39 ?_
      rw [hp]
      exact ⟨congrArg (fun z => some (Value.int z)) (vv_B1 c_14).symm, by unfold pc_pw; rw [if_neg c_14, if_neg c_22]⟩
set_option maxRecDepth 100000 in
set_option maxHeartbeats 4000000 in
theorem cm_X3_putChunk (l : Launch) (Y : vv_Y) (n : Nat) (hY : pc_sys Y n) (σ : vv_S) (m : Nat) (s : Nat) (k : Nat) (b : Nat) (hm : m < n) (hs : s < 24) (hk : pc_rw n k) (hb : b + 8 ≤ pc_len n k) (hkm : k = 5 ∨ (6 ≤ k ∧ k < 28)) : vv_M l Y yX3_putChunk wsX3_putChunk { frames := 2, cells := 0, slots := 0, locals := 48 } [.ref (Y.2.1 (0)), .int (nI (m)), .int (nI (s)), .ref (Y.2.1 (k)), .int (nI (b))] σ (vv_R (.int (vv_B (¬ σ 0 7 = 0))) (pc_pch σ n m s k b)) := by
  refine vv_M.of (cc := cX3_putChunk) (maxL := 6) (ret := (some .boolean)) hY.ok (by decide) rfl (Nat.le_of_ble_eq_true rfl) ?_
  intro Z hl hp hC
  subst hl
  have hi_X3 : ∀ w ∈ u_ws RX3 TX3 10, w ∈ wsX3_putChunk := by decide +kernel
  have hf_disks : Cond.fieldLink RX3 44 "ParityRow" (TX3 2).2.1 (TX3 2).2.2.1 ∈ wsX3_putChunk := by decide +kernel
  have hf_tear : Cond.fieldLink RX3 24 "ParityRow" (TX3 8).2.1 (TX3 8).2.2.1 ∈ wsX3_putChunk := by decide +kernel
  have hlo := hY.lo
  have hhi := hY.hi
  refine vv_loc (L' := [(0, .ref (Y.2.1 (0))), (1, .int (nI (m))), (2, .int (nI (s))), (3, .ref (Y.2.1 (k))), (4, .int (nI (b)))]) rfl ?_
  refine vv_aload_n (q := 1) hC dX3_putChunk_0 (x := Y.2.1 (0)) rfl rfl ?_
  refine vv_callV (n := 0) (k := 0) (As := []) (st := []) (q := 4) hC (hY.k (by decide)) (hY.P _) (by rw [hY.cl]; rfl) (cm_X3_powerStays _ Y n hY σ  ) gX3_putChunk_X3_powerStays rfl (by decide +kernel) dX3_putChunk_1 rfl rfl rfl (vv_kR ?_)
  refine vv_istore (L' := [(0, .ref (Y.2.1 (0))), (1, .int (nI (m))), (2, .int (nI (s))), (3, .ref (Y.2.1 (k))), (4, .int (nI (b))), (5, .int (vv_B (¬ σ 0 7 = 0)))]) (q := 6) hC dX3_putChunk_4 (by decide) rfl rfl rfl ?_
  refine vv_aload_n (q := 7) hC dX3_putChunk_6 (x := Y.2.1 (0)) rfl rfl ?_
  refine pc_gP (q := 10) hY hC 2 hi_X3 hf_disks (by decide) rfl (v := .ref (Y.2.1 (1))) rfl dX3_putChunk_7 rfl ?_
  refine vv_iload_n (q := 11) hC dX3_putChunk_10 (x := nI (m)) rfl rfl ?_
  refine pc_ld_disks (q := 12) (m := m) hY hC (by omega) dX3_putChunk_11 rfl ?_
  refine vv_iload_n (q := 13) hC dX3_putChunk_12 (x := nI (s)) rfl rfl ?_
  refine vv_aload_n (q := 14) hC dX3_putChunk_13 (x := Y.2.1 (k)) rfl rfl ?_
  refine vv_iload (q := 16) hC dX3_putChunk_14 (x := nI (b)) rfl rfl ?_
  refine vv_iload (q := 18) hC dX3_putChunk_16 (x := vv_B (¬ σ 0 7 = 0)) rfl rfl ?_
  refine vv_ifB_eq (b := ¬ σ 0 7 = 0) (q := 21) (tgt := 26) hC dX3_putChunk_18 (by decide) rfl (fun c_18 => ?_) (fun c_18 => ?_)
  · refine vv_aload_n (q := 27) hC dX3_putChunk_26 (x := Y.2.1 (0)) rfl rfl ?_
    refine pc_gP (q := 30) hY hC 8 hi_X3 hf_tear (by decide) rfl (v := .int ((pc_pw σ n) 0 8)) rfl dX3_putChunk_27 rfl ?_
    refine vv_callVN (n := 4) (k := pc_d m) (As := [.int (nI (s)), .ref (Y.2.1 (k)), .int (nI (b)), .int ((pc_pw σ n) 0 8)]) (st := []) (q := 33) hC (hY.kd (j := 0) (by omega) (by decide)) (hY.D _) (by rw [hY.cl]; rfl) (cm_X0_take _ Y n hY (pc_pw σ n) m s k b ((pc_pw σ n) 0 8) (by omega) (by omega) hk hb hkm) gX3_putChunk_X0_take_n230 rfl (hY.nw nw_X3_230) (by decide +kernel) (by decide +kernel) (by decide +kernel) (by decide +kernel) dX3_putChunk_30 rfl rfl rfl (vv_kRv ?_)
    refine vv_iload (q := 35) hC dX3_putChunk_33 (x := vv_B (¬ σ 0 7 = 0)) rfl rfl ?_
    refine vv_zret (v := vv_B (¬ σ 0 7 = 0)) hC vv_narB dX3_putChunk_35 ?_
    rw [hp]
    exact ⟨rfl, by unfold pc_pch; rw [if_pos (Decidable.of_not_not c_18)]⟩
  · refine vv_bipush (q := 23) hC (nI 9) dX3_putChunk_21 (by decide) rfl ?_
    refine vv_goto (tgt := 30) hC dX3_putChunk_23 (by decide) ?_
    refine vv_callVN (n := 4) (k := pc_d m) (As := [.int (nI (s)), .ref (Y.2.1 (k)), .int (nI (b)), .int (nI (9))]) (st := []) (q := 33) hC (hY.kd (j := 0) (by omega) (by decide)) (hY.D _) (by rw [hY.cl]; rfl) (cm_X0_take _ Y n hY (pc_pw σ n) m s k b (nI (9)) (by omega) (by omega) hk hb hkm) gX3_putChunk_X0_take_n230 rfl (hY.nw nw_X3_230) (by decide +kernel) (by decide +kernel) (by decide +kernel) (by decide +kernel) dX3_putChunk_30 rfl rfl rfl (vv_kRv ?_)
    refine vv_iload (q := 35) hC dX3_putChunk_33 (x := vv_B (¬ σ 0 7 = 0)) rfl rfl ?_
    refine vv_zret (v := vv_B (¬ σ 0 7 = 0)) hC vv_narB dX3_putChunk_35 ?_
    rw [hp]
    exact ⟨rfl, by unfold pc_pch; rw [if_neg c_18]⟩
set_option maxRecDepth 100000 in
set_option maxHeartbeats 4000000 in
theorem cm_X3_putCells (l : Launch) (Y : vv_Y) (n : Nat) (hY : pc_sys Y n) (σ : vv_S) (c : Nat) (hc : c < 100) : vv_M l Y yX3_putCells wsX3_putCells { frames := 2, cells := 0, slots := 0, locals := 41 } [.ref (Y.2.1 (0)), .int (nI (c))] σ (vv_R (.int (vv_B ((pc_pcs n c σ).1 = true))) ((pc_pcs n c σ).2)) := by
  refine vv_M.of (cc := cX3_putCells) (maxL := 3) (ret := (some .boolean)) hY.ok (by decide) rfl (Nat.le_of_ble_eq_true rfl) ?_
  intro Z hl hp hC
  subst hl
  have hi_X3 : ∀ w ∈ u_ws RX3 TX3 10, w ∈ wsX3_putCells := by decide +kernel
  have hf_tally : Cond.fieldLink RX3 9 "ParityRow" (TX3 4).2.1 (TX3 4).2.2.1 ∈ wsX3_putCells := by decide +kernel
  have hlo := hY.lo
  have hhi := hY.hi
  refine vv_loc (L' := [(0, .ref (Y.2.1 (0))), (1, .int (nI (c)))]) rfl ?_
  refine vv_iconst (q := 1) hC (nI 0) dX3_putCells_0 (by decide) rfl ?_
  refine vv_istore_n (L' := [(0, .ref (Y.2.1 (0))), (1, .int (nI (c))), (2, .int (nI (0)))]) (q := 2) hC dX3_putCells_1 (by decide) rfl rfl rfl ?_
  have lp_2 : ∀ k : Nat, ∀ τ : vv_S, (k ≤ c) → (pc_pcs n c σ = pc_pcs n (c - k) τ) → vv_V Y 3 Z τ 2 [(0, .ref (Y.2.1 (0))), (1, .int (nI (c))), (2, .int (nI (k)))] [] := by
    refine vv_ind (fun k => c - k) (fun k ih_2 => ?_)
    intro τ hk hv
    refine vv_iload_n (q := 3) hC dX3_putCells_2 (x := nI (k)) rfl rfl ?_
    refine vv_iload_n (q := 4) hC dX3_putCells_3 (x := nI (c)) rfl rfl ?_
    refine vv_icmpN_ge (x := k) (y := c) (q := 7) (tgt := 32) hC dX3_putCells_4 (by decide) (by omega) (by omega) rfl (fun c_4 => ?_) (fun c_4 => ?_)
    · refine vv_iconst (q := 33) hC (nI 1) dX3_putCells_32 (by decide) rfl ?_
      refine vv_zret (v := nI (1)) hC (by first | rfl | decide) dX3_putCells_33 ?_
      rw [hp]
      rw [hv, show c - k = 0 by omega]
      exact ⟨congrArg (fun z => some (Value.int z)) (vv_B1 rfl).symm, rfl⟩
    · refine vv_aload_n (q := 8) hC dX3_putCells_7 (x := Y.2.1 (0)) rfl rfl ?_
      refine pc_gP (q := 11) hY hC 4 hi_X3 hf_tally (by decide) rfl (v := .ref (Y.2.1 (4))) rfl dX3_putCells_8 rfl ?_
      refine vv_iconst (q := 12) hC (nI 1) dX3_putCells_11 (by decide) rfl ?_
      refine vv_dup2 (q := 13) hC dX3_putCells_12 rfl rfl rfl ?_
      refine pc_ld_tally (q := 14) hY hC (i := 1) (by omega) dX3_putCells_13 rfl ?_
      refine vv_iconst (q := 15) hC (nI 1) dX3_putCells_14 (by decide) rfl ?_
      refine vv_iadd (x := τ 4 1) (y := nI (1)) (q := 16) hC dX3_putCells_15 rfl ?_
      refine pc_st_tally (q := 17) hY hC (i := 1) (x := (τ 4 1) + (nI (1))) (by omega) dX3_putCells_16 rfl ?_
      refine vv_st (σ' := pc_tl τ 1) (rfl) ?_
      refine vv_aload_n (q := 18) hC dX3_putCells_17 (x := Y.2.1 (0)) rfl rfl ?_
      refine vv_callV (n := 0) (k := 0) (As := []) (st := []) (q := 21) hC (hY.k (by decide)) (hY.P _) (by rw [hY.cl]; rfl) (cm_X3_powerStays _ Y n hY (pc_tl τ 1)  ) gX3_putCells_X3_powerStays rfl (by decide +kernel) dX3_putCells_18 rfl rfl rfl (vv_kR ?_)
      refine vv_ifB_ne (b := ¬ (pc_tl τ 1) 0 7 = 0) (q := 24) (tgt := 26) hC dX3_putCells_21 (by decide) rfl (fun c_21 => ?_) (fun c_21 => ?_)
      · refine vv_iincN (x := k) (L' := [(0, .ref (Y.2.1 (0))), (1, .int (nI (c))), (2, .int (nI (k + 1)))]) (q := 29) hC dX3_putCells_26 rfl (by decide) rfl rfl rfl ?_
        refine vv_goto (tgt := 2) hC dX3_putCells_29 (by decide) ?_
        exact ih_2 (k + 1) (by first | omega | (dsimp only; omega)) (pc_pw (pc_tl τ 1) n) (by omega) (by rw [hv, show c - k = (c - (k + 1)) + 1 by omega]; exact if_neg c_21)
      · refine vv_iconst (q := 25) hC (nI 0) dX3_putCells_24 (by decide) rfl ?_
        refine vv_zret (v := nI (0)) hC (by first | rfl | decide) dX3_putCells_25 ?_
        rw [hp]
        rw [hv, show c - k = (c - (k + 1)) + 1 by omega, show pc_pcs n (c - (k + 1) + 1) τ = _ from if_pos (Decidable.of_not_not c_21)]
        exact ⟨congrArg (fun z => some (Value.int z)) (vv_B0 (fun h => by cases h)).symm, rfl⟩
  exact lp_2 0 σ (by omega) rfl
set_option maxRecDepth 100000 in
set_option maxHeartbeats 4000000 in
theorem cm_X3_putMark (l : Launch) (Y : vv_Y) (n : Nat) (hY : pc_sys Y n) (σ : vv_S) (o : Nat) (r : Nat) (q : Nat) (ho : σ 2 1 = nI o) (ho11 : o < 11) (hr : σ 2 2 = nI r) (hr10 : r ≤ 10) (hq9 : q ≤ r) : vv_M l Y yX3_putMark wsX3_putMark { frames := 3, cells := 0, slots := 0, locals := 63 } [.ref (Y.2.1 (0)), .int (nI (q))] σ (vv_R (.int (vv_B (¬ σ 0 7 = 0))) (pc_pmk σ n o r q)) := by
  refine vv_M.of (cc := cX3_putMark) (maxL := 2) (ret := (some .boolean)) hY.ok (by decide) rfl (Nat.le_of_ble_eq_true rfl) ?_
  intro Z hl hp hC
  subst hl
  have hi_X3 : ∀ w ∈ u_ws RX3 TX3 10, w ∈ wsX3_putMark := by decide +kernel
  have hf_tally : Cond.fieldLink RX3 9 "ParityRow" (TX3 4).2.1 (TX3 4).2.2.1 ∈ wsX3_putMark := by decide +kernel
  have hf_log : Cond.fieldLink RX3 54 "ParityRow" (TX3 3).2.1 (TX3 3).2.2.1 ∈ wsX3_putMark := by decide +kernel
  have hlo := hY.lo
  have hhi := hY.hi
  refine vv_loc (L' := [(0, .ref (Y.2.1 (0))), (1, .int (nI (q)))]) rfl ?_
  refine vv_aload_n (q := 1) hC dX3_putMark_0 (x := Y.2.1 (0)) rfl rfl ?_
  refine pc_gP (q := 4) hY hC 4 hi_X3 hf_tally (by decide) rfl (v := .ref (Y.2.1 (4))) rfl dX3_putMark_1 rfl ?_
  refine vv_iconst (q := 5) hC (nI 2) dX3_putMark_4 (by decide) rfl ?_
  refine vv_dup2 (q := 6) hC dX3_putMark_5 rfl rfl rfl ?_
  refine pc_ld_tally (q := 7) hY hC (i := 2) (by omega) dX3_putMark_6 rfl ?_
  refine vv_iconst (q := 8) hC (nI 1) dX3_putMark_7 (by decide) rfl ?_
  refine vv_iadd (x := σ 4 2) (y := nI (1)) (q := 9) hC dX3_putMark_8 rfl ?_
  refine pc_st_tally (q := 10) hY hC (i := 2) (x := (σ 4 2) + (nI (1))) (by omega) dX3_putMark_9 rfl ?_
  refine vv_st (σ' := pc_tl σ 2) (rfl) ?_
  refine vv_aload_n (q := 11) hC dX3_putMark_10 (x := Y.2.1 (0)) rfl rfl ?_
  refine vv_callV (n := 0) (k := 0) (As := []) (st := []) (q := 14) hC (hY.k (by decide)) (hY.P _) (by rw [hY.cl]; rfl) (cm_X3_powerStays _ Y n hY (pc_tl σ 2)  ) gX3_putMark_X3_powerStays rfl (by decide +kernel) dX3_putMark_11 rfl rfl rfl (vv_kR ?_)
  refine vv_ifB_ne (b := ¬ (pc_tl σ 2) 0 7 = 0) (q := 17) (tgt := 19) hC dX3_putMark_14 (by decide) rfl (fun c_14 => ?_) (fun c_14 => ?_)
  · refine vv_aload_n (q := 20) hC dX3_putMark_19 (x := Y.2.1 (0)) rfl rfl ?_
    refine pc_gP (q := 23) hY hC 3 hi_X3 hf_log (by decide) rfl (v := .ref (Y.2.1 (2))) rfl dX3_putMark_20 rfl ?_
    refine vv_iload_n (q := 24) hC dX3_putMark_23 (x := nI (q)) rfl rfl ?_
    refine vv_callVN (n := 1) (k := 2) (As := [.int (nI (q))]) (st := []) (q := 27) hC (hY.k (by decide)) (hY.J _) (by rw [hY.cl]; rfl) (cm_X2_free _ Y n hY (pc_pw (pc_tl σ 2) n) o r q (by rw [pc_pw_o (by decide) (by decide) (by decide), pc_tl_o (by decide)]; exact ho) ho11 (by rw [pc_pw_o (by decide) (by decide) (by decide), pc_tl_o (by decide)]; exact hr) hr10 hq9) gX3_putMark_X2_free_n234 rfl (hY.nw nw_X3_234) (by decide +kernel) (by decide +kernel) (by decide +kernel) (by decide +kernel) dX3_putMark_24 rfl rfl rfl (vv_kRv ?_)
    refine vv_iconst (q := 28) hC (nI 1) dX3_putMark_27 (by decide) rfl ?_
    refine vv_zret (v := nI (1)) hC (by first | rfl | decide) dX3_putMark_28 ?_
    rw [hp]
    exact ⟨congrArg (fun z => some (Value.int z)) (vv_B1 c_14).symm, by unfold pc_pmk; rw [if_neg (show ¬ σ 0 7 = 0 from c_14)]⟩
  · refine vv_iconst (q := 18) hC (nI 0) dX3_putMark_17 (by decide) rfl ?_
    refine vv_zret (v := nI (0)) hC (by first | rfl | decide) dX3_putMark_18 ?_
    rw [hp]
    exact ⟨congrArg (fun z => some (Value.int z)) (vv_B0 c_14).symm, by unfold pc_pmk; rw [if_pos (show σ 0 7 = 0 from Decidable.of_not_not c_14)]⟩
