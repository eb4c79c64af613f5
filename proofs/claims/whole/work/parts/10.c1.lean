set_option maxRecDepth 100000 in
set_option maxHeartbeats 4000000 in
theorem cm_X0_isOn (l : Launch) (Y : vv_Y) (n : Nat) (hY : pc_sys Y n) (σ : vv_S) (m : Nat) (s : Nat) (hm : m < n) (hs : s < 24) : vv_M l Y yX0_isOn wsX0_isOn { frames := 0, cells := 0, slots := 0, locals := 0 } [.ref (Y.2.1 (pc_d m)), .int (nI (s))] σ (vv_R (.int (vv_B (nI s < σ (pc_d m) 4))) σ) := by
  refine vv_M.of (cc := cX0_isOn) (maxL := 2) (ret := (some .boolean)) hY.ok (by decide) rfl (Nat.le_of_ble_eq_true rfl) ?_
  intro Z hl hp hC
  subst hl
  have hi_X0 : ∀ w ∈ u_ws RX0 TX0 6, w ∈ wsX0_isOn := by decide +kernel
  have hf_built : Cond.fieldLink RX0 26 "ParityRow$Disk" (TX0 4).2.1 (TX0 4).2.2.1 ∈ wsX0_isOn := by decide +kernel
  have hlo := hY.lo
  have hhi := hY.hi
  refine vv_loc (L' := [(0, .ref (Y.2.1 (pc_d m))), (1, .int (nI (s)))]) rfl ?_
  refine vv_iload_n (q := 1) hC dX0_isOn_0 (x := nI (s)) rfl rfl ?_
  refine vv_aload_n (q := 2) hC dX0_isOn_1 (x := Y.2.1 (pc_d m)) rfl rfl ?_
  refine pc_gD (q := 5) hY hC (by omega) 4 hi_X0 hf_built (by decide) rfl (v := .int (σ (pc_d m) 4)) rfl dX0_isOn_2 rfl ?_
  refine vv_icmp_ge (x := nI (s)) (y := σ (pc_d m) 4) (q := 8) (tgt := 12) hC dX0_isOn_5 (by decide) rfl (fun c_5 => ?_) (fun c_5 => ?_)
  · refine vv_iconst (q := 13) hC (nI 0) dX0_isOn_12 (by decide) rfl ?_
    refine vv_zret (v := nI (0)) hC (by first | rfl | decide) dX0_isOn_13 ?_
    rw [hp]
    exact ⟨congrArg (fun z => some (Value.int z)) (vv_B0 (by grind)).symm, rfl⟩
  · refine vv_iconst (q := 9) hC (nI 1) dX0_isOn_8 (by decide) rfl ?_
    refine vv_goto (tgt := 13) hC dX0_isOn_9 (by decide) ?_
    refine vv_zret (v := nI (1)) hC (by first | rfl | decide) dX0_isOn_13 ?_
    rw [hp]
    exact ⟨congrArg (fun z => some (Value.int z)) (vv_B1 (by grind)).symm, rfl⟩
set_option maxRecDepth 100000 in
set_option maxHeartbeats 4000000 in
theorem cm_X0_sumOf (l : Launch) (Y : vv_Y) (n : Nat) (hY : pc_sys Y n) (σ : vv_S) (k : Nat) (b : Nat) (hk : pc_rw n k) (hb : b + 8 ≤ pc_len n k) : vv_M l Y yX0_sumOf wsX0_sumOf { frames := 0, cells := 0, slots := 0, locals := 0 } [.ref (Y.2.1 (k)), .int (nI (b))] σ (vv_R (.int (pc_sum (σ k) b 8)) σ) := by
  refine vv_M.of (cc := cX0_sumOf) (maxL := 4) (ret := (some .int)) hY.ok (by decide) rfl (Nat.le_of_ble_eq_true rfl) ?_
  intro Z hl hp hC
  subst hl
  have hlo := hY.lo
  have hhi := hY.hi
  have hlen := pc_len_lt (k := k) hY.hi
  refine vv_loc (L' := [(0, .ref (Y.2.1 (k))), (1, .int (nI (b)))]) rfl ?_
  refine vv_iconst (q := 1) hC (nI 0) dX0_sumOf_0 (by decide) rfl ?_
  refine vv_istore_n (L' := [(0, .ref (Y.2.1 (k))), (1, .int (nI (b))), (2, .int (nI (0)))]) (q := 2) hC dX0_sumOf_1 (by decide) rfl rfl rfl ?_
  refine vv_iconst (q := 3) hC (nI 0) dX0_sumOf_2 (by decide) rfl ?_
  refine vv_istore_n (L' := [(0, .ref (Y.2.1 (k))), (1, .int (nI (b))), (2, .int (nI (0))), (3, .int (nI (0)))]) (q := 4) hC dX0_sumOf_3 (by decide) rfl rfl rfl ?_
  have lp_4 : ∀ i : Nat, (i ≤ 8) → vv_V Y 4 Z σ 4 [(0, .ref (Y.2.1 (k))), (1, .int (nI (b))), (2, .int (pc_sum (σ k) b i)), (3, .int (nI (i)))] [] := by
    refine vv_ind (fun i => 8 - i) (fun i ih_4 => ?_)
    intro hi8
    refine vv_iload_n (q := 5) hC dX0_sumOf_4 (x := nI (i)) rfl rfl ?_
    refine vv_bipush (q := 7) hC (nI 8) dX0_sumOf_5 (by decide) rfl ?_
    refine vv_icmpN_ge (x := i) (y := 8) (q := 10) (tgt := 30) hC dX0_sumOf_7 (by decide) (by omega) (by omega) rfl (fun c_7 => ?_) (fun c_7 => ?_)
    · refine vv_iload_n (q := 31) hC dX0_sumOf_30 (x := pc_sum (σ k) b i) rfl rfl ?_
      refine vv_iret (v := pc_sum (σ k) b i) hC dX0_sumOf_31 ?_
      rw [hp]
      have e8 : i = 8 := by omega
      subst e8
      exact ⟨rfl, rfl⟩
    · refine vv_iload_n (q := 11) hC dX0_sumOf_10 (x := pc_sum (σ k) b i) rfl rfl ?_
      refine vv_aload_n (q := 12) hC dX0_sumOf_11 (x := Y.2.1 (k)) rfl rfl ?_
      refine vv_iload_n (q := 13) hC dX0_sumOf_12 (x := nI (b)) rfl rfl ?_
      refine vv_iload_n (q := 14) hC dX0_sumOf_13 (x := nI (i)) rfl rfl ?_
      refine vv_addN (x := b) (y := i) (q := 15) hC dX0_sumOf_14 rfl ?_
      refine pc_ld_row (q := 16) hY hC hk (i := b + i) (by omega) dX0_sumOf_15 rfl ?_
      refine vv_iconst (q := 17) hC (nI 2) dX0_sumOf_16 (by decide) rfl ?_
      refine vv_iload_n (q := 18) hC dX0_sumOf_17 (x := nI (i)) rfl rfl ?_
      refine vv_mulN (x := 2) (y := i) (q := 19) hC dX0_sumOf_18 rfl ?_
      refine vv_iconst (q := 20) hC (nI 1) dX0_sumOf_19 (by decide) rfl ?_
      refine vv_addN (x := 2 * i) (y := 1) (q := 21) hC dX0_sumOf_20 rfl ?_
      refine vv_imul (x := σ k (b + i)) (y := nI ((2 * i) + 1)) (q := 22) hC dX0_sumOf_21 rfl ?_
      refine vv_iadd (x := pc_sum (σ k) b i) (y := (σ k (b + i)) * (nI ((2 * i) + 1))) (q := 23) hC dX0_sumOf_22 rfl ?_
      refine vv_istore_n (L' := [(0, .ref (Y.2.1 (k))), (1, .int (nI (b))), (2, .int ((pc_sum (σ k) b i) + ((σ k (b + i)) * (nI ((2 * i) + 1))))), (3, .int (nI (i)))]) (q := 24) hC dX0_sumOf_23 (by decide) rfl rfl rfl ?_
      refine vv_iincN (x := i) (L' := [(0, .ref (Y.2.1 (k))), (1, .int (nI (b))), (2, .int ((pc_sum (σ k) b i) + ((σ k (b + i)) * (nI ((2 * i) + 1))))), (3, .int (nI (i + 1)))]) (q := 27) hC dX0_sumOf_24 rfl (by decide) rfl rfl rfl ?_
      refine vv_goto (tgt := 4) hC dX0_sumOf_27 (by decide) ?_
      exact ih_4 (i + 1) (by first | omega | (dsimp only; omega))  (by omega)
  exact lp_4 0 (by omega)
set_option maxRecDepth 100000 in
set_option maxHeartbeats 4000000 in
theorem cm_X3_isBlock (l : Launch) (Y : vv_Y) (n : Nat) (hY : pc_sys Y n) (σ : vv_S) (b : Int32) : vv_M l Y yX3_isBlock wsX3_isBlock { frames := 0, cells := 0, slots := 0, locals := 0 } [.ref (Y.2.1 (0)), .int (b)] σ (vv_R (.int (vv_B (¬ b < 0 ∧ b < nI (24 * (n - 1))))) σ) := by
  refine vv_M.of (cc := cX3_isBlock) (maxL := 2) (ret := (some .boolean)) hY.ok (by decide) rfl (Nat.le_of_ble_eq_true rfl) ?_
  intro Z hl hp hC
  subst hl
  have hi_X3 : ∀ w ∈ u_ws RX3 TX3 10, w ∈ wsX3_isBlock := by decide +kernel
  have hf_data : Cond.fieldLink RX3 39 "ParityRow" (TX3 1).2.1 (TX3 1).2.2.1 ∈ wsX3_isBlock := by decide +kernel
  have hlo := hY.lo
  have hhi := hY.hi
  refine vv_loc (L' := [(0, .ref (Y.2.1 (0))), (1, .int (b))]) rfl ?_
  refine vv_iload_n (q := 1) hC dX3_isBlock_0 (x := b) rfl rfl ?_
  refine vv_if_lt (x := b) (q := 4) (tgt := 19) hC dX3_isBlock_1 (by decide) rfl (fun c_1 => ?_) (fun c_1 => ?_)
  · refine vv_iconst (q := 20) hC (nI 0) dX3_isBlock_19 (by decide) rfl ?_
    refine vv_zret (v := nI (0)) hC (by first | rfl | decide) dX3_isBlock_20 ?_
    rw [hp]
    exact ⟨congrArg (fun z => some (Value.int z)) (vv_B0 (by grind)).symm, rfl⟩
  · refine vv_iload_n (q := 5) hC dX3_isBlock_4 (x := b) rfl rfl ?_
    refine vv_bipush (q := 7) hC (nI 24) dX3_isBlock_5 (by decide) rfl ?_
    refine vv_aload_n (q := 8) hC dX3_isBlock_7 (x := Y.2.1 (0)) rfl rfl ?_
    refine pc_gP (q := 11) hY hC 1 hi_X3 hf_data (by decide) rfl (v := .int (nI (n - 1))) rfl dX3_isBlock_8 rfl ?_
    refine vv_mulN (x := 24) (y := n - 1) (q := 12) hC dX3_isBlock_11 rfl ?_
    refine vv_icmp_ge (x := b) (y := nI (24 * (n - 1))) (q := 15) (tgt := 19) hC dX3_isBlock_12 (by decide) rfl (fun c_12 => ?_) (fun c_12 => ?_)
    · refine vv_iconst (q := 20) hC (nI 0) dX3_isBlock_19 (by decide) rfl ?_
      refine vv_zret (v := nI (0)) hC (by first | rfl | decide) dX3_isBlock_20 ?_
      rw [hp]
      exact ⟨congrArg (fun z => some (Value.int z)) (vv_B0 (by grind)).symm, rfl⟩
    · refine vv_iconst (q := 16) hC (nI 1) dX3_isBlock_15 (by decide) rfl ?_
      refine vv_goto (tgt := 20) hC dX3_isBlock_16 (by decide) ?_
      refine vv_zret (v := nI (1)) hC (by first | rfl | decide) dX3_isBlock_20 ?_
      rw [hp]
      exact ⟨congrArg (fun z => some (Value.int z)) (vv_B1 (by grind)).symm, rfl⟩
set_option maxRecDepth 100000 in
set_option maxHeartbeats 4000000 in
theorem cm_X3_isMember (l : Launch) (Y : vv_Y) (n : Nat) (hY : pc_sys Y n) (σ : vv_S) (b : Int32) : vv_M l Y yX3_isMember wsX3_isMember { frames := 0, cells := 0, slots := 0, locals := 0 } [.ref (Y.2.1 (0)), .int (b)] σ (vv_R (.int (vv_B (¬ b < 0 ∧ b < nI n))) σ) := by
  refine vv_M.of (cc := cX3_isMember) (maxL := 2) (ret := (some .boolean)) hY.ok (by decide) rfl (Nat.le_of_ble_eq_true rfl) ?_
  intro Z hl hp hC
  subst hl
  have hi_X3 : ∀ w ∈ u_ws RX3 TX3 10, w ∈ wsX3_isMember := by decide +kernel
  have hf_width : Cond.fieldLink RX3 36 "ParityRow" (TX3 0).2.1 (TX3 0).2.2.1 ∈ wsX3_isMember := by decide +kernel
  have hlo := hY.lo
  have hhi := hY.hi
  refine vv_loc (L' := [(0, .ref (Y.2.1 (0))), (1, .int (b))]) rfl ?_
  refine vv_iload_n (q := 1) hC dX3_isMember_0 (x := b) rfl rfl ?_
  refine vv_if_lt (x := b) (q := 4) (tgt := 16) hC dX3_isMember_1 (by decide) rfl (fun c_1 => ?_) (fun c_1 => ?_)
  · refine vv_iconst (q := 17) hC (nI 0) dX3_isMember_16 (by decide) rfl ?_
    refine vv_zret (v := nI (0)) hC (by first | rfl | decide) dX3_isMember_17 ?_
    rw [hp]
    exact ⟨congrArg (fun z => some (Value.int z)) (vv_B0 (by grind)).symm, rfl⟩
  · refine vv_iload_n (q := 5) hC dX3_isMember_4 (x := b) rfl rfl ?_
    refine vv_aload_n (q := 6) hC dX3_isMember_5 (x := Y.2.1 (0)) rfl rfl ?_
    refine pc_gP (q := 9) hY hC 0 hi_X3 hf_width (by decide) rfl (v := .int (nI (n))) rfl dX3_isMember_6 rfl ?_
    refine vv_icmp_ge (x := b) (y := nI (n)) (q := 12) (tgt := 16) hC dX3_isMember_9 (by decide) rfl (fun c_9 => ?_) (fun c_9 => ?_)
    · refine vv_iconst (q := 17) hC (nI 0) dX3_isMember_16 (by decide) rfl ?_
      refine vv_zret (v := nI (0)) hC (by first | rfl | decide) dX3_isMember_17 ?_
      rw [hp]
      exact ⟨congrArg (fun z => some (Value.int z)) (vv_B0 (by grind)).symm, rfl⟩
    · refine vv_iconst (q := 13) hC (nI 1) dX3_isMember_12 (by decide) rfl ?_
      refine vv_goto (tgt := 17) hC dX3_isMember_13 (by decide) ?_
      refine vv_zret (v := nI (1)) hC (by first | rfl | decide) dX3_isMember_17 ?_
      rw [hp]
      exact ⟨congrArg (fun z => some (Value.int z)) (vv_B1 (by grind)).symm, rfl⟩
set_option maxRecDepth 100000 in
set_option maxHeartbeats 4000000 in
theorem cm_X3_isStripe (l : Launch) (Y : vv_Y) (n : Nat) (hY : pc_sys Y n) (σ : vv_S) (b : Int32) : vv_M l Y yX3_isStripe wsX3_isStripe { frames := 0, cells := 0, slots := 0, locals := 0 } [.int (b)] σ (vv_R (.int (vv_B (¬ b < 0 ∧ b < nI 24))) σ) := by
  refine vv_M.of (cc := cX3_isStripe) (maxL := 1) (ret := (some .boolean)) hY.ok (by decide) rfl (Nat.le_of_ble_eq_true rfl) ?_
  intro Z hl hp hC
  subst hl
  have hlo := hY.lo
  have hhi := hY.hi
  refine vv_loc (L' := [(0, .int (b))]) rfl ?_
  refine vv_iload_n (q := 1) hC dX3_isStripe_0 (x := b) rfl rfl ?_
  refine vv_if_lt (x := b) (q := 4) (tgt := 14) hC dX3_isStripe_1 (by decide) rfl (fun c_1 => ?_) (fun c_1 => ?_)
  · refine vv_iconst (q := 15) hC (nI 0) dX3_isStripe_14 (by decide) rfl ?_
    refine vv_zret (v := nI (0)) hC (by first | rfl | decide) dX3_isStripe_15 ?_
    rw [hp]
    exact ⟨congrArg (fun z => some (Value.int z)) (vv_B0 (by grind)).symm, rfl⟩
  · refine vv_iload_n (q := 5) hC dX3_isStripe_4 (x := b) rfl rfl ?_
    refine vv_bipush (q := 7) hC (nI 24) dX3_isStripe_5 (by decide) rfl ?_
    refine vv_icmp_ge (x := b) (y := nI (24)) (q := 10) (tgt := 14) hC dX3_isStripe_7 (by decide) rfl (fun c_7 => ?_) (fun c_7 => ?_)
    · refine vv_iconst (q := 15) hC (nI 0) dX3_isStripe_14 (by decide) rfl ?_
      refine vv_zret (v := nI (0)) hC (by first | rfl | decide) dX3_isStripe_15 ?_
      rw [hp]
      exact ⟨congrArg (fun z => some (Value.int z)) (vv_B0 (by grind)).symm, rfl⟩
    · refine vv_iconst (q := 11) hC (nI 1) dX3_isStripe_10 (by decide) rfl ?_
      refine vv_goto (tgt := 15) hC dX3_isStripe_11 (by decide) ?_
      refine vv_zret (v := nI (1)) hC (by first | rfl | decide) dX3_isStripe_15 ?_
      rw [hp]
      exact ⟨congrArg (fun z => some (Value.int z)) (vv_B1 (by grind)).symm, rfl⟩
set_option maxRecDepth 100000 in
set_option maxHeartbeats 4000000 in
theorem cm_X3_parityMember (l : Launch) (Y : vv_Y) (n : Nat) (hY : pc_sys Y n) (σ : vv_S) (s : Nat) (hs : s < 24) : vv_M l Y yX3_parityMember wsX3_parityMember { frames := 0, cells := 0, slots := 0, locals := 0 } [.ref (Y.2.1 (0)), .int (nI (s))] σ (vv_R (.int (nI (pc_pm n s))) σ) := by
  refine vv_M.of (cc := cX3_parityMember) (maxL := 2) (ret := (some .int)) hY.ok (by decide) rfl (Nat.le_of_ble_eq_true rfl) ?_
  intro Z hl hp hC
  subst hl
  have hi_X3 : ∀ w ∈ u_ws RX3 TX3 10, w ∈ wsX3_parityMember := by decide +kernel
  have hf_width : Cond.fieldLink RX3 36 "ParityRow" (TX3 0).2.1 (TX3 0).2.2.1 ∈ wsX3_parityMember := by decide +kernel
  have hlo := hY.lo
  have hhi := hY.hi
  refine vv_loc (L' := [(0, .ref (Y.2.1 (0))), (1, .int (nI (s)))]) rfl ?_
  refine vv_aload_n (q := 1) hC dX3_parityMember_0 (x := Y.2.1 (0)) rfl rfl ?_
  refine pc_gP (q := 4) hY hC 0 hi_X3 hf_width (by decide) rfl (v := .int (nI (n))) rfl dX3_parityMember_1 rfl ?_
  refine vv_iconst (q := 5) hC (nI 1) dX3_parityMember_4 (by decide) rfl ?_
  refine vv_subN (x := n) (y := 1) (q := 6) hC dX3_parityMember_5 (by omega) rfl ?_
  refine vv_iload_n (q := 7) hC dX3_parityMember_6 (x := nI (s)) rfl rfl ?_
  refine vv_aload_n (q := 8) hC dX3_parityMember_7 (x := Y.2.1 (0)) rfl rfl ?_
  refine pc_gP (q := 11) hY hC 0 hi_X3 hf_width (by decide) rfl (v := .int (nI (n))) rfl dX3_parityMember_8 rfl ?_
  refine vv_remN (x := s) (y := n) (q := 12) hC dX3_parityMember_11 (by omega) (by omega) (by omega) rfl ?_
  refine vv_subN (x := n - 1) (y := s % n) (q := 13) hC dX3_parityMember_12 (by have := Nat.mod_lt s (show 0 < n by omega); omega) rfl ?_
  refine vv_iret (v := nI ((n - 1) - (s % n))) hC dX3_parityMember_13 ?_
  rw [hp]
  exact ⟨congrArg (fun z => some (Value.int z)) (by first | rfl | grind), rfl⟩
set_option maxRecDepth 100000 in
set_option maxHeartbeats 4000000 in
theorem cm_X3_memberOf (l : Launch) (Y : vv_Y) (n : Nat) (hY : pc_sys Y n) (σ : vv_S) (s : Nat) (d : Nat) (hs : s < 24) (hd : d < n) : vv_M l Y yX3_memberOf wsX3_memberOf { frames := 1, cells := 0, slots := 0, locals := 21 } [.ref (Y.2.1 (0)), .int (nI (s)), .int (nI (d))] σ (vv_R (.int (nI (pc_mo n s d))) σ) := by
  refine vv_M.of (cc := cX3_memberOf) (maxL := 3) (ret := (some .int)) hY.ok (by decide) rfl (Nat.le_of_ble_eq_true rfl) ?_
  intro Z hl hp hC
  subst hl
  have hi_X3 : ∀ w ∈ u_ws RX3 TX3 10, w ∈ wsX3_memberOf := by decide +kernel
  have hf_width : Cond.fieldLink RX3 36 "ParityRow" (TX3 0).2.1 (TX3 0).2.2.1 ∈ wsX3_memberOf := by decide +kernel
  have hlo := hY.lo
  have hhi := hY.hi
  have hpm := pc_pm_lt (n := n) (s := s) hY.lo
  refine vv_loc (L' := [(0, .ref (Y.2.1 (0))), (1, .int (nI (s))), (2, .int (nI (d)))]) rfl ?_
  refine vv_aload_n (q := 1) hC dX3_memberOf_0 (x := Y.2.1 (0)) rfl rfl ?_
  refine vv_iload_n (q := 2) hC dX3_memberOf_1 (x := nI (s)) rfl rfl ?_
  refine vv_callV (n := 1) (k := 0) (As := [.int (nI (s))]) (st := []) (q := 5) hC (hY.k (by decide)) (hY.P _) (by rw [hY.cl]; rfl) (cm_X3_parityMember _ Y n hY σ s (by omega)) gX3_memberOf_X3_parityMember rfl (by decide +kernel) dX3_memberOf_2 rfl rfl rfl (vv_kR ?_)
  refine vv_iconst (q := 6) hC (nI 1) dX3_memberOf_5 (by decide) rfl ?_
  refine vv_addN (x := pc_pm n s) (y := 1) (q := 7) hC dX3_memberOf_6 rfl ?_
  refine vv_iload_n (q := 8) hC dX3_memberOf_7 (x := nI (d)) rfl rfl ?_
  refine vv_addN (x := (pc_pm n s) + 1) (y := d) (q := 9) hC dX3_memberOf_8 rfl ?_
  refine vv_aload_n (q := 10) hC dX3_memberOf_9 (x := Y.2.1 (0)) rfl rfl ?_
  refine pc_gP (q := 13) hY hC 0 hi_X3 hf_width (by decide) rfl (v := .int (nI (n))) rfl dX3_memberOf_10 rfl ?_
  refine vv_remN (x := ((pc_pm n s) + 1) + d) (y := n) (q := 14) hC dX3_memberOf_13 (by omega) (by omega) (by omega) rfl ?_
  refine vv_iret (v := nI ((((pc_pm n s) + 1) + d) % n)) hC dX3_memberOf_14 ?_
  rw [hp]
  exact ⟨congrArg (fun z => some (Value.int z)) (by first | rfl | grind), rfl⟩
