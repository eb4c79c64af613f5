set_option maxRecDepth 100000 in
set_option maxHeartbeats 4000000 in
theorem cm_X4_thrown (l : Launch) (Y : vv_Y) (n : Nat) (hY : pm_sys Y n) (σ : vv_S) : vv_M l Y yX4_thrown wsX4_thrown { frames := 0, cells := 0, slots := 0, locals := 0 } [.ref (Y.2.1 (0))] σ (vv_R (.int (σ 0 0)) σ) := by
  refine vv_M.of (cc := cX4_thrown) (maxL := 1) (ret := (some .int)) hY.ok (by decide) rfl (Nat.le_of_ble_eq_true rfl) ?_
  intro Z hl hp hC
  subst hl
  have hi_X4 : ∀ w ∈ u_ws RX4 TX4 25, w ∈ wsX4_thrown := by decide +kernel
  have hf_thrown : Cond.fieldLink RX4 1 "ParityRowModel" (TX4 0).2.1 (TX4 0).2.2.1 ∈ wsX4_thrown := by decide +kernel
  have hlo := hY.lo
  have hhi := hY.hi
  refine vv_loc (L' := [(0, .ref (Y.2.1 (0)))]) rfl ?_
  refine vv_aload_n (q := 1) hC dX4_thrown_0 (x := Y.2.1 (0)) rfl rfl ?_
  refine pm_gM (q := 4) hY hC 0 hi_X4 hf_thrown (by decide) rfl (v := .int (σ 0 0)) rfl dX4_thrown_1 rfl ?_
  refine vv_iret (v := σ 0 0) hC dX4_thrown_4 ?_
  rw [hp]
  exact ⟨rfl, rfl⟩
set_option maxRecDepth 100000 in
set_option maxHeartbeats 4000000 in
theorem cm_X4_in (l : Launch) (Y : vv_Y) (n : Nat) (hY : pm_sys Y n) (σ : vv_S) (x : Int64) (a : Int64) (z : Int64) : vv_M l Y yX4_in wsX4_in { frames := 0, cells := 0, slots := 0, locals := 0 } [.long (x), .long (a), .long (z)] σ (vv_R (.int (vv_B (a ≤ x ∧ x ≤ z))) σ) := by
  refine vv_M.of (cc := cX4_in) (maxL := 6) (ret := (some .boolean)) hY.ok (by decide) rfl (Nat.le_of_ble_eq_true rfl) ?_
  intro Z hl hp hC
  subst hl
  have hlo := hY.lo
  have hhi := hY.hi
  refine vv_loc (L' := [(0, .long (x)), (2, .long (a)), (4, .long (z))]) rfl ?_
  refine vv_lload_n (q := 1) hC dX4_in_0 (x := a) rfl rfl ?_
  refine vv_lload_n (q := 2) hC dX4_in_1 (x := x) rfl rfl ?_
  refine vv_lcmp (q := 3) hC dX4_in_2 rfl ?_
  refine vv_lcmp_gt (x := a) (y := x) (q := 6) (tgt := 17) hC dX4_in_3 (by decide) rfl (fun c_3 => ?_) (fun c_3 => ?_)
  · refine vv_iconst (q := 18) hC (nI 0) dX4_in_17 (by decide) rfl ?_
    refine vv_zret (v := nI (0)) hC (by first | rfl | decide) dX4_in_18 ?_
    rw [hp]
    exact ⟨congrArg (fun z => some (Value.int z)) (vv_B0 (fun h => absurd h.1 (Int64.not_le.mpr c_3))).symm, rfl⟩
  · refine vv_lload_n (q := 7) hC dX4_in_6 (x := x) rfl rfl ?_
    refine vv_lload (q := 9) hC dX4_in_7 (x := z) rfl rfl ?_
    refine vv_lcmp (q := 10) hC dX4_in_9 rfl ?_
    refine vv_lcmp_gt (x := x) (y := z) (q := 13) (tgt := 17) hC dX4_in_10 (by decide) rfl (fun c_10 => ?_) (fun c_10 => ?_)
    · refine vv_iconst (q := 18) hC (nI 0) dX4_in_17 (by decide) rfl ?_
      refine vv_zret (v := nI (0)) hC (by first | rfl | decide) dX4_in_18 ?_
      rw [hp]
      exact ⟨congrArg (fun z => some (Value.int z)) (vv_B0 (fun h => absurd h.2 (Int64.not_le.mpr c_10))).symm, rfl⟩
    · refine vv_iconst (q := 14) hC (nI 1) dX4_in_13 (by decide) rfl ?_
      refine vv_goto (tgt := 18) hC dX4_in_14 (by decide) ?_
      refine vv_zret (v := nI (1)) hC (by first | rfl | decide) dX4_in_18 ?_
      rw [hp]
      exact ⟨congrArg (fun z => some (Value.int z)) (vv_B1 ⟨Int64.not_lt.mp c_3, Int64.not_lt.mp c_10⟩).symm, rfl⟩
set_option maxRecDepth 100000 in
set_option maxHeartbeats 4000000 in
theorem cm_X4_members (l : Launch) (Y : vv_Y) (n : Nat) (hY : pm_sys Y n) (σ : vv_S) : vv_M l Y yX4_members wsX4_members { frames := 0, cells := 0, slots := 0, locals := 0 } [.ref (Y.2.1 (0))] σ (vv_R (.int (nI (n))) σ) := by
  refine vv_M.of (cc := cX4_members) (maxL := 1) (ret := (some .int)) hY.ok (by decide) rfl (Nat.le_of_ble_eq_true rfl) ?_
  intro Z hl hp hC
  subst hl
  have hi_X4 : ∀ w ∈ u_ws RX4 TX4 25, w ∈ wsX4_members := by decide +kernel
  have hf_many : Cond.fieldLink RX4 69 "ParityRowModel" (TX4 1).2.1 (TX4 1).2.2.1 ∈ wsX4_members := by decide +kernel
  have hlo := hY.lo
  have hhi := hY.hi
  refine vv_loc (L' := [(0, .ref (Y.2.1 (0)))]) rfl ?_
  refine vv_aload_n (q := 1) hC dX4_members_0 (x := Y.2.1 (0)) rfl rfl ?_
  refine pm_gM (q := 4) hY hC 1 hi_X4 hf_many (by decide) rfl (v := .int (nI (n))) rfl dX4_members_1 rfl ?_
  refine vv_iret (v := nI (n)) hC dX4_members_4 ?_
  rw [hp]
  exact ⟨rfl, rfl⟩
set_option maxRecDepth 100000 in
set_option maxHeartbeats 4000000 in
theorem cm_X4_isBlock (l : Launch) (Y : vv_Y) (n : Nat) (hY : pm_sys Y n) (σ : vv_S) (b : Int64) : vv_M l Y yX4_isBlock wsX4_isBlock { frames := 1, cells := 0, slots := 0, locals := 25 } [.ref (Y.2.1 (0)), .long (b)] σ (vv_R (.int (vv_B (lN 0 ≤ b ∧ b ≤ lN (24 * (n - 1) - 1)))) σ) := by
  refine vv_M.of (cc := cX4_isBlock) (maxL := 3) (ret := (some .boolean)) hY.ok (by decide) rfl (Nat.le_of_ble_eq_true rfl) ?_
  intro Z hl hp hC
  subst hl
  have hi_X4 : ∀ w ∈ u_ws RX4 TX4 25, w ∈ wsX4_isBlock := by decide +kernel
  have hf_many : Cond.fieldLink RX4 69 "ParityRowModel" (TX4 1).2.1 (TX4 1).2.2.1 ∈ wsX4_isBlock := by decide +kernel
  have hlo := hY.lo
  have hhi := hY.hi
  refine vv_loc (L' := [(0, .ref (Y.2.1 (0))), (1, .long (b))]) rfl ?_
  refine vv_lload_n (q := 1) hC dX4_isBlock_0 (x := b) rfl rfl ?_
  refine vv_lconst (q := 2) hC (lN 0) dX4_isBlock_1 rfl rfl ?_
  refine vv_ldc2 (v := 24) (q := 5) hC (by decide +kernel) dX4_isBlock_2 rfl ?_
  refine vv_aload_n (q := 6) hC dX4_isBlock_5 (x := Y.2.1 (0)) rfl rfl ?_
  refine pm_gM (q := 9) hY hC 1 hi_X4 hf_many (by decide) rfl (v := .int (nI (n))) rfl dX4_isBlock_6 rfl ?_
  refine vv_i2l (q := 10) hC ((nI (n)).toInt64) dX4_isBlock_9 rfl rfl ?_
  refine vv_lconst (q := 11) hC (lN 1) dX4_isBlock_10 rfl rfl ?_
  refine vv_lsub (q := 12) hC dX4_isBlock_11 rfl ?_
  refine vv_lmul (q := 13) hC dX4_isBlock_12 rfl ?_
  refine vv_lconst (q := 14) hC (lN 1) dX4_isBlock_13 rfl rfl ?_
  refine vv_lsub (q := 15) hC dX4_isBlock_14 rfl ?_
  refine vv_topl (y := lN (24 * (n - 1) - 1)) (pm_blkN hlo hhi) ?_
  refine vv_callS (n := 3) (As := [.long (b), .long (lN 0), .long (lN (24 * (n - 1) - 1))]) (st := []) (q := 18) hC (cm_X4_in _ Y n hY σ b (lN 0) (lN (24 * (n - 1) - 1)) ) gX4_isBlock_X4_in rfl (by decide +kernel) dX4_isBlock_15 rfl rfl rfl (vv_kR ?_)
  refine vv_zret (v := vv_B ((lN 0) ≤ b ∧ b ≤ (lN (24 * (n - 1) - 1)))) hC vv_narB dX4_isBlock_18 ?_
  rw [hp]
  exact ⟨congrArg (fun z => some (Value.int z)) (by first | rfl | grind), rfl⟩
set_option maxRecDepth 100000 in
set_option maxHeartbeats 4000000 in
theorem cm_X4_parityOf (l : Launch) (Y : vv_Y) (n : Nat) (hY : pm_sys Y n) (σ : vv_S) (s : Nat) (hs : s < 24) : vv_M l Y yX4_parityOf wsX4_parityOf { frames := 0, cells := 0, slots := 0, locals := 0 } [.ref (Y.2.1 (0)), .int (nI (s))] σ (vv_R (.int (nI (pc_pm n s))) σ) := by
  refine vv_M.of (cc := cX4_parityOf) (maxL := 2) (ret := (some .int)) hY.ok (by decide) rfl (Nat.le_of_ble_eq_true rfl) ?_
  intro Z hl hp hC
  subst hl
  have hi_X4 : ∀ w ∈ u_ws RX4 TX4 25, w ∈ wsX4_parityOf := by decide +kernel
  have hf_many : Cond.fieldLink RX4 69 "ParityRowModel" (TX4 1).2.1 (TX4 1).2.2.1 ∈ wsX4_parityOf := by decide +kernel
  have hlo := hY.lo
  have hhi := hY.hi
  refine vv_loc (L' := [(0, .ref (Y.2.1 (0))), (1, .int (nI (s)))]) rfl ?_
  refine vv_aload_n (q := 1) hC dX4_parityOf_0 (x := Y.2.1 (0)) rfl rfl ?_
  refine pm_gM (q := 4) hY hC 1 hi_X4 hf_many (by decide) rfl (v := .int (nI (n))) rfl dX4_parityOf_1 rfl ?_
  refine vv_iconst (q := 5) hC (nI 1) dX4_parityOf_4 (by decide) rfl ?_
  refine vv_subN (x := n) (y := 1) (q := 6) hC dX4_parityOf_5 (by omega) rfl ?_
  refine vv_iload_n (q := 7) hC dX4_parityOf_6 (x := nI (s)) rfl rfl ?_
  refine vv_aload_n (q := 8) hC dX4_parityOf_7 (x := Y.2.1 (0)) rfl rfl ?_
  refine pm_gM (q := 11) hY hC 1 hi_X4 hf_many (by decide) rfl (v := .int (nI (n))) rfl dX4_parityOf_8 rfl ?_
  refine vv_remN (x := s) (y := n) (q := 12) hC dX4_parityOf_11 (by omega) (by omega) (by omega) rfl ?_
  refine vv_subN (x := n - 1) (y := s % n) (q := 13) hC dX4_parityOf_12 (by have := Nat.mod_lt s (show 0 < n by omega); omega) rfl ?_
  refine vv_iret (v := nI ((n - 1) - (s % n))) hC dX4_parityOf_13 ?_
  rw [hp]
  exact ⟨congrArg (fun z => some (Value.int z)) (by first | rfl | grind), rfl⟩
set_option maxRecDepth 100000 in
set_option maxHeartbeats 4000000 in
theorem cm_X4_memberOf (l : Launch) (Y : vv_Y) (n : Nat) (hY : pm_sys Y n) (σ : vv_S) (s : Nat) (d : Nat) (hs : s < 24) (hd : d < n) : vv_M l Y yX4_memberOf wsX4_memberOf { frames := 1, cells := 0, slots := 0, locals := 21 } [.ref (Y.2.1 (0)), .int (nI (s)), .int (nI (d))] σ (vv_R (.int (nI (pc_mo n s d))) σ) := by
  refine vv_M.of (cc := cX4_memberOf) (maxL := 3) (ret := (some .int)) hY.ok (by decide) rfl (Nat.le_of_ble_eq_true rfl) ?_
  intro Z hl hp hC
  subst hl
  have hi_X4 : ∀ w ∈ u_ws RX4 TX4 25, w ∈ wsX4_memberOf := by decide +kernel
  have hf_many : Cond.fieldLink RX4 69 "ParityRowModel" (TX4 1).2.1 (TX4 1).2.2.1 ∈ wsX4_memberOf := by decide +kernel
  have hlo := hY.lo
  have hhi := hY.hi
  have hpm := pc_pm_lt (n := n) (s := s) hY.lo
  refine vv_loc (L' := [(0, .ref (Y.2.1 (0))), (1, .int (nI (s))), (2, .int (nI (d)))]) rfl ?_
  refine vv_aload_n (q := 1) hC dX4_memberOf_0 (x := Y.2.1 (0)) rfl rfl ?_
  refine vv_iload_n (q := 2) hC dX4_memberOf_1 (x := nI (s)) rfl rfl ?_
  refine vv_callV (n := 1) (k := 0) (As := [.int (nI (s))]) (st := []) (q := 5) hC (hY.k (by decide)) (hY.M _) (by rw [hY.cl]; rfl) (cm_X4_parityOf _ Y n hY σ s (by omega)) gX4_memberOf_X4_parityOf rfl (by decide +kernel) dX4_memberOf_2 rfl rfl rfl (vv_kR ?_)
  refine vv_iconst (q := 6) hC (nI 1) dX4_memberOf_5 (by decide) rfl ?_
  refine vv_addN (x := pc_pm n s) (y := 1) (q := 7) hC dX4_memberOf_6 rfl ?_
  refine vv_iload_n (q := 8) hC dX4_memberOf_7 (x := nI (d)) rfl rfl ?_
  refine vv_addN (x := (pc_pm n s) + 1) (y := d) (q := 9) hC dX4_memberOf_8 rfl ?_
  refine vv_aload_n (q := 10) hC dX4_memberOf_9 (x := Y.2.1 (0)) rfl rfl ?_
  refine pm_gM (q := 13) hY hC 1 hi_X4 hf_many (by decide) rfl (v := .int (nI (n))) rfl dX4_memberOf_10 rfl ?_
  refine vv_remN (x := ((pc_pm n s) + 1) + d) (y := n) (q := 14) hC dX4_memberOf_13 (by omega) (by omega) (by omega) rfl ?_
  refine vv_iret (v := nI ((((pc_pm n s) + 1) + d) % n)) hC dX4_memberOf_14 ?_
  rw [hp]
  exact ⟨congrArg (fun z => some (Value.int z)) (by first | rfl | grind), rfl⟩
set_option maxRecDepth 100000 in
set_option maxHeartbeats 4000000 in
theorem cm_X4_at (l : Launch) (Y : vv_Y) (n : Nat) (hY : pm_sys Y n) (σ : vv_S) (m : Nat) (s : Nat) : vv_M l Y yX4_at wsX4_at { frames := 0, cells := 0, slots := 0, locals := 0 } [.ref (Y.2.1 (0)), .int (nI (m)), .int (nI (s))] σ (vv_R (.int (nI (24 * m + s))) σ) := by
  refine vv_M.of (cc := cX4_at) (maxL := 3) (ret := (some .int)) hY.ok (by decide) rfl (Nat.le_of_ble_eq_true rfl) ?_
  intro Z hl hp hC
  subst hl
  have hlo := hY.lo
  have hhi := hY.hi
  refine vv_loc (L' := [(0, .ref (Y.2.1 (0))), (1, .int (nI (m))), (2, .int (nI (s)))]) rfl ?_
  refine vv_bipush (q := 2) hC (nI 24) dX4_at_0 (by decide) rfl ?_
  refine vv_iload_n (q := 3) hC dX4_at_2 (x := nI (m)) rfl rfl ?_
  refine vv_mulN (x := 24) (y := m) (q := 4) hC dX4_at_3 rfl ?_
  refine vv_iload_n (q := 5) hC dX4_at_4 (x := nI (s)) rfl rfl ?_
  refine vv_addN (x := 24 * m) (y := s) (q := 6) hC dX4_at_5 rfl ?_
  refine vv_iret (v := nI ((24 * m) + s)) hC dX4_at_6 ?_
  rw [hp]
  exact ⟨congrArg (fun z => some (Value.int z)) (by first | rfl | grind), rfl⟩
set_option maxRecDepth 100000 in
set_option maxHeartbeats 4000000 in
theorem cm_X4_isOn (l : Launch) (Y : vv_Y) (n : Nat) (hY : pm_sys Y n) (σ : vv_S) (m : Nat) (s : Nat) (hm : m < n) (hs : s < 24) : vv_M l Y yX4_isOn wsX4_isOn { frames := 0, cells := 0, slots := 0, locals := 0 } [.ref (Y.2.1 (0)), .int (nI (m)), .int (nI (s))] σ (vv_R (.int (vv_B (pm_on σ m s))) σ) := by
  refine vv_M.of (cc := cX4_isOn) (maxL := 3) (ret := (some .boolean)) hY.ok (by decide) rfl (Nat.le_of_ble_eq_true rfl) ?_
  intro Z hl hp hC
  subst hl
  have hi_X4 : ∀ w ∈ u_ws RX4 TX4 25, w ∈ wsX4_isOn := by decide +kernel
  have hf_state : Cond.fieldLink RX4 24 "ParityRowModel" (TX4 5).2.1 (TX4 5).2.2.1 ∈ wsX4_isOn := by decide +kernel
  have hf_built : Cond.fieldLink RX4 27 "ParityRowModel" (TX4 6).2.1 (TX4 6).2.2.1 ∈ wsX4_isOn := by decide +kernel
  have hlo := hY.lo
  have hhi := hY.hi
  refine vv_loc (L' := [(0, .ref (Y.2.1 (0))), (1, .int (nI (m))), (2, .int (nI (s)))]) rfl ?_
  refine vv_aload_n (q := 1) hC dX4_isOn_0 (x := Y.2.1 (0)) rfl rfl ?_
  refine pm_gM (q := 4) hY hC 5 hi_X4 hf_state (by decide) rfl (v := .ref (Y.2.1 (4))) rfl dX4_isOn_1 rfl ?_
  refine vv_iload_n (q := 5) hC dX4_isOn_4 (x := nI (m)) rfl rfl ?_
  refine pm_ld_state (q := 6) hY hC (i := m) (by omega) dX4_isOn_5 rfl ?_
  refine vv_if_eq (x := σ 4 m) (q := 9) (tgt := 29) hC dX4_isOn_6 (by decide) rfl (fun c_6 => ?_) (fun c_6 => ?_)
  · refine vv_iconst (q := 30) hC (nI 1) dX4_isOn_29 (by decide) rfl ?_
    refine vv_goto (tgt := 34) hC dX4_isOn_30 (by decide) ?_
    refine vv_zret (v := nI (1)) hC (by first | rfl | decide) dX4_isOn_34 ?_
    rw [hp]
    exact ⟨congrArg (fun z => some (Value.int z)) (vv_B1 (Or.inl c_6)).symm, rfl⟩
  · refine vv_aload_n (q := 10) hC dX4_isOn_9 (x := Y.2.1 (0)) rfl rfl ?_
    refine pm_gM (q := 13) hY hC 5 hi_X4 hf_state (by decide) rfl (v := .ref (Y.2.1 (4))) rfl dX4_isOn_10 rfl ?_
    refine vv_iload_n (q := 14) hC dX4_isOn_13 (x := nI (m)) rfl rfl ?_
    refine pm_ld_state (q := 15) hY hC (i := m) (by omega) dX4_isOn_14 rfl ?_
    refine vv_iconst (q := 16) hC (nI 2) dX4_isOn_15 (by decide) rfl ?_
    refine vv_icmp_ne (x := σ 4 m) (y := nI (2)) (q := 19) (tgt := 33) hC dX4_isOn_16 (by decide) rfl (fun c_16 => ?_) (fun c_16 => ?_)
    · refine vv_iconst (q := 34) hC (nI 0) dX4_isOn_33 (by decide) rfl ?_
      refine vv_zret (v := nI (0)) hC (by first | rfl | decide) dX4_isOn_34 ?_
      rw [hp]
      exact ⟨congrArg (fun z => some (Value.int z)) (vv_B0 (fun h => h.elim c_6 (fun z => c_16 z.1))).symm, rfl⟩
    · refine vv_iload_n (q := 20) hC dX4_isOn_19 (x := nI (s)) rfl rfl ?_
      refine vv_aload_n (q := 21) hC dX4_isOn_20 (x := Y.2.1 (0)) rfl rfl ?_
      refine pm_gM (q := 24) hY hC 6 hi_X4 hf_built (by decide) rfl (v := .ref (Y.2.1 (5))) rfl dX4_isOn_21 rfl ?_
      refine vv_iload_n (q := 25) hC dX4_isOn_24 (x := nI (m)) rfl rfl ?_
      refine pm_ld_built (q := 26) hY hC (i := m) (by omega) dX4_isOn_25 rfl ?_
      refine vv_icmp_ge (x := nI (s)) (y := σ 5 m) (q := 29) (tgt := 33) hC dX4_isOn_26 (by decide) rfl (fun c_26 => ?_) (fun c_26 => ?_)
      · refine vv_iconst (q := 34) hC (nI 0) dX4_isOn_33 (by decide) rfl ?_
        refine vv_zret (v := nI (0)) hC (by first | rfl | decide) dX4_isOn_34 ?_
        rw [hp]
        exact ⟨congrArg (fun z => some (Value.int z)) (vv_B0 (fun h => h.elim c_6 (fun z => absurd z.2 (Int32.not_lt.mpr c_26)))).symm, rfl⟩
      · refine vv_iconst (q := 30) hC (nI 1) dX4_isOn_29 (by decide) rfl ?_
        refine vv_goto (tgt := 34) hC dX4_isOn_30 (by decide) ?_
        refine vv_zret (v := nI (1)) hC (by first | rfl | decide) dX4_isOn_34 ?_
        rw [hp]
        exact ⟨congrArg (fun z => some (Value.int z)) (vv_B1 (Or.inr ⟨c_16, Int32.not_le.mp c_26⟩)).symm, rfl⟩
set_option maxRecDepth 100000 in
set_option maxHeartbeats 4000000 in
theorem cm_X4_sumOf (l : Launch) (Y : vv_Y) (n : Nat) (hY : pm_sys Y n) (σ : vv_S) (c : Nat) (hc : c < 144) : vv_M l Y yX4_sumOf wsX4_sumOf { frames := 0, cells := 0, slots := 0, locals := 0 } [.ref (Y.2.1 (0)), .int (nI (c))] σ (vv_R (.int (pc_sum (σ 1) (8 * c) 8)) σ) := by
  refine vv_M.of (cc := cX4_sumOf) (maxL := 4) (ret := (some .int)) hY.ok (by decide) rfl (Nat.le_of_ble_eq_true rfl) ?_
  intro Z hl hp hC
  subst hl
  have hi_X4 : ∀ w ∈ u_ws RX4 TX4 25, w ∈ wsX4_sumOf := by decide +kernel
  have hf_words : Cond.fieldLink RX4 13 "ParityRowModel" (TX4 2).2.1 (TX4 2).2.2.1 ∈ wsX4_sumOf := by decide +kernel
  have hlo := hY.lo
  have hhi := hY.hi
  refine vv_loc (L' := [(0, .ref (Y.2.1 (0))), (1, .int (nI (c)))]) rfl ?_
  refine vv_iconst (q := 1) hC (nI 0) dX4_sumOf_0 (by decide) rfl ?_
  refine vv_istore_n (L' := [(0, .ref (Y.2.1 (0))), (1, .int (nI (c))), (2, .int (nI (0)))]) (q := 2) hC dX4_sumOf_1 (by decide) rfl rfl rfl ?_
  refine vv_iconst (q := 3) hC (nI 0) dX4_sumOf_2 (by decide) rfl ?_
  refine vv_istore_n (L' := [(0, .ref (Y.2.1 (0))), (1, .int (nI (c))), (2, .int (nI (0))), (3, .int (nI (0)))]) (q := 4) hC dX4_sumOf_3 (by decide) rfl rfl rfl ?_
  have lp_4 : ∀ i : Nat, (i ≤ 8) → vv_V Y 4 Z σ 4 [(0, .ref (Y.2.1 (0))), (1, .int (nI (c))), (2, .int (pc_sum (σ 1) (8 * c) i)), (3, .int (nI (i)))] [] := by
    refine vv_ind (fun i => 8 - i) (fun i ih_4 => ?_)
    intro hi8
    refine vv_iload_n (q := 5) hC dX4_sumOf_4 (x := nI (i)) rfl rfl ?_
    refine vv_bipush (q := 7) hC (nI 8) dX4_sumOf_5 (by decide) rfl ?_
    refine vv_icmpN_ge (x := i) (y := 8) (q := 10) (tgt := 36) hC dX4_sumOf_7 (by decide) (by omega) (by omega) rfl (fun c_7 => ?_) (fun c_7 => ?_)
    · refine vv_iload_n (q := 37) hC dX4_sumOf_36 (x := pc_sum (σ 1) (8 * c) i) rfl rfl ?_
      refine vv_iret (v := pc_sum (σ 1) (8 * c) i) hC dX4_sumOf_37 ?_
      rw [hp]
      have e8 : i = 8 := by omega
      subst e8
      exact ⟨rfl, rfl⟩
    · refine vv_iload_n (q := 11) hC dX4_sumOf_10 (x := pc_sum (σ 1) (8 * c) i) rfl rfl ?_
      refine vv_aload_n (q := 12) hC dX4_sumOf_11 (x := Y.2.1 (0)) rfl rfl ?_
      refine pm_gM (q := 15) hY hC 2 hi_X4 hf_words (by decide) rfl (v := .ref (Y.2.1 (1))) rfl dX4_sumOf_12 rfl ?_
      refine vv_bipush (q := 17) hC (nI 8) dX4_sumOf_15 (by decide) rfl ?_
      refine vv_iload_n (q := 18) hC dX4_sumOf_17 (x := nI (c)) rfl rfl ?_
      refine vv_mulN (x := 8) (y := c) (q := 19) hC dX4_sumOf_18 rfl ?_
      refine vv_iload_n (q := 20) hC dX4_sumOf_19 (x := nI (i)) rfl rfl ?_
      refine vv_addN (x := 8 * c) (y := i) (q := 21) hC dX4_sumOf_20 rfl ?_
      refine pm_ld_words (q := 22) hY hC (i := (8 * c) + i) (by omega) dX4_sumOf_21 rfl ?_
      refine vv_iconst (q := 23) hC (nI 2) dX4_sumOf_22 (by decide) rfl ?_
      refine vv_iload_n (q := 24) hC dX4_sumOf_23 (x := nI (i)) rfl rfl ?_
      refine vv_mulN (x := 2) (y := i) (q := 25) hC dX4_sumOf_24 rfl ?_
      refine vv_iconst (q := 26) hC (nI 1) dX4_sumOf_25 (by decide) rfl ?_
      refine vv_addN (x := 2 * i) (y := 1) (q := 27) hC dX4_sumOf_26 rfl ?_
      refine vv_imul (x := σ 1 ((8 * c) + i)) (y := nI ((2 * i) + 1)) (q := 28) hC dX4_sumOf_27 rfl ?_
      refine vv_iadd (x := pc_sum (σ 1) (8 * c) i) (y := (σ 1 ((8 * c) + i)) * (nI ((2 * i) + 1))) (q := 29) hC dX4_sumOf_28 rfl ?_
      refine vv_istore_n (L' := [(0, .ref (Y.2.1 (0))), (1, .int (nI (c))), (2, .int ((pc_sum (σ 1) (8 * c) i) + ((σ 1 ((8 * c) + i)) * (nI ((2 * i) + 1))))), (3, .int (nI (i)))]) (q := 30) hC dX4_sumOf_29 (by decide) rfl rfl rfl ?_
      refine vv_iincN (x := i) (L' := [(0, .ref (Y.2.1 (0))), (1, .int (nI (c))), (2, .int ((pc_sum (σ 1) (8 * c) i) + ((σ 1 ((8 * c) + i)) * (nI ((2 * i) + 1))))), (3, .int (nI (i + 1)))]) (q := 33) hC dX4_sumOf_30 rfl (by decide) rfl rfl rfl ?_
      refine vv_goto (tgt := 4) hC dX4_sumOf_33 (by decide) ?_
      exact ih_4 (i + 1) (by first | omega | (dsimp only; omega))  (by omega)
  exact lp_4 0 (by omega)
set_option maxRecDepth 100000 in
set_option maxHeartbeats 4000000 in
theorem cm_X4_isThere (l : Launch) (Y : vv_Y) (n : Nat) (hY : pm_sys Y n) (σ : vv_S) (m : Nat) (s : Nat) (hm : m < n) (hs : s < 24) : vv_M l Y yX4_isThere wsX4_isThere { frames := 1, cells := 0, slots := 0, locals := 23 } [.ref (Y.2.1 (0)), .int (nI (m)), .int (nI (s))] σ (vv_R (.int (vv_B (pm_there σ m s))) σ) := by
  refine vv_M.of (cc := cX4_isThere) (maxL := 4) (ret := (some .boolean)) hY.ok (by decide) rfl (Nat.le_of_ble_eq_true rfl) ?_
  intro Z hl hp hC
  subst hl
  have hi_X4 : ∀ w ∈ u_ws RX4 TX4 25, w ∈ wsX4_isThere := by decide +kernel
  have hf_torn : Cond.fieldLink RX4 20 "ParityRowModel" (TX4 4).2.1 (TX4 4).2.2.1 ∈ wsX4_isThere := by decide +kernel
  have hf_sums : Cond.fieldLink RX4 17 "ParityRowModel" (TX4 3).2.1 (TX4 3).2.2.1 ∈ wsX4_isThere := by decide +kernel
  have hlo := hY.lo
  have hhi := hY.hi
  refine vv_loc (L' := [(0, .ref (Y.2.1 (0))), (1, .int (nI (m))), (2, .int (nI (s)))]) rfl ?_
  refine vv_aload_n (q := 1) hC dX4_isThere_0 (x := Y.2.1 (0)) rfl rfl ?_
  refine vv_iload_n (q := 2) hC dX4_isThere_1 (x := nI (m)) rfl rfl ?_
  refine vv_iload_n (q := 3) hC dX4_isThere_2 (x := nI (s)) rfl rfl ?_
  refine vv_callV (n := 2) (k := 0) (As := [.int (nI (m)), .int (nI (s))]) (st := []) (q := 6) hC (hY.k (by decide)) (hY.M _) (by rw [hY.cl]; rfl) (cm_X4_at _ Y n hY σ m s ) gX4_isThere_X4_at rfl (by decide +kernel) dX4_isThere_3 rfl rfl rfl (vv_kR ?_)
  refine vv_istore_n (L' := [(0, .ref (Y.2.1 (0))), (1, .int (nI (m))), (2, .int (nI (s))), (3, .int (nI (24 * m + s)))]) (q := 7) hC dX4_isThere_6 (by decide) rfl rfl rfl ?_
  refine vv_aload_n (q := 8) hC dX4_isThere_7 (x := Y.2.1 (0)) rfl rfl ?_
  refine vv_iload_n (q := 9) hC dX4_isThere_8 (x := nI (m)) rfl rfl ?_
  refine vv_iload_n (q := 10) hC dX4_isThere_9 (x := nI (s)) rfl rfl ?_
  refine vv_callV (n := 2) (k := 0) (As := [.int (nI (m)), .int (nI (s))]) (st := []) (q := 13) hC (hY.k (by decide)) (hY.M _) (by rw [hY.cl]; rfl) (cm_X4_isOn _ Y n hY σ m s (by omega) (by omega)) gX4_isThere_X4_isOn rfl (by decide +kernel) dX4_isThere_10 rfl rfl rfl (vv_kR ?_)
  refine vv_ifB_eq (b := pm_on σ m s) (q := 16) (tgt := 43) hC dX4_isThere_13 (by decide) rfl (fun c_13 => ?_) (fun c_13 => ?_)
  · refine vv_iconst (q := 44) hC (nI 0) dX4_isThere_43 (by decide) rfl ?_
    refine vv_zret (v := nI (0)) hC (by first | rfl | decide) dX4_isThere_44 ?_
    rw [hp]
    exact ⟨congrArg (fun z => some (Value.int z)) (vv_B0 (fun h => c_13 h.1)).symm, rfl⟩
  · refine vv_aload_n (q := 17) hC dX4_isThere_16 (x := Y.2.1 (0)) rfl rfl ?_
    refine pm_gM (q := 20) hY hC 4 hi_X4 hf_torn (by decide) rfl (v := .ref (Y.2.1 (3))) rfl dX4_isThere_17 rfl ?_
    refine vv_iload_n (q := 21) hC dX4_isThere_20 (x := nI (24 * m + s)) rfl rfl ?_
    refine pm_ld_torn (q := 22) hY hC (i := 24 * m + s) (by omega) dX4_isThere_21 rfl ?_
    refine vv_if_ne (x := σ 3 (24 * m + s)) (q := 25) (tgt := 43) hC dX4_isThere_22 (by decide) rfl (fun c_22 => ?_) (fun c_22 => ?_)
    · refine vv_iconst (q := 44) hC (nI 0) dX4_isThere_43 (by decide) rfl ?_
      refine vv_zret (v := nI (0)) hC (by first | rfl | decide) dX4_isThere_44 ?_
      rw [hp]
      exact ⟨congrArg (fun z => some (Value.int z)) (vv_B0 (fun h => c_22 h.2.1)).symm, rfl⟩
    · refine vv_aload_n (q := 26) hC dX4_isThere_25 (x := Y.2.1 (0)) rfl rfl ?_
      refine pm_gM (q := 29) hY hC 3 hi_X4 hf_sums (by decide) rfl (v := .ref (Y.2.1 (2))) rfl dX4_isThere_26 rfl ?_
      refine vv_iload_n (q := 30) hC dX4_isThere_29 (x := nI (24 * m + s)) rfl rfl ?_
      refine pm_ld_sums (q := 31) hY hC (i := 24 * m + s) (by omega) dX4_isThere_30 rfl ?_
      refine vv_aload_n (q := 32) hC dX4_isThere_31 (x := Y.2.1 (0)) rfl rfl ?_
      refine vv_iload_n (q := 33) hC dX4_isThere_32 (x := nI (24 * m + s)) rfl rfl ?_
      refine vv_callV (n := 1) (k := 0) (As := [.int (nI (24 * m + s))]) (st := [.int (σ 2 (24 * m + s))]) (q := 36) hC (hY.k (by decide)) (hY.M _) (by rw [hY.cl]; rfl) (cm_X4_sumOf _ Y n hY σ (24 * m + s) (by omega)) gX4_isThere_X4_sumOf rfl (by decide +kernel) dX4_isThere_33 rfl rfl rfl (vv_kR ?_)
      refine vv_icmp_ne (x := σ 2 (24 * m + s)) (y := pc_sum (σ 1) (8 * (24 * m + s)) 8) (q := 39) (tgt := 43) hC dX4_isThere_36 (by decide) rfl (fun c_36 => ?_) (fun c_36 => ?_)
      · refine vv_iconst (q := 44) hC (nI 0) dX4_isThere_43 (by decide) rfl ?_
        refine vv_zret (v := nI (0)) hC (by first | rfl | decide) dX4_isThere_44 ?_
        rw [hp]
        exact ⟨congrArg (fun z => some (Value.int z)) (vv_B0 (fun h => c_36 h.2.2)).symm, rfl⟩
      · refine vv_iconst (q := 40) hC (nI 1) dX4_isThere_39 (by decide) rfl ?_
        refine vv_goto (tgt := 44) hC dX4_isThere_40 (by decide) ?_
        refine vv_zret (v := nI (1)) hC (by first | rfl | decide) dX4_isThere_44 ?_
        rw [hp]
        exact ⟨congrArg (fun z => some (Value.int z)) (vv_B1 ⟨c_13, c_22, c_36⟩).symm, rfl⟩
set_option maxRecDepth 100000 in
set_option maxHeartbeats 4000000 in
theorem cm_X4_othersThere (l : Launch) (Y : vv_Y) (n : Nat) (hY : pm_sys Y n) (σ : vv_S) (x : Int32) (s : Nat) (hs : s < 24) : vv_M l Y yX4_othersThere wsX4_othersThere { frames := 2, cells := 0, slots := 0, locals := 46 } [.ref (Y.2.1 (0)), .int (x), .int (nI (s))] σ (vv_R (.int (vv_B (pm_oth σ n x s))) σ) := by
  refine vv_M.of (cc := cX4_othersThere) (maxL := 5) (ret := (some .boolean)) hY.ok (by decide) rfl (Nat.le_of_ble_eq_true rfl) ?_
  intro Z hl hp hC
  subst hl
  have hi_X4 : ∀ w ∈ u_ws RX4 TX4 25, w ∈ wsX4_othersThere := by decide +kernel
  have hf_many : Cond.fieldLink RX4 69 "ParityRowModel" (TX4 1).2.1 (TX4 1).2.2.1 ∈ wsX4_othersThere := by decide +kernel
  have hlo := hY.lo
  have hhi := hY.hi
  refine vv_loc (L' := [(0, .ref (Y.2.1 (0))), (1, .int (x)), (2, .int (nI (s)))]) rfl ?_
  refine vv_iconst (q := 1) hC (nI 1) dX4_othersThere_0 (by decide) rfl ?_
  refine vv_istore_n (L' := [(0, .ref (Y.2.1 (0))), (1, .int (x)), (2, .int (nI (s))), (3, .int (nI (1)))]) (q := 2) hC dX4_othersThere_1 (by decide) rfl rfl rfl ?_
  refine vv_iconst (q := 3) hC (nI 0) dX4_othersThere_2 (by decide) rfl ?_
  refine vv_istore (L' := [(0, .ref (Y.2.1 (0))), (1, .int (x)), (2, .int (nI (s))), (3, .int (nI (1))), (4, .int (nI (0)))]) (q := 5) hC dX4_othersThere_3 (by decide) rfl rfl rfl ?_
  have lp_5 : ∀ k : Nat, (k ≤ n) → vv_V Y 5 Z σ 5 [(0, .ref (Y.2.1 (0))), (1, .int (x)), (2, .int (nI (s))), (3, .int (vv_B (vv_all (fun j0 => nI j0 = x ∨ pm_there σ j0 s) k = true))), (4, .int (nI (k)))] [] := by
    refine vv_ind (fun k => n - k) (fun k ih_5 => ?_)
    intro hk
    refine vv_iload (q := 7) hC dX4_othersThere_5 (x := nI (k)) rfl rfl ?_
    refine vv_aload_n (q := 8) hC dX4_othersThere_7 (x := Y.2.1 (0)) rfl rfl ?_
    refine pm_gM (q := 11) hY hC 1 hi_X4 hf_many (by decide) rfl (v := .int (nI (n))) rfl dX4_othersThere_8 rfl ?_
    refine vv_icmpN_ge (x := k) (y := n) (q := 14) (tgt := 46) hC dX4_othersThere_11 (by decide) (by omega) (by omega) rfl (fun c_11 => ?_) (fun c_11 => ?_)
    · refine vv_iload_n (q := 47) hC dX4_othersThere_46 (x := vv_B (vv_all (fun j0 => nI j0 = x ∨ pm_there σ j0 s) k = true)) rfl rfl ?_
      refine vv_zret (v := vv_B (vv_all (fun j0 => nI j0 = x ∨ pm_there σ j0 s) k = true)) hC vv_narB dX4_othersThere_47 ?_
      rw [hp]
      have ek : k = n := by omega
      subst ek
      exact ⟨rfl, rfl⟩
    · refine vv_iload_n (q := 15) hC dX4_othersThere_14 (x := vv_B (vv_all (fun j0 => nI j0 = x ∨ pm_there σ j0 s) k = true)) rfl rfl ?_
      refine vv_ifB_eq (b := vv_all (fun j0 => nI j0 = x ∨ pm_there σ j0 s) k = true) (q := 18) (tgt := 38) hC dX4_othersThere_15 (by decide) rfl (fun c_15 => ?_) (fun c_15 => ?_)
      · refine vv_iconst (q := 39) hC (nI 0) dX4_othersThere_38 (by decide) rfl ?_
        refine vv_istore_n (L' := [(0, .ref (Y.2.1 (0))), (1, .int (x)), (2, .int (nI (s))), (3, .int (nI (0))), (4, .int (nI (k)))]) (q := 40) hC dX4_othersThere_39 (by decide) rfl rfl rfl ?_
        refine vv_iincN (x := k) (L' := [(0, .ref (Y.2.1 (0))), (1, .int (x)), (2, .int (nI (s))), (3, .int (nI (0))), (4, .int (nI (k + 1)))]) (q := 43) hC dX4_othersThere_40 rfl (by decide) rfl rfl rfl ?_
        refine vv_goto (tgt := 5) hC dX4_othersThere_43 (by decide) ?_
        refine vv_loc (L' := [(0, .ref (Y.2.1 (0))), (1, .int (x)), (2, .int (nI (s))), (3, .int (vv_B (vv_all (fun j0 => nI j0 = x ∨ pm_there σ j0 s) (k + 1) = true))), (4, .int (nI ((k + 1))))]) (by rw [vv_B0 (vv_all_n c_15)]; rfl) ?_
        exact ih_5 (k + 1) (by first | omega | (dsimp only; omega))  (by omega)
      · refine vv_iload (q := 20) hC dX4_othersThere_18 (x := nI (k)) rfl rfl ?_
        refine vv_iload_n (q := 21) hC dX4_othersThere_20 (x := x) rfl rfl ?_
        refine vv_icmp_eq (x := nI (k)) (y := x) (q := 24) (tgt := 34) hC dX4_othersThere_21 (by decide) rfl (fun c_21 => ?_) (fun c_21 => ?_)
        · refine vv_iconst (q := 35) hC (nI 1) dX4_othersThere_34 (by decide) rfl ?_
          refine vv_goto (tgt := 39) hC dX4_othersThere_35 (by decide) ?_
          refine vv_istore_n (L' := [(0, .ref (Y.2.1 (0))), (1, .int (x)), (2, .int (nI (s))), (3, .int (nI (1))), (4, .int (nI (k)))]) (q := 40) hC dX4_othersThere_39 (by decide) rfl rfl rfl ?_
          refine vv_iincN (x := k) (L' := [(0, .ref (Y.2.1 (0))), (1, .int (x)), (2, .int (nI (s))), (3, .int (nI (1))), (4, .int (nI (k + 1)))]) (q := 43) hC dX4_othersThere_40 rfl (by decide) rfl rfl rfl ?_
          refine vv_goto (tgt := 5) hC dX4_othersThere_43 (by decide) ?_
          refine vv_loc (L' := [(0, .ref (Y.2.1 (0))), (1, .int (x)), (2, .int (nI (s))), (3, .int (vv_B (vv_all (fun j0 => nI j0 = x ∨ pm_there σ j0 s) (k + 1) = true))), (4, .int (nI ((k + 1))))]) (by rw [vv_B1 (vv_all_s c_15 (Or.inl c_21))]; rfl) ?_
          exact ih_5 (k + 1) (by first | omega | (dsimp only; omega))  (by omega)
        · refine vv_aload_n (q := 25) hC dX4_othersThere_24 (x := Y.2.1 (0)) rfl rfl ?_
          refine vv_iload (q := 27) hC dX4_othersThere_25 (x := nI (k)) rfl rfl ?_
          refine vv_iload_n (q := 28) hC dX4_othersThere_27 (x := nI (s)) rfl rfl ?_
          refine vv_callV (n := 2) (k := 0) (As := [.int (nI (k)), .int (nI (s))]) (st := []) (q := 31) hC (hY.k (by decide)) (hY.M _) (by rw [hY.cl]; rfl) (cm_X4_isThere _ Y n hY σ k s (by omega) (by omega)) gX4_othersThere_X4_isThere rfl (by decide +kernel) dX4_othersThere_28 rfl rfl rfl (vv_kR ?_)
          refine vv_ifB_eq (b := pm_there σ k s) (q := 34) (tgt := 38) hC dX4_othersThere_31 (by decide) rfl (fun c_31 => ?_) (fun c_31 => ?_)
          · refine vv_iconst (q := 39) hC (nI 0) dX4_othersThere_38 (by decide) rfl ?_
            refine vv_istore_n (L' := [(0, .ref (Y.2.1 (0))), (1, .int (x)), (2, .int (nI (s))), (3, .int (nI (0))), (4, .int (nI (k)))]) (q := 40) hC dX4_othersThere_39 (by decide) rfl rfl rfl ?_
            refine vv_iincN (x := k) (L' := [(0, .ref (Y.2.1 (0))), (1, .int (x)), (2, .int (nI (s))), (3, .int (nI (0))), (4, .int (nI (k + 1)))]) (q := 43) hC dX4_othersThere_40 rfl (by decide) rfl rfl rfl ?_
            refine vv_goto (tgt := 5) hC dX4_othersThere_43 (by decide) ?_
            refine vv_loc (L' := [(0, .ref (Y.2.1 (0))), (1, .int (x)), (2, .int (nI (s))), (3, .int (vv_B (vv_all (fun j0 => nI j0 = x ∨ pm_there σ j0 s) (k + 1) = true))), (4, .int (nI ((k + 1))))]) (by rw [vv_B0 (vv_all_m (fun z => z.elim c_21 c_31))]; rfl) ?_
            exact ih_5 (k + 1) (by first | omega | (dsimp only; omega))  (by omega)
          · refine vv_iconst (q := 35) hC (nI 1) dX4_othersThere_34 (by decide) rfl ?_
            refine vv_goto (tgt := 39) hC dX4_othersThere_35 (by decide) ?_
            refine vv_istore_n (L' := [(0, .ref (Y.2.1 (0))), (1, .int (x)), (2, .int (nI (s))), (3, .int (nI (1))), (4, .int (nI (k)))]) (q := 40) hC dX4_othersThere_39 (by decide) rfl rfl rfl ?_
            refine vv_iincN (x := k) (L' := [(0, .ref (Y.2.1 (0))), (1, .int (x)), (2, .int (nI (s))), (3, .int (nI (1))), (4, .int (nI (k + 1)))]) (q := 43) hC dX4_othersThere_40 rfl (by decide) rfl rfl rfl ?_
            refine vv_goto (tgt := 5) hC dX4_othersThere_43 (by decide) ?_
            refine vv_loc (L' := [(0, .ref (Y.2.1 (0))), (1, .int (x)), (2, .int (nI (s))), (3, .int (vv_B (vv_all (fun j0 => nI j0 = x ∨ pm_there σ j0 s) (k + 1) = true))), (4, .int (nI ((k + 1))))]) (by rw [vv_B1 (vv_all_s c_15 (Or.inr c_31))]; rfl) ?_
            exact ih_5 (k + 1) (by first | omega | (dsimp only; omega))  (by omega)
  refine vv_loc (L' := [(0, .ref (Y.2.1 (0))), (1, .int (x)), (2, .int (nI (s))), (3, .int (vv_B (vv_all (fun j0 => nI j0 = x ∨ pm_there σ j0 s) 0 = true))), (4, .int (nI (0)))]) (by rw [vv_all_0]) ?_
  exact lp_5 0 (by omega)
set_option maxRecDepth 100000 in
set_option maxHeartbeats 4000000 in
theorem cm_X4_place (l : Launch) (Y : vv_Y) (n : Nat) (hY : pm_sys Y n) (σ : vv_S) (b : Int32) (x : Int32) : vv_M l Y yX4_place wsX4_place { frames := 2, cells := 0, slots := 0, locals := 47 } [.ref (Y.2.1 (0)), .int (b), .int (x)] σ (vv_R (.int (pc_place n b x)) σ) := by
  refine vv_M.of (cc := cX4_place) (maxL := 4) (ret := (some .int)) hY.ok (by decide) rfl (Nat.le_of_ble_eq_true rfl) ?_
  intro Z hl hp hC
  subst hl
  have hi_X4 : ∀ w ∈ u_ws RX4 TX4 25, w ∈ wsX4_place := by decide +kernel
  have hf_many : Cond.fieldLink RX4 69 "ParityRowModel" (TX4 1).2.1 (TX4 1).2.2.1 ∈ wsX4_place := by decide +kernel
  have hlo := hY.lo
  have hhi := hY.hi
  refine vv_loc (L' := [(0, .ref (Y.2.1 (0))), (1, .int (b)), (2, .int (x))]) rfl ?_
  refine vv_aload_n (q := 1) hC dX4_place_0 (x := Y.2.1 (0)) rfl rfl ?_
  refine vv_iload_n (q := 2) hC dX4_place_1 (x := b) rfl rfl ?_
  refine vv_i2l (q := 3) hC (b.toInt64) dX4_place_2 rfl rfl ?_
  refine vv_callV (n := 1) (k := 0) (As := [.long (b.toInt64)]) (st := []) (q := 6) hC (hY.k (by decide)) (hY.M _) (by rw [hY.cl]; rfl) (cm_X4_isBlock _ Y n hY σ b.toInt64 ) gX4_place_X4_isBlock rfl (by decide +kernel) dX4_place_3 rfl rfl rfl (vv_kR ?_)
  refine vv_top (y := vv_B (pc_isb n b)) (vv_B_congr (pm_blk hlo hhi)) ?_
  refine vv_ifB_ne (b := pc_isb n b) (q := 9) (tgt := 12) hC dX4_place_6 (by decide) rfl (fun c_6 => ?_) (fun c_6 => ?_)
  · have hn_b := pc_nat (b := b) (N := 24 * (n - 1)) c_6 (by omega)
    have hdm := pc_dm hlo hn_b.2
    refine vv_loc (L' := [(0, .ref (Y.2.1 (0))), (1, .int (nI (b.toNatClampNeg))), (2, .int (x))]) (by rw [← hn_b.1]) ?_
    refine vv_iload_n (q := 13) hC dX4_place_12 (x := nI (b.toNatClampNeg)) rfl rfl ?_
    refine vv_aload_n (q := 14) hC dX4_place_13 (x := Y.2.1 (0)) rfl rfl ?_
    refine pm_gM (q := 17) hY hC 1 hi_X4 hf_many (by decide) rfl (v := .int (nI (n))) rfl dX4_place_14 rfl ?_
    refine vv_iconst (q := 18) hC (nI 1) dX4_place_17 (by decide) rfl ?_
    refine vv_subN (x := n) (y := 1) (q := 19) hC dX4_place_18 (by omega) rfl ?_
    refine vv_divN (x := b.toNatClampNeg) (y := n - 1) (q := 20) hC dX4_place_19 (by omega) (by omega) (by omega) rfl ?_
    refine vv_istore_n (L' := [(0, .ref (Y.2.1 (0))), (1, .int (nI (b.toNatClampNeg))), (2, .int (x)), (3, .int (nI (b.toNatClampNeg / (n - 1))))]) (q := 21) hC dX4_place_20 (by decide) rfl rfl rfl ?_
    refine vv_iload_n (q := 22) hC dX4_place_21 (x := x) rfl rfl ?_
    refine vv_if_ne (x := x) (q := 25) (tgt := 29) hC dX4_place_22 (by decide) rfl (fun c_22 => ?_) (fun c_22 => ?_)
    · refine vv_iload_n (q := 30) hC dX4_place_29 (x := x) rfl rfl ?_
      refine vv_iconst (q := 31) hC (nI 1) dX4_place_30 (by decide) rfl ?_
      refine vv_icmp_ne (x := x) (y := nI (1)) (q := 34) (tgt := 50) hC dX4_place_31 (by decide) rfl (fun c_31 => ?_) (fun c_31 => ?_)
      · refine vv_iload_n (q := 51) hC dX4_place_50 (x := x) rfl rfl ?_
        refine vv_iconst (q := 52) hC (nI 2) dX4_place_51 (by decide) rfl ?_
        refine vv_icmp_ne (x := x) (y := nI (2)) (q := 55) (tgt := 63) hC dX4_place_52 (by decide) rfl (fun c_52 => ?_) (fun c_52 => ?_)
        · refine vv_bipush (q := 65) hC ((-102)) dX4_place_63 (by decide) rfl ?_
          refine vv_iret (v := (-102)) hC dX4_place_65 ?_
          rw [hp]
          unfold pc_place
          rw [if_pos c_6, if_neg c_22, if_neg (show ¬ x = 1 from c_31), if_neg (show ¬ x = 2 from c_52)]
          exact ⟨rfl, rfl⟩
        · refine vv_aload_n (q := 56) hC dX4_place_55 (x := Y.2.1 (0)) rfl rfl ?_
          refine vv_iload_n (q := 57) hC dX4_place_56 (x := nI (b.toNatClampNeg / (n - 1))) rfl rfl ?_
          refine vv_callV (n := 1) (k := 0) (As := [.int (nI (b.toNatClampNeg / (n - 1)))]) (st := []) (q := 60) hC (hY.k (by decide)) (hY.M _) (by rw [hY.cl]; rfl) (cm_X4_parityOf _ Y n hY σ (b.toNatClampNeg / (n - 1)) hdm.1) gX4_place_X4_parityOf rfl (by decide +kernel) dX4_place_57 rfl rfl rfl (vv_kR ?_)
          refine vv_goto (tgt := 65) hC dX4_place_60 (by decide) ?_
          refine vv_iret (v := nI (pc_pm n (b.toNatClampNeg / (n - 1)))) hC dX4_place_65 ?_
          rw [hp]
          unfold pc_place
          rw [if_pos c_6, if_neg c_22, if_neg (show ¬ x = 1 from c_31), if_pos (show x = 2 from c_52)]
          exact ⟨rfl, rfl⟩
      · refine vv_aload_n (q := 35) hC dX4_place_34 (x := Y.2.1 (0)) rfl rfl ?_
        refine vv_iload_n (q := 36) hC dX4_place_35 (x := nI (b.toNatClampNeg / (n - 1))) rfl rfl ?_
        refine vv_iload_n (q := 37) hC dX4_place_36 (x := nI (b.toNatClampNeg)) rfl rfl ?_
        refine vv_aload_n (q := 38) hC dX4_place_37 (x := Y.2.1 (0)) rfl rfl ?_
        refine pm_gM (q := 41) hY hC 1 hi_X4 hf_many (by decide) rfl (v := .int (nI (n))) rfl dX4_place_38 rfl ?_
        refine vv_iconst (q := 42) hC (nI 1) dX4_place_41 (by decide) rfl ?_
        refine vv_subN (x := n) (y := 1) (q := 43) hC dX4_place_42 (by omega) rfl ?_
        refine vv_remN (x := b.toNatClampNeg) (y := n - 1) (q := 44) hC dX4_place_43 (by omega) (by omega) (by omega) rfl ?_
        refine vv_callV (n := 2) (k := 0) (As := [.int (nI (b.toNatClampNeg / (n - 1))), .int (nI (b.toNatClampNeg % (n - 1)))]) (st := []) (q := 47) hC (hY.k (by decide)) (hY.M _) (by rw [hY.cl]; rfl) (cm_X4_memberOf _ Y n hY σ (b.toNatClampNeg / (n - 1)) (b.toNatClampNeg % (n - 1)) hdm.1 hdm.2) gX4_place_X4_memberOf rfl (by decide +kernel) dX4_place_44 rfl rfl rfl (vv_kR ?_)
        refine vv_goto (tgt := 65) hC dX4_place_47 (by decide) ?_
        refine vv_iret (v := nI (pc_mo n (b.toNatClampNeg / (n - 1)) (b.toNatClampNeg % (n - 1)))) hC dX4_place_65 ?_
        rw [hp]
        unfold pc_place
        rw [if_pos c_6, if_neg c_22, if_pos (show x = 1 from c_31)]
        exact ⟨rfl, rfl⟩
    · refine vv_iload_n (q := 26) hC dX4_place_25 (x := nI (b.toNatClampNeg / (n - 1))) rfl rfl ?_
      refine vv_goto (tgt := 65) hC dX4_place_26 (by decide) ?_
      refine vv_iret (v := nI (b.toNatClampNeg / (n - 1))) hC dX4_place_65 ?_
      rw [hp]
      unfold pc_place
      rw [if_pos c_6, if_pos c_22]
      exact ⟨rfl, rfl⟩
  · refine vv_bipush (q := 11) hC ((-101)) dX4_place_9 (by decide) rfl ?_
    refine vv_iret (v := (-101)) hC dX4_place_11 ?_
    rw [hp]
    unfold pc_place
    rw [if_neg c_6]
    exact ⟨rfl, rfl⟩
set_option maxRecDepth 100000 in
set_option maxHeartbeats 4000000 in
theorem cm_X4_goes (l : Launch) (Y : vv_Y) (n : Nat) (hY : pm_sys Y n) (σ : vv_S) : vv_M l Y yX4_goes wsX4_goes { frames := 0, cells := 0, slots := 0, locals := 0 } [.ref (Y.2.1 (0))] σ (vv_R (.int (vv_B (σ 0 19 = 0))) (pm_go σ n)) := by
  refine vv_M.of (cc := cX4_goes) (maxL := 3) (ret := (some .boolean)) hY.ok (by decide) rfl (Nat.le_of_ble_eq_true rfl) ?_
  intro Z hl hp hC
  subst hl
  have hi_X4 : ∀ w ∈ u_ws RX4 TX4 25, w ∈ wsX4_goes := by decide +kernel
  have hf_counts : Cond.fieldLink RX4 60 "ParityRowModel" (TX4 22).2.1 (TX4 22).2.2.1 ∈ wsX4_goes := by decide +kernel
  have hf_cut : Cond.fieldLink RX4 57 "ParityRowModel" (TX4 19).2.1 (TX4 19).2.2.1 ∈ wsX4_goes := by decide +kernel
  have hf_down : Cond.fieldLink RX4 103 "ParityRowModel" (TX4 18).2.1 (TX4 18).2.2.1 ∈ wsX4_goes := by decide +kernel
  have hf_scrubAt : Cond.fieldLink RX4 107 "ParityRowModel" (TX4 21).2.1 (TX4 21).2.2.1 ∈ wsX4_goes := by decide +kernel
  have hf_many : Cond.fieldLink RX4 69 "ParityRowModel" (TX4 1).2.1 (TX4 1).2.2.1 ∈ wsX4_goes := by decide +kernel
  have hf_built : Cond.fieldLink RX4 27 "ParityRowModel" (TX4 6).2.1 (TX4 6).2.2.1 ∈ wsX4_goes := by decide +kernel
  have hlo := hY.lo
  have hhi := hY.hi
  refine vv_loc (L' := [(0, .ref (Y.2.1 (0)))]) rfl ?_
  refine vv_aload_n (q := 1) hC dX4_goes_0 (x := Y.2.1 (0)) rfl rfl ?_
  refine pm_gM (q := 4) hY hC 22 hi_X4 hf_counts (by decide) rfl (v := .ref (Y.2.1 (13))) rfl dX4_goes_1 rfl ?_
  refine vv_iconst (q := 5) hC (nI 0) dX4_goes_4 (by decide) rfl ?_
  refine vv_dup2 (q := 6) hC dX4_goes_5 rfl rfl rfl ?_
  refine pm_ld_counts (q := 7) hY hC (i := 0) (by omega) dX4_goes_6 rfl ?_
  refine vv_iconst (q := 8) hC (nI 1) dX4_goes_7 (by decide) rfl ?_
  refine vv_iadd (x := σ 13 0) (y := nI (1)) (q := 9) hC dX4_goes_8 rfl ?_
  refine pm_st_counts (q := 10) hY hC (i := 0) (x := (σ 13 0) + (nI (1))) (by omega) dX4_goes_9 rfl ?_
  refine vv_st (σ' := pm_tl σ 0) (rfl) ?_
  refine vv_aload_n (q := 11) hC dX4_goes_10 (x := Y.2.1 (0)) rfl rfl ?_
  refine pm_gM (q := 14) hY hC 19 hi_X4 hf_cut (by decide) rfl (v := .int ((pm_tl σ 0) 0 19)) rfl dX4_goes_11 rfl ?_
  refine vv_top (y := σ 0 19) (rfl) ?_
  refine vv_if_ne (x := σ 0 19) (q := 17) (tgt := 21) hC dX4_goes_14 (by decide) rfl (fun c_14 => ?_) (fun c_14 => ?_)
  · refine vv_iconst (q := 22) hC (nI 0) dX4_goes_21 (by decide) rfl ?_
    refine vv_istore_n (L' := [(0, .ref (Y.2.1 (0))), (1, .int (nI (0)))]) (q := 23) hC dX4_goes_22 (by decide) rfl rfl rfl ?_
    refine vv_aload_n (q := 24) hC dX4_goes_23 (x := Y.2.1 (0)) rfl rfl ?_
    refine vv_aload_n (q := 25) hC dX4_goes_24 (x := Y.2.1 (0)) rfl rfl ?_
    refine pm_gM (q := 28) hY hC 19 hi_X4 hf_cut (by decide) rfl (v := .int ((pm_tl σ 0) 0 19)) rfl dX4_goes_25 rfl ?_
    refine vv_top (y := σ 0 19) (rfl) ?_
    refine vv_iconst (q := 29) hC ((-1)) dX4_goes_28 (by decide) rfl ?_
    refine vv_icmp_le (x := σ 0 19) (y := (-1)) (q := 32) (tgt := 41) hC dX4_goes_29 (by decide) rfl (fun c_29 => ?_) (fun c_29 => ?_)
    · refine vv_iconst (q := 42) hC ((-1)) dX4_goes_41 (by decide) rfl ?_
      refine pm_pM (q := 45) hY hC 19 hi_X4 hf_cut (by decide) rfl rfl (x := (-1)) (ty := .int) (by decide +kernel) rfl rfl (fun _ => rfl) dX4_goes_42 rfl ?_
      refine vv_iload_n (q := 46) hC dX4_goes_45 (x := nI (0)) rfl rfl ?_
      refine vv_if_eq (x := nI (0)) (q := 49) (tgt := 87) hC dX4_goes_46 (by decide) rfl (fun c_46 => ?_) (fun c_46 => absurd c_46 (by decide))
      refine vv_iload_n (q := 88) hC dX4_goes_87 (x := nI (0)) rfl rfl ?_
      refine vv_zret (v := nI (0)) hC (by first | rfl | decide) dX4_goes_88 ?_
      rw [hp]
      exact ⟨congrArg (fun z => some (Value.int z)) (vv_B0 c_14).symm, by unfold pm_go; rw [if_neg c_14, if_pos c_29]⟩
    · refine vv_aload_n (q := 33) hC dX4_goes_32 (x := Y.2.1 (0)) rfl rfl ?_
      refine pm_gM (q := 36) hY hC 19 hi_X4 hf_cut (by decide) rfl (v := .int ((pm_tl σ 0) 0 19)) rfl dX4_goes_33 rfl ?_
      refine vv_top (y := σ 0 19) (rfl) ?_
      refine vv_iconst (q := 37) hC (nI 1) dX4_goes_36 (by decide) rfl ?_
      refine vv_isub (x := σ 0 19) (y := nI (1)) (q := 38) hC dX4_goes_37 rfl ?_
      refine vv_goto (tgt := 42) hC dX4_goes_38 (by decide) ?_
      refine pm_pM (q := 45) hY hC 19 hi_X4 hf_cut (by decide) rfl rfl (x := (σ 0 19) - (nI (1))) (ty := .int) (by decide +kernel) rfl rfl (fun _ => rfl) dX4_goes_42 rfl ?_
      refine vv_iload_n (q := 46) hC dX4_goes_45 (x := nI (0)) rfl rfl ?_
      refine vv_if_eq (x := nI (0)) (q := 49) (tgt := 87) hC dX4_goes_46 (by decide) rfl (fun c_46 => ?_) (fun c_46 => absurd c_46 (by decide))
      refine vv_iload_n (q := 88) hC dX4_goes_87 (x := nI (0)) rfl rfl ?_
      refine vv_zret (v := nI (0)) hC (by first | rfl | decide) dX4_goes_88 ?_
      rw [hp]
      exact ⟨congrArg (fun z => some (Value.int z)) (vv_B0 c_14).symm, by unfold pm_go; rw [if_neg c_14, if_neg c_29]⟩
  · refine vv_iconst (q := 18) hC (nI 1) dX4_goes_17 (by decide) rfl ?_
    refine vv_goto (tgt := 22) hC dX4_goes_18 (by decide) ?_
    refine vv_istore_n (L' := [(0, .ref (Y.2.1 (0))), (1, .int (nI (1)))]) (q := 23) hC dX4_goes_22 (by decide) rfl rfl rfl ?_
    refine vv_aload_n (q := 24) hC dX4_goes_23 (x := Y.2.1 (0)) rfl rfl ?_
    refine vv_aload_n (q := 25) hC dX4_goes_24 (x := Y.2.1 (0)) rfl rfl ?_
    refine pm_gM (q := 28) hY hC 19 hi_X4 hf_cut (by decide) rfl (v := .int ((pm_tl σ 0) 0 19)) rfl dX4_goes_25 rfl ?_
    refine vv_top (y := σ 0 19) (rfl) ?_
    refine vv_iconst (q := 29) hC ((-1)) dX4_goes_28 (by decide) rfl ?_
    refine vv_icmp_le (x := σ 0 19) (y := (-1)) (q := 32) (tgt := 41) hC dX4_goes_29 (by decide) rfl (fun c_29 => absurd c_29 (by rw [c_14]; decide)) (fun c_29 => ?_)
    refine vv_aload_n (q := 33) hC dX4_goes_32 (x := Y.2.1 (0)) rfl rfl ?_
    refine pm_gM (q := 36) hY hC 19 hi_X4 hf_cut (by decide) rfl (v := .int ((pm_tl σ 0) 0 19)) rfl dX4_goes_33 rfl ?_
    refine vv_top (y := σ 0 19) (rfl) ?_
    refine vv_iconst (q := 37) hC (nI 1) dX4_goes_36 (by decide) rfl ?_
    refine vv_isub (x := σ 0 19) (y := nI (1)) (q := 38) hC dX4_goes_37 rfl ?_
    refine vv_goto (tgt := 42) hC dX4_goes_38 (by decide) ?_
    refine pm_pM (q := 45) hY hC 19 hi_X4 hf_cut (by decide) rfl rfl (x := (σ 0 19) - (nI (1))) (ty := .int) (by decide +kernel) rfl rfl (fun _ => rfl) dX4_goes_42 rfl ?_
    refine vv_iload_n (q := 46) hC dX4_goes_45 (x := nI (1)) rfl rfl ?_
    refine vv_if_eq (x := nI (1)) (q := 49) (tgt := 87) hC dX4_goes_46 (by decide) rfl (fun c_46 => absurd c_46 (by decide)) (fun c_46 => ?_)
    refine vv_aload_n (q := 50) hC dX4_goes_49 (x := Y.2.1 (0)) rfl rfl ?_
    refine vv_iconst (q := 51) hC (nI 1) dX4_goes_50 (by decide) rfl ?_
    refine pm_pM (q := 54) hY hC 18 hi_X4 hf_down (by decide) rfl rfl (x := nI (1)) (ty := .boolean) (by decide +kernel) rfl rfl (fun _ => rfl) dX4_goes_51 rfl ?_
    refine vv_aload_n (q := 55) hC dX4_goes_54 (x := Y.2.1 (0)) rfl rfl ?_
    refine vv_iconst (q := 56) hC ((-1)) dX4_goes_55 (by decide) rfl ?_
    refine pm_pM (q := 59) hY hC 19 hi_X4 hf_cut (by decide) rfl rfl (x := (-1)) (ty := .int) (by decide +kernel) rfl rfl (fun _ => rfl) dX4_goes_56 rfl ?_
    refine vv_aload_n (q := 60) hC dX4_goes_59 (x := Y.2.1 (0)) rfl rfl ?_
    refine vv_iconst (q := 61) hC (nI 0) dX4_goes_60 (by decide) rfl ?_
    refine pm_pM (q := 64) hY hC 21 hi_X4 hf_scrubAt (by decide) rfl rfl (x := nI (0)) (ty := .int) (by decide +kernel) rfl rfl (fun _ => rfl) dX4_goes_61 rfl ?_
    refine vv_st (σ' := pm_goS σ) (rfl) ?_
    refine vv_iconst (q := 65) hC (nI 0) dX4_goes_64 (by decide) rfl ?_
    refine vv_istore_n (L' := [(0, .ref (Y.2.1 (0))), (1, .int (nI (1))), (2, .int (nI (0)))]) (q := 66) hC dX4_goes_65 (by decide) rfl rfl rfl ?_
    have lp_66 : ∀ m : Nat, (m ≤ n) → vv_V Y 3 Z (vv_row (pm_goS σ) 5 (fun j => if j < m then nI 0 else σ 5 j)) 66 [(0, .ref (Y.2.1 (0))), (1, .int (nI (1))), (2, .int (nI (m)))] [] := by
      refine vv_ind (fun m => n - m) (fun m ih_66 => ?_)
      intro hm
      refine vv_iload_n (q := 67) hC dX4_goes_66 (x := nI (m)) rfl rfl ?_
      refine vv_aload_n (q := 68) hC dX4_goes_67 (x := Y.2.1 (0)) rfl rfl ?_
      refine pm_gM (q := 71) hY hC 1 hi_X4 hf_many (by decide) rfl (v := .int (nI (n))) rfl dX4_goes_68 rfl ?_
      refine vv_icmpN_ge (x := m) (y := n) (q := 74) (tgt := 87) hC dX4_goes_71 (by decide) (by omega) (by omega) rfl (fun c_71 => ?_) (fun c_71 => ?_)
      · refine vv_iload_n (q := 88) hC dX4_goes_87 (x := nI (1)) rfl rfl ?_
        refine vv_zret (v := nI (1)) hC (by first | rfl | decide) dX4_goes_88 ?_
        rw [hp]
        have em : m = n := by omega
        subst em
        exact ⟨congrArg (fun z => some (Value.int z)) (vv_B1 c_14).symm, by unfold pm_go; rw [if_pos c_14]⟩
      · refine vv_aload_n (q := 75) hC dX4_goes_74 (x := Y.2.1 (0)) rfl rfl ?_
        refine pm_gM (q := 78) hY hC 6 hi_X4 hf_built (by decide) rfl (v := .ref (Y.2.1 (5))) rfl dX4_goes_75 rfl ?_
        refine vv_iload_n (q := 79) hC dX4_goes_78 (x := nI (m)) rfl rfl ?_
        refine vv_iconst (q := 80) hC (nI 0) dX4_goes_79 (by decide) rfl ?_
        refine pm_st_built (q := 81) hY hC (i := m) (x := nI (0)) (by omega) dX4_goes_80 rfl ?_
        refine vv_iincN (x := m) (L' := [(0, .ref (Y.2.1 (0))), (1, .int (nI (1))), (2, .int (nI (m + 1)))]) (q := 84) hC dX4_goes_81 rfl (by decide) rfl rfl rfl ?_
        refine vv_goto (tgt := 66) hC dX4_goes_84 (by decide) ?_
        refine vv_st (σ' := vv_row (pm_goS σ) 5 (fun j => if j < (m + 1) then nI 0 else σ 5 j)) (by rw [vv_up_row]; exact congrArg (vv_row (pm_goS σ) 5) (funext fun j => by unfold upd; grind)) ?_
        exact ih_66 (m + 1) (by first | omega | (dsimp only; omega))  (by omega)
    refine vv_st (σ' := vv_row (pm_goS σ) 5 (fun j => if j < 0 then nI 0 else σ 5 j)) ((vv_row_of (by funext j; exact if_neg (Nat.not_lt_zero j))).symm) ?_
    exact lp_66 0 (by omega)
set_option maxRecDepth 100000 in
set_option maxHeartbeats 4000000 in
theorem cm_X4_chunkIs (l : Launch) (Y : vv_Y) (n : Nat) (hY : pm_sys Y n) (σ : vv_S) (m : Nat) (s : Nat) (t : Nat) (hm : m < n) (hs : s < 24) (ht : σ 0 20 = nI t) (ht8 : t ≤ 8) : vv_M l Y yX4_chunkIs wsX4_chunkIs { frames := 1, cells := 0, slots := 0, locals := 23 } [.ref (Y.2.1 (0)), .int (nI (m)), .int (nI (s))] σ (vv_R (.int (vv_B (¬ σ 0 19 = 0))) (pm_ch σ n m s t)) := by
  refine vv_M.of (cc := cX4_chunkIs) (maxL := 7) (ret := (some .boolean)) hY.ok (by decide) rfl (Nat.le_of_ble_eq_true rfl) ?_
  intro Z hl hp hC
  subst hl
  have hi_X4 : ∀ w ∈ u_ws RX4 TX4 25, w ∈ wsX4_chunkIs := by decide +kernel
  have hf_writes : Cond.fieldLink RX4 30 "ParityRowModel" (TX4 7).2.1 (TX4 7).2.2.1 ∈ wsX4_chunkIs := by decide +kernel
  have hf_torn : Cond.fieldLink RX4 20 "ParityRowModel" (TX4 4).2.1 (TX4 4).2.2.1 ∈ wsX4_chunkIs := by decide +kernel
  have hf_sums : Cond.fieldLink RX4 17 "ParityRowModel" (TX4 3).2.1 (TX4 3).2.2.1 ∈ wsX4_chunkIs := by decide +kernel
  have hf_words : Cond.fieldLink RX4 13 "ParityRowModel" (TX4 2).2.1 (TX4 2).2.2.1 ∈ wsX4_chunkIs := by decide +kernel
  have hf_fresh : Cond.fieldLink RX4 63 "ParityRowModel" (TX4 23).2.1 (TX4 23).2.2.1 ∈ wsX4_chunkIs := by decide +kernel
  have hf_tear : Cond.fieldLink RX4 114 "ParityRowModel" (TX4 20).2.1 (TX4 20).2.2.1 ∈ wsX4_chunkIs := by decide +kernel
  have hlo := hY.lo
  have hhi := hY.hi
  have h20 : pm_c1 σ n m 0 20 = nI t := by
    unfold pm_c1 pm_go; split
    · exact ht
    · exact ht
  have h1 : pm_c1 σ n m 1 = σ 1 := pm_go_o (by decide) (by decide) (by decide)
  have h14 : pm_c1 σ n m 14 = σ 14 := pm_go_o (by decide) (by decide) (by decide)
  have htn : pm_tn σ t ≤ 8 := by unfold pm_tn; split <;> omega
  have hcs : 24 * m + s < 144 := by omega
  refine vv_loc (L' := [(0, .ref (Y.2.1 (0))), (1, .int (nI (m))), (2, .int (nI (s)))]) rfl ?_
  refine vv_aload_n (q := 1) hC dX4_chunkIs_0 (x := Y.2.1 (0)) rfl rfl ?_
  refine vv_iload_n (q := 2) hC dX4_chunkIs_1 (x := nI (m)) rfl rfl ?_
  refine vv_iload_n (q := 3) hC dX4_chunkIs_2 (x := nI (s)) rfl rfl ?_
  refine vv_callV (n := 2) (k := 0) (As := [.int (nI (m)), .int (nI (s))]) (st := []) (q := 6) hC (hY.k (by decide)) (hY.M _) (by rw [hY.cl]; rfl) (cm_X4_at _ Y n hY σ m s ) gX4_chunkIs_X4_at rfl (by decide +kernel) dX4_chunkIs_3 rfl rfl rfl (vv_kR ?_)
  refine vv_istore_n (L' := [(0, .ref (Y.2.1 (0))), (1, .int (nI (m))), (2, .int (nI (s))), (3, .int (nI (24 * m + s)))]) (q := 7) hC dX4_chunkIs_6 (by decide) rfl rfl rfl ?_
  refine vv_aload_n (q := 8) hC dX4_chunkIs_7 (x := Y.2.1 (0)) rfl rfl ?_
  refine pm_gM (q := 11) hY hC 7 hi_X4 hf_writes (by decide) rfl (v := .ref (Y.2.1 (6))) rfl dX4_chunkIs_8 rfl ?_
  refine vv_iload_n (q := 12) hC dX4_chunkIs_11 (x := nI (m)) rfl rfl ?_
  refine vv_dup2 (q := 13) hC dX4_chunkIs_12 rfl rfl rfl ?_
  refine pm_ld_writes (q := 14) hY hC (i := m) (by omega) dX4_chunkIs_13 rfl ?_
  refine vv_iconst (q := 15) hC (nI 1) dX4_chunkIs_14 (by decide) rfl ?_
  refine vv_iadd (x := σ 6 m) (y := nI (1)) (q := 16) hC dX4_chunkIs_15 rfl ?_
  refine pm_st_writes (q := 17) hY hC (i := m) (x := (σ 6 m) + (nI (1))) (by omega) dX4_chunkIs_16 rfl ?_
  refine vv_aload_n (q := 18) hC dX4_chunkIs_17 (x := Y.2.1 (0)) rfl rfl ?_
  refine vv_callV (n := 0) (k := 0) (As := []) (st := []) (q := 21) hC (hY.k (by decide)) (hY.M _) (by rw [hY.cl]; rfl) (cm_X4_goes _ Y n hY (vv_up σ 6 m ((σ 6 m) + (nI (1))))  ) gX4_chunkIs_X4_goes rfl (by decide +kernel) dX4_chunkIs_18 rfl rfl rfl (vv_kR ?_)
  refine vv_st (σ' := pm_c1 σ n m) (rfl) ?_
  refine vv_istore (L' := [(0, .ref (Y.2.1 (0))), (1, .int (nI (m))), (2, .int (nI (s))), (3, .int (nI (24 * m + s))), (4, .int (vv_B ((vv_up σ 6 m ((σ 6 m) + (nI (1)))) 0 19 = 0)))]) (q := 23) hC dX4_chunkIs_21 (by decide) rfl rfl rfl ?_
  refine vv_iload (q := 25) hC dX4_chunkIs_23 (x := vv_B ((vv_up σ 6 m ((σ 6 m) + (nI (1)))) 0 19 = 0)) rfl rfl ?_
  refine vv_ifB_eq (b := (vv_up σ 6 m ((σ 6 m) + (nI (1)))) 0 19 = 0) (q := 28) (tgt := 35) hC dX4_chunkIs_25 (by decide) rfl (fun c_25 => ?_) (fun c_25 => ?_)
  · refine vv_bipush (q := 37) hC (nI 8) dX4_chunkIs_35 (by decide) rfl ?_
    refine vv_top (y := nI (pm_tn σ t)) (congrArg nI (by unfold pm_tn; rw [if_neg (show ¬ σ 0 19 = 0 from c_25)])) ?_
    refine vv_istore (L' := [(0, .ref (Y.2.1 (0))), (1, .int (nI (m))), (2, .int (nI (s))), (3, .int (nI (24 * m + s))), (4, .int (vv_B ((vv_up σ 6 m ((σ 6 m) + (nI (1)))) 0 19 = 0))), (5, .int (nI (pm_tn σ t)))]) (q := 39) hC dX4_chunkIs_37 (by decide) rfl rfl rfl ?_
    refine vv_iconst (q := 40) hC (nI 0) dX4_chunkIs_39 (by decide) rfl ?_
    refine vv_istore (L' := [(0, .ref (Y.2.1 (0))), (1, .int (nI (m))), (2, .int (nI (s))), (3, .int (nI (24 * m + s))), (4, .int (vv_B ((vv_up σ 6 m ((σ 6 m) + (nI (1)))) 0 19 = 0))), (5, .int (nI (pm_tn σ t))), (6, .int (nI (0)))]) (q := 42) hC dX4_chunkIs_40 (by decide) rfl rfl rfl ?_
    have lp_42 : ∀ i : Nat, (i ≤ pm_tn σ t) → vv_V Y 7 Z (vv_row (pm_c1 σ n m) 1 (fun j => if 8 * (24 * m + s) ≤ j ∧ j < 8 * (24 * m + s) + i then σ 14 (j - 8 * (24 * m + s)) else σ 1 j)) 42 [(0, .ref (Y.2.1 (0))), (1, .int (nI (m))), (2, .int (nI (s))), (3, .int (nI (24 * m + s))), (4, .int (vv_B ((vv_up σ 6 m ((σ 6 m) + (nI (1)))) 0 19 = 0))), (5, .int (nI (pm_tn σ t))), (6, .int (nI (i)))] [] := by
      refine vv_ind (fun i => pm_tn σ t - i) (fun i ih_42 => ?_)
      intro hi
      refine vv_iload (q := 44) hC dX4_chunkIs_42 (x := nI (i)) rfl rfl ?_
      refine vv_iload (q := 46) hC dX4_chunkIs_44 (x := nI (pm_tn σ t)) rfl rfl ?_
      refine vv_icmpN_ge (x := i) (y := pm_tn σ t) (q := 49) (tgt := 74) hC dX4_chunkIs_46 (by decide) (by omega) (by omega) rfl (fun c_46 => ?_) (fun c_46 => ?_)
      · have ei : i = pm_tn σ t := by omega
        refine vv_st (σ' := pm_c2 σ n m s t) (by rw [ei]; rfl) ?_
        refine vv_loc (L' := [(0, .ref (Y.2.1 (0))), (1, .int (nI (m))), (2, .int (nI (s))), (3, .int (nI (24 * m + s))), (4, .int (nI (0))), (5, .int (nI (pm_tn σ t))), (6, .int (nI (i)))]) (by rw [vv_B0 c_25]; rfl) ?_
        refine vv_aload_n (q := 75) hC dX4_chunkIs_74 (x := Y.2.1 (0)) rfl rfl ?_
        refine pm_gM (q := 78) hY hC 4 hi_X4 hf_torn (by decide) rfl (v := .ref (Y.2.1 (3))) rfl dX4_chunkIs_75 rfl ?_
        refine vv_iload_n (q := 79) hC dX4_chunkIs_78 (x := nI (24 * m + s)) rfl rfl ?_
        refine vv_iload (q := 81) hC dX4_chunkIs_79 (x := nI (0)) rfl rfl ?_
        refine pm_st_torn (q := 82) hY hC (i := 24 * m + s) (x := nI (0)) (by omega) dX4_chunkIs_81 rfl ?_
        refine vv_st (σ' := vv_up (pm_c2 σ n m s t) 3 (24 * m + s) (nI 0)) (by rw [show vp_nar .boolean (nI 0) = nI 0 from by decide]) ?_
        refine vv_iload (q := 84) hC dX4_chunkIs_82 (x := nI (0)) rfl rfl ?_
        refine vv_if_ne (x := nI (0)) (q := 87) (tgt := 98) hC dX4_chunkIs_84 (by decide) rfl (fun c_84 => absurd c_84 (by decide)) (fun c_84 => ?_)
        refine vv_aload_n (q := 88) hC dX4_chunkIs_87 (x := Y.2.1 (0)) rfl rfl ?_
        refine pm_gM (q := 91) hY hC 3 hi_X4 hf_sums (by decide) rfl (v := .ref (Y.2.1 (2))) rfl dX4_chunkIs_88 rfl ?_
        refine vv_iload_n (q := 92) hC dX4_chunkIs_91 (x := nI (24 * m + s)) rfl rfl ?_
        refine vv_aload_n (q := 93) hC dX4_chunkIs_92 (x := Y.2.1 (0)) rfl rfl ?_
        refine vv_iload_n (q := 94) hC dX4_chunkIs_93 (x := nI (24 * m + s)) rfl rfl ?_
        refine vv_callV (n := 1) (k := 0) (As := [.int (nI (24 * m + s))]) (st := [.int (nI (24 * m + s)), .ref (Y.2.1 (2))]) (q := 97) hC (hY.k (by decide)) (hY.M _) (by rw [hY.cl]; rfl) (cm_X4_sumOf _ Y n hY (vv_up (pm_c2 σ n m s t) 3 (24 * m + s) (nI 0)) (24 * m + s) (by omega)) gX4_chunkIs_X4_sumOf rfl (by decide +kernel) dX4_chunkIs_94 rfl rfl rfl (vv_kR ?_)
        refine pm_st_sums (q := 98) hY hC (i := 24 * m + s) (x := pc_sum ((vv_up (pm_c2 σ n m s t) 3 (24 * m + s) (nI 0)) 1) (8 * (24 * m + s)) 8) (by omega) dX4_chunkIs_97 rfl ?_
        refine vv_iload (q := 100) hC dX4_chunkIs_98 (x := nI (0)) rfl rfl ?_
        refine vv_if_ne (x := nI (0)) (q := 103) (tgt := 107) hC dX4_chunkIs_100 (by decide) rfl (fun c_100 => absurd c_100 (by decide)) (fun c_100 => ?_)
        refine vv_iconst (q := 104) hC (nI 1) dX4_chunkIs_103 (by decide) rfl ?_
        refine vv_goto (tgt := 108) hC dX4_chunkIs_104 (by decide) ?_
        refine vv_zret (v := nI (1)) hC (by first | rfl | decide) dX4_chunkIs_108 ?_
        rw [hp]
        exact ⟨congrArg (fun z => some (Value.int z)) (vv_B1 (show ¬ σ 0 19 = 0 from c_25)).symm, by unfold pm_ch; rw [if_neg (show ¬ σ 0 19 = 0 from c_25)]; rfl⟩
      · refine vv_aload_n (q := 50) hC dX4_chunkIs_49 (x := Y.2.1 (0)) rfl rfl ?_
        refine pm_gM (q := 53) hY hC 2 hi_X4 hf_words (by decide) rfl (v := .ref (Y.2.1 (1))) rfl dX4_chunkIs_50 rfl ?_
        refine vv_bipush (q := 55) hC (nI 8) dX4_chunkIs_53 (by decide) rfl ?_
        refine vv_iload_n (q := 56) hC dX4_chunkIs_55 (x := nI (24 * m + s)) rfl rfl ?_
        refine vv_mulN (x := 8) (y := 24 * m + s) (q := 57) hC dX4_chunkIs_56 rfl ?_
        refine vv_iload (q := 59) hC dX4_chunkIs_57 (x := nI (i)) rfl rfl ?_
        refine vv_addN (x := 8 * (24 * m + s)) (y := i) (q := 60) hC dX4_chunkIs_59 rfl ?_
        refine vv_aload_n (q := 61) hC dX4_chunkIs_60 (x := Y.2.1 (0)) rfl rfl ?_
        refine pm_gM (q := 64) hY hC 23 hi_X4 hf_fresh (by decide) rfl (v := .ref (Y.2.1 (14))) rfl dX4_chunkIs_61 rfl ?_
        refine vv_iload (q := 66) hC dX4_chunkIs_64 (x := nI (i)) rfl rfl ?_
        refine pm_ld_fresh (q := 67) hY hC (i := i) (by omega) dX4_chunkIs_66 rfl ?_
        refine vv_top (y := σ 14 i) (by rw [vv_row_n (by decide), h14]) ?_
        refine pm_st_words (q := 68) hY hC (i := (8 * (24 * m + s)) + i) (x := σ 14 i) (by omega) dX4_chunkIs_67 rfl ?_
        refine vv_iincN (x := i) (L' := [(0, .ref (Y.2.1 (0))), (1, .int (nI (m))), (2, .int (nI (s))), (3, .int (nI (24 * m + s))), (4, .int (vv_B ((vv_up σ 6 m ((σ 6 m) + (nI (1)))) 0 19 = 0))), (5, .int (nI (pm_tn σ t))), (6, .int (nI (i + 1)))]) (q := 71) hC dX4_chunkIs_68 rfl (by decide) rfl rfl rfl ?_
        refine vv_goto (tgt := 42) hC dX4_chunkIs_71 (by decide) ?_
        refine vv_st (σ' := vv_row (pm_c1 σ n m) 1 (fun j => if 8 * (24 * m + s) ≤ j ∧ j < 8 * (24 * m + s) + (i + 1) then σ 14 (j - 8 * (24 * m + s)) else σ 1 j)) (by rw [vv_up_row]; exact congrArg (vv_row (pm_c1 σ n m) 1) (funext fun j => by unfold upd; grind)) ?_
        exact ih_42 (i + 1) (by first | omega | (dsimp only; omega))  (by omega)
    refine vv_st (σ' := vv_row (pm_c1 σ n m) 1 (fun j => if 8 * (24 * m + s) ≤ j ∧ j < 8 * (24 * m + s) + 0 then σ 14 (j - 8 * (24 * m + s)) else σ 1 j)) ((vv_row_of (by rw [h1]; funext j; grind)).symm) ?_
    exact lp_42 0 (by omega)
  · refine vv_aload_n (q := 29) hC dX4_chunkIs_28 (x := Y.2.1 (0)) rfl rfl ?_
    refine pm_gM (q := 32) hY hC 20 hi_X4 hf_tear (by decide) rfl (v := .int ((pm_c1 σ n m) 0 20)) rfl dX4_chunkIs_29 rfl ?_
    refine vv_top (y := nI (t)) (h20) ?_
    refine vv_goto (tgt := 37) hC dX4_chunkIs_32 (by decide) ?_
    refine vv_top (y := nI (pm_tn σ t)) (congrArg nI (by unfold pm_tn; rw [if_pos (show σ 0 19 = 0 from c_25)])) ?_
    refine vv_istore (L' := [(0, .ref (Y.2.1 (0))), (1, .int (nI (m))), (2, .int (nI (s))), (3, .int (nI (24 * m + s))), (4, .int (vv_B ((vv_up σ 6 m ((σ 6 m) + (nI (1)))) 0 19 = 0))), (5, .int (nI (pm_tn σ t)))]) (q := 39) hC dX4_chunkIs_37 (by decide) rfl rfl rfl ?_
    refine vv_iconst (q := 40) hC (nI 0) dX4_chunkIs_39 (by decide) rfl ?_
    refine vv_istore (L' := [(0, .ref (Y.2.1 (0))), (1, .int (nI (m))), (2, .int (nI (s))), (3, .int (nI (24 * m + s))), (4, .int (vv_B ((vv_up σ 6 m ((σ 6 m) + (nI (1)))) 0 19 = 0))), (5, .int (nI (pm_tn σ t))), (6, .int (nI (0)))]) (q := 42) hC dX4_chunkIs_40 (by decide) rfl rfl rfl ?_
    have lp_42 : ∀ i : Nat, (i ≤ pm_tn σ t) → vv_V Y 7 Z (vv_row (pm_c1 σ n m) 1 (fun j => if 8 * (24 * m + s) ≤ j ∧ j < 8 * (24 * m + s) + i then σ 14 (j - 8 * (24 * m + s)) else σ 1 j)) 42 [(0, .ref (Y.2.1 (0))), (1, .int (nI (m))), (2, .int (nI (s))), (3, .int (nI (24 * m + s))), (4, .int (vv_B ((vv_up σ 6 m ((σ 6 m) + (nI (1)))) 0 19 = 0))), (5, .int (nI (pm_tn σ t))), (6, .int (nI (i)))] [] := by
      refine vv_ind (fun i => pm_tn σ t - i) (fun i ih_42 => ?_)
      intro hi
      refine vv_iload (q := 44) hC dX4_chunkIs_42 (x := nI (i)) rfl rfl ?_
      refine vv_iload (q := 46) hC dX4_chunkIs_44 (x := nI (pm_tn σ t)) rfl rfl ?_
      refine vv_icmpN_ge (x := i) (y := pm_tn σ t) (q := 49) (tgt := 74) hC dX4_chunkIs_46 (by decide) (by omega) (by omega) rfl (fun c_46 => ?_) (fun c_46 => ?_)
      · have ei : i = pm_tn σ t := by omega
        refine vv_st (σ' := pm_c2 σ n m s t) (by rw [ei]; rfl) ?_
        refine vv_loc (L' := [(0, .ref (Y.2.1 (0))), (1, .int (nI (m))), (2, .int (nI (s))), (3, .int (nI (24 * m + s))), (4, .int (nI (1))), (5, .int (nI (pm_tn σ t))), (6, .int (nI (i)))]) (by rw [vv_B1 c_25]; rfl) ?_
        refine vv_aload_n (q := 75) hC dX4_chunkIs_74 (x := Y.2.1 (0)) rfl rfl ?_
        refine pm_gM (q := 78) hY hC 4 hi_X4 hf_torn (by decide) rfl (v := .ref (Y.2.1 (3))) rfl dX4_chunkIs_75 rfl ?_
        refine vv_iload_n (q := 79) hC dX4_chunkIs_78 (x := nI (24 * m + s)) rfl rfl ?_
        refine vv_iload (q := 81) hC dX4_chunkIs_79 (x := nI (1)) rfl rfl ?_
        refine pm_st_torn (q := 82) hY hC (i := 24 * m + s) (x := nI (1)) (by omega) dX4_chunkIs_81 rfl ?_
        refine vv_st (σ' := vv_up (pm_c2 σ n m s t) 3 (24 * m + s) (nI 1)) (by rw [show vp_nar .boolean (nI 1) = nI 1 from by decide]) ?_
        refine vv_iload (q := 84) hC dX4_chunkIs_82 (x := nI (1)) rfl rfl ?_
        refine vv_if_ne (x := nI (1)) (q := 87) (tgt := 98) hC dX4_chunkIs_84 (by decide) rfl (fun c_84 => ?_) (fun c_84 => absurd c_84 (by decide))
        refine vv_iload (q := 100) hC dX4_chunkIs_98 (x := nI (1)) rfl rfl ?_
        refine vv_if_ne (x := nI (1)) (q := 103) (tgt := 107) hC dX4_chunkIs_100 (by decide) rfl (fun c_100 => ?_) (fun c_100 => absurd c_100 (by decide))
        refine vv_iconst (q := 108) hC (nI 0) dX4_chunkIs_107 (by decide) rfl ?_
        refine vv_zret (v := nI (0)) hC (by first | rfl | decide) dX4_chunkIs_108 ?_
        rw [hp]
        exact ⟨congrArg (fun z => some (Value.int z)) (vv_B0 (fun h => h (show σ 0 19 = 0 from c_25))).symm, by unfold pm_ch; rw [if_pos (show σ 0 19 = 0 from c_25)]⟩
      · refine vv_aload_n (q := 50) hC dX4_chunkIs_49 (x := Y.2.1 (0)) rfl rfl ?_
        refine pm_gM (q := 53) hY hC 2 hi_X4 hf_words (by decide) rfl (v := .ref (Y.2.1 (1))) rfl dX4_chunkIs_50 rfl ?_
        refine vv_bipush (q := 55) hC (nI 8) dX4_chunkIs_53 (by decide) rfl ?_
        refine vv_iload_n (q := 56) hC dX4_chunkIs_55 (x := nI (24 * m + s)) rfl rfl ?_
        refine vv_mulN (x := 8) (y := 24 * m + s) (q := 57) hC dX4_chunkIs_56 rfl ?_
        refine vv_iload (q := 59) hC dX4_chunkIs_57 (x := nI (i)) rfl rfl ?_
        refine vv_addN (x := 8 * (24 * m + s)) (y := i) (q := 60) hC dX4_chunkIs_59 rfl ?_
        refine vv_aload_n (q := 61) hC dX4_chunkIs_60 (x := Y.2.1 (0)) rfl rfl ?_
        refine pm_gM (q := 64) hY hC 23 hi_X4 hf_fresh (by decide) rfl (v := .ref (Y.2.1 (14))) rfl dX4_chunkIs_61 rfl ?_
        refine vv_iload (q := 66) hC dX4_chunkIs_64 (x := nI (i)) rfl rfl ?_
        refine pm_ld_fresh (q := 67) hY hC (i := i) (by omega) dX4_chunkIs_66 rfl ?_
        refine vv_top (y := σ 14 i) (by rw [vv_row_n (by decide), h14]) ?_
        refine pm_st_words (q := 68) hY hC (i := (8 * (24 * m + s)) + i) (x := σ 14 i) (by omega) dX4_chunkIs_67 rfl ?_
        refine vv_iincN (x := i) (L' := [(0, .ref (Y.2.1 (0))), (1, .int (nI (m))), (2, .int (nI (s))), (3, .int (nI (24 * m + s))), (4, .int (vv_B ((vv_up σ 6 m ((σ 6 m) + (nI (1)))) 0 19 = 0))), (5, .int (nI (pm_tn σ t))), (6, .int (nI (i + 1)))]) (q := 71) hC dX4_chunkIs_68 rfl (by decide) rfl rfl rfl ?_
        refine vv_goto (tgt := 42) hC dX4_chunkIs_71 (by decide) ?_
        refine vv_st (σ' := vv_row (pm_c1 σ n m) 1 (fun j => if 8 * (24 * m + s) ≤ j ∧ j < 8 * (24 * m + s) + (i + 1) then σ 14 (j - 8 * (24 * m + s)) else σ 1 j)) (by rw [vv_up_row]; exact congrArg (vv_row (pm_c1 σ n m) 1) (funext fun j => by unfold upd; grind)) ?_
        exact ih_42 (i + 1) (by first | omega | (dsimp only; omega))  (by omega)
    refine vv_st (σ' := vv_row (pm_c1 σ n m) 1 (fun j => if 8 * (24 * m + s) ≤ j ∧ j < 8 * (24 * m + s) + 0 then σ 14 (j - 8 * (24 * m + s)) else σ 1 j)) ((vv_row_of (by rw [h1]; funext j; grind)).symm) ?_
    exact lp_42 0 (by omega)
set_option maxRecDepth 100000 in
set_option maxHeartbeats 4000000 in
theorem cm_X4_markIs (l : Launch) (Y : vv_Y) (n : Nat) (hY : pm_sys Y n) (σ : vv_S) (c : Int32) (r : Int32) : vv_M l Y yX4_markIs wsX4_markIs { frames := 1, cells := 0, slots := 0, locals := 22 } [.ref (Y.2.1 (0)), .int (c), .int (r)] σ (vv_R (.int (vv_B (¬ σ 0 19 = 0))) (pm_mk σ n c r)) := by
  refine vv_M.of (cc := cX4_markIs) (maxL := 3) (ret := (some .boolean)) hY.ok (by decide) rfl (Nat.le_of_ble_eq_true rfl) ?_
  intro Z hl hp hC
  subst hl
  have hi_X4 : ∀ w ∈ u_ws RX4 TX4 25, w ∈ wsX4_markIs := by decide +kernel
  have hf_counts : Cond.fieldLink RX4 60 "ParityRowModel" (TX4 22).2.1 (TX4 22).2.2.1 ∈ wsX4_markIs := by decide +kernel
  have hf_markCell : Cond.fieldLink RX4 117 "ParityRowModel" (TX4 15).2.1 (TX4 15).2.2.1 ∈ wsX4_markIs := by decide +kernel
  have hf_markSerial : Cond.fieldLink RX4 51 "ParityRowModel" (TX4 16).2.1 (TX4 16).2.2.1 ∈ wsX4_markIs := by decide +kernel
  have hlo := hY.lo
  have hhi := hY.hi
  refine vv_loc (L' := [(0, .ref (Y.2.1 (0))), (1, .int (c)), (2, .int (r))]) rfl ?_
  refine vv_aload_n (q := 1) hC dX4_markIs_0 (x := Y.2.1 (0)) rfl rfl ?_
  refine pm_gM (q := 4) hY hC 22 hi_X4 hf_counts (by decide) rfl (v := .ref (Y.2.1 (13))) rfl dX4_markIs_1 rfl ?_
  refine vv_iconst (q := 5) hC (nI 2) dX4_markIs_4 (by decide) rfl ?_
  refine vv_dup2 (q := 6) hC dX4_markIs_5 rfl rfl rfl ?_
  refine pm_ld_counts (q := 7) hY hC (i := 2) (by omega) dX4_markIs_6 rfl ?_
  refine vv_iconst (q := 8) hC (nI 1) dX4_markIs_7 (by decide) rfl ?_
  refine vv_iadd (x := σ 13 2) (y := nI (1)) (q := 9) hC dX4_markIs_8 rfl ?_
  refine pm_st_counts (q := 10) hY hC (i := 2) (x := (σ 13 2) + (nI (1))) (by omega) dX4_markIs_9 rfl ?_
  refine vv_st (σ' := pm_tl σ 2) (rfl) ?_
  refine vv_aload_n (q := 11) hC dX4_markIs_10 (x := Y.2.1 (0)) rfl rfl ?_
  refine vv_callV (n := 0) (k := 0) (As := []) (st := []) (q := 14) hC (hY.k (by decide)) (hY.M _) (by rw [hY.cl]; rfl) (cm_X4_goes _ Y n hY (pm_tl σ 2)  ) gX4_markIs_X4_goes rfl (by decide +kernel) dX4_markIs_11 rfl rfl rfl (vv_kR ?_)
  refine vv_ifB_eq (b := (pm_tl σ 2) 0 19 = 0) (q := 17) (tgt := 19) hC dX4_markIs_14 (by decide) rfl (fun c_14 => ?_) (fun c_14 => ?_)
  · refine vv_aload_n (q := 20) hC dX4_markIs_19 (x := Y.2.1 (0)) rfl rfl ?_
    refine vv_iload_n (q := 21) hC dX4_markIs_20 (x := c) rfl rfl ?_
    refine pm_pM (q := 24) hY hC 15 hi_X4 hf_markCell (by decide) rfl rfl (x := c) (ty := .int) (by decide +kernel) rfl rfl (fun _ => rfl) dX4_markIs_21 rfl ?_
    refine vv_aload_n (q := 25) hC dX4_markIs_24 (x := Y.2.1 (0)) rfl rfl ?_
    refine vv_iload_n (q := 26) hC dX4_markIs_25 (x := r) rfl rfl ?_
    refine pm_pM (q := 29) hY hC 16 hi_X4 hf_markSerial (by decide) rfl rfl (x := r) (ty := .int) (by decide +kernel) rfl rfl (fun _ => rfl) dX4_markIs_26 rfl ?_
    refine vv_iconst (q := 30) hC (nI 1) dX4_markIs_29 (by decide) rfl ?_
    refine vv_zret (v := nI (1)) hC (by first | rfl | decide) dX4_markIs_30 ?_
    rw [hp]
    exact ⟨congrArg (fun z => some (Value.int z)) (vv_B1 (show ¬ σ 0 19 = 0 from c_14)).symm, by unfold pm_mk; rw [if_neg (show ¬ σ 0 19 = 0 from c_14)]⟩
  · refine vv_iconst (q := 18) hC (nI 0) dX4_markIs_17 (by decide) rfl ?_
    refine vv_zret (v := nI (0)) hC (by first | rfl | decide) dX4_markIs_18 ?_
    rw [hp]
    exact ⟨congrArg (fun z => some (Value.int z)) (vv_B0 (fun h => h (show σ 0 19 = 0 from c_14))).symm, by unfold pm_mk; rw [if_pos (show σ 0 19 = 0 from c_14)]⟩
set_option maxRecDepth 100000 in
set_option maxHeartbeats 4000000 in
theorem cm_X4_cellsOf (l : Launch) (Y : vv_Y) (n : Nat) (hY : pm_sys Y n) (σ : vv_S) (k : Nat) (hk : k < 16) : vv_M l Y yX4_cellsOf wsX4_cellsOf { frames := 0, cells := 0, slots := 0, locals := 0 } [.ref (Y.2.1 (0)), .int (nI (k))] σ (vv_R (.int (nI (pm_cells σ n k))) σ) := by
  refine vv_M.of (cc := cX4_cellsOf) (maxL := 4) (ret := (some .int)) hY.ok (by decide) rfl (Nat.le_of_ble_eq_true rfl) ?_
  intro Z hl hp hC
  subst hl
  have hi_X4 : ∀ w ∈ u_ws RX4 TX4 25, w ∈ wsX4_cellsOf := by decide +kernel
  have hf_hasParity : Cond.fieldLink RX4 42 "ParityRowModel" (TX4 12).2.1 (TX4 12).2.2.1 ∈ wsX4_cellsOf := by decide +kernel
  have hf_many : Cond.fieldLink RX4 69 "ParityRowModel" (TX4 1).2.1 (TX4 1).2.2.1 ∈ wsX4_cellsOf := by decide +kernel
  have hf_bits : Cond.fieldLink RX4 39 "ParityRowModel" (TX4 11).2.1 (TX4 11).2.2.1 ∈ wsX4_cellsOf := by decide +kernel
  have hlo := hY.lo
  have hhi := hY.hi
  refine vv_loc (L' := [(0, .ref (Y.2.1 (0))), (1, .int (nI (k)))]) rfl ?_
  refine vv_aload_n (q := 1) hC dX4_cellsOf_0 (x := Y.2.1 (0)) rfl rfl ?_
  refine pm_gM (q := 4) hY hC 12 hi_X4 hf_hasParity (by decide) rfl (v := .ref (Y.2.1 (10))) rfl dX4_cellsOf_1 rfl ?_
  refine vv_iload_n (q := 5) hC dX4_cellsOf_4 (x := nI (k)) rfl rfl ?_
  refine pm_ld_hasParity (q := 6) hY hC (i := k) (by omega) dX4_cellsOf_5 rfl ?_
  refine vv_if_eq (x := σ 10 k) (q := 9) (tgt := 13) hC dX4_cellsOf_6 (by decide) rfl (fun c_6 => ?_) (fun c_6 => ?_)
  · refine vv_iconst (q := 14) hC (nI 2) dX4_cellsOf_13 (by decide) rfl ?_
    refine vv_istore_n (L' := [(0, .ref (Y.2.1 (0))), (1, .int (nI (k))), (2, .int (nI (2)))]) (q := 15) hC dX4_cellsOf_14 (by decide) rfl rfl rfl ?_
    refine vv_iconst (q := 16) hC (nI 0) dX4_cellsOf_15 (by decide) rfl ?_
    refine vv_istore_n (L' := [(0, .ref (Y.2.1 (0))), (1, .int (nI (k))), (2, .int (nI (2))), (3, .int (nI (0)))]) (q := 17) hC dX4_cellsOf_16 (by decide) rfl rfl rfl ?_
    have lp_17 : ∀ d : Nat, (d ≤ n - 1) → vv_V Y 4 Z σ 17 [(0, .ref (Y.2.1 (0))), (1, .int (nI (k))), (2, .int (nI ((if σ 10 k = 0 then 2 else 3) + pm_nb (σ 9 k) d))), (3, .int (nI (d)))] [] := by
      refine vv_ind (fun d => n - d) (fun d ih_17 => ?_)
      intro hd
      refine vv_iload_n (q := 18) hC dX4_cellsOf_17 (x := nI (d)) rfl rfl ?_
      refine vv_aload_n (q := 19) hC dX4_cellsOf_18 (x := Y.2.1 (0)) rfl rfl ?_
      refine pm_gM (q := 22) hY hC 1 hi_X4 hf_many (by decide) rfl (v := .int (nI (n))) rfl dX4_cellsOf_19 rfl ?_
      refine vv_iconst (q := 23) hC (nI 1) dX4_cellsOf_22 (by decide) rfl ?_
      refine vv_subN (x := n) (y := 1) (q := 24) hC dX4_cellsOf_23 (by omega) rfl ?_
      refine vv_icmpN_ge (x := d) (y := n - 1) (q := 27) (tgt := 46) hC dX4_cellsOf_24 (by decide) (by omega) (by omega) rfl (fun c_24 => ?_) (fun c_24 => ?_)
      · refine vv_iload_n (q := 47) hC dX4_cellsOf_46 (x := nI ((if σ 10 k = 0 then 2 else 3) + pm_nb (σ 9 k) d)) rfl rfl ?_
        refine vv_iret (v := nI ((if σ 10 k = 0 then 2 else 3) + pm_nb (σ 9 k) d)) hC dX4_cellsOf_47 ?_
        rw [hp]
        have ed : d = n - 1 := by omega
        subst ed
        exact ⟨rfl, rfl⟩
      · refine vv_iload_n (q := 28) hC dX4_cellsOf_27 (x := nI ((if σ 10 k = 0 then 2 else 3) + pm_nb (σ 9 k) d)) rfl rfl ?_
        refine vv_aload_n (q := 29) hC dX4_cellsOf_28 (x := Y.2.1 (0)) rfl rfl ?_
        refine pm_gM (q := 32) hY hC 11 hi_X4 hf_bits (by decide) rfl (v := .ref (Y.2.1 (9))) rfl dX4_cellsOf_29 rfl ?_
        refine vv_iload_n (q := 33) hC dX4_cellsOf_32 (x := nI (k)) rfl rfl ?_
        refine pm_ld_bits (q := 34) hY hC (i := k) (by omega) dX4_cellsOf_33 rfl ?_
        refine vv_iload_n (q := 35) hC dX4_cellsOf_34 (x := nI (d)) rfl rfl ?_
        refine vv_ishr (x := σ 9 k) (y := nI (d)) (q := 36) hC dX4_cellsOf_35 rfl ?_
        refine vv_iconst (q := 37) hC (nI 1) dX4_cellsOf_36 (by decide) rfl ?_
        refine vv_iand (x := (σ 9 k) >>> ((nI (d)) &&& 31)) (y := nI (1)) (q := 38) hC dX4_cellsOf_37 rfl ?_
        refine vv_top (y := nI (if pc_bit (σ 9 k) d then 1 else 0)) (pm_bit01 _ _) ?_
        refine vv_addN (x := (if σ 10 k = 0 then 2 else 3) + pm_nb (σ 9 k) d) (y := if pc_bit (σ 9 k) d then 1 else 0) (q := 39) hC dX4_cellsOf_38 rfl ?_
        refine vv_istore_n (L' := [(0, .ref (Y.2.1 (0))), (1, .int (nI (k))), (2, .int (nI (((if σ 10 k = 0 then 2 else 3) + pm_nb (σ 9 k) d) + (if pc_bit (σ 9 k) d then 1 else 0)))), (3, .int (nI (d)))]) (q := 40) hC dX4_cellsOf_39 (by decide) rfl rfl rfl ?_
        refine vv_iincN (x := d) (L' := [(0, .ref (Y.2.1 (0))), (1, .int (nI (k))), (2, .int (nI (((if σ 10 k = 0 then 2 else 3) + pm_nb (σ 9 k) d) + (if pc_bit (σ 9 k) d then 1 else 0)))), (3, .int (nI (d + 1)))]) (q := 43) hC dX4_cellsOf_40 rfl (by decide) rfl rfl rfl ?_
        refine vv_goto (tgt := 17) hC dX4_cellsOf_43 (by decide) ?_
        refine vv_loc (L' := [(0, .ref (Y.2.1 (0))), (1, .int (nI (k))), (2, .int (nI ((if σ 10 k = 0 then 2 else 3) + pm_nb (σ 9 k) (d + 1)))), (3, .int (nI ((d + 1))))]) (by rw [show pm_nb (σ 9 k) (d + 1) = pm_nb (σ 9 k) d + (if pc_bit (σ 9 k) d then 1 else 0) from rfl, Nat.add_assoc]) ?_
        exact ih_17 (d + 1) (by first | omega | (dsimp only; omega))  (by omega)
    refine vv_loc (L' := [(0, .ref (Y.2.1 (0))), (1, .int (nI (k))), (2, .int (nI ((if σ 10 k = 0 then 2 else 3) + pm_nb (σ 9 k) 0))), (3, .int (nI (0)))]) (by rw [if_pos c_6]; rfl) ?_
    exact lp_17 0 (by omega)
  · refine vv_iconst (q := 10) hC (nI 3) dX4_cellsOf_9 (by decide) rfl ?_
    refine vv_goto (tgt := 14) hC dX4_cellsOf_10 (by decide) ?_
    refine vv_istore_n (L' := [(0, .ref (Y.2.1 (0))), (1, .int (nI (k))), (2, .int (nI (3)))]) (q := 15) hC dX4_cellsOf_14 (by decide) rfl rfl rfl ?_
    refine vv_iconst (q := 16) hC (nI 0) dX4_cellsOf_15 (by decide) rfl ?_
    refine vv_istore_n (L' := [(0, .ref (Y.2.1 (0))), (1, .int (nI (k))), (2, .int (nI (3))), (3, .int (nI (0)))]) (q := 17) hC dX4_cellsOf_16 (by decide) rfl rfl rfl ?_
    have lp_17 : ∀ d : Nat, (d ≤ n - 1) → vv_V Y 4 Z σ 17 [(0, .ref (Y.2.1 (0))), (1, .int (nI (k))), (2, .int (nI ((if σ 10 k = 0 then 2 else 3) + pm_nb (σ 9 k) d))), (3, .int (nI (d)))] [] := by
      refine vv_ind (fun d => n - d) (fun d ih_17 => ?_)
      intro hd
      refine vv_iload_n (q := 18) hC dX4_cellsOf_17 (x := nI (d)) rfl rfl ?_
      refine vv_aload_n (q := 19) hC dX4_cellsOf_18 (x := Y.2.1 (0)) rfl rfl ?_
      refine pm_gM (q := 22) hY hC 1 hi_X4 hf_many (by decide) rfl (v := .int (nI (n))) rfl dX4_cellsOf_19 rfl ?_
      refine vv_iconst (q := 23) hC (nI 1) dX4_cellsOf_22 (by decide) rfl ?_
      refine vv_subN (x := n) (y := 1) (q := 24) hC dX4_cellsOf_23 (by omega) rfl ?_
      refine vv_icmpN_ge (x := d) (y := n - 1) (q := 27) (tgt := 46) hC dX4_cellsOf_24 (by decide) (by omega) (by omega) rfl (fun c_24 => ?_) (fun c_24 => ?_)
      · refine vv_iload_n (q := 47) hC dX4_cellsOf_46 (x := nI ((if σ 10 k = 0 then 2 else 3) + pm_nb (σ 9 k) d)) rfl rfl ?_
        refine vv_iret (v := nI ((if σ 10 k = 0 then 2 else 3) + pm_nb (σ 9 k) d)) hC dX4_cellsOf_47 ?_
        rw [hp]
        have ed : d = n - 1 := by omega
        subst ed
        exact ⟨rfl, rfl⟩
      · refine vv_iload_n (q := 28) hC dX4_cellsOf_27 (x := nI ((if σ 10 k = 0 then 2 else 3) + pm_nb (σ 9 k) d)) rfl rfl ?_
        refine vv_aload_n (q := 29) hC dX4_cellsOf_28 (x := Y.2.1 (0)) rfl rfl ?_
        refine pm_gM (q := 32) hY hC 11 hi_X4 hf_bits (by decide) rfl (v := .ref (Y.2.1 (9))) rfl dX4_cellsOf_29 rfl ?_
        refine vv_iload_n (q := 33) hC dX4_cellsOf_32 (x := nI (k)) rfl rfl ?_
        refine pm_ld_bits (q := 34) hY hC (i := k) (by omega) dX4_cellsOf_33 rfl ?_
        refine vv_iload_n (q := 35) hC dX4_cellsOf_34 (x := nI (d)) rfl rfl ?_
        refine vv_ishr (x := σ 9 k) (y := nI (d)) (q := 36) hC dX4_cellsOf_35 rfl ?_
        refine vv_iconst (q := 37) hC (nI 1) dX4_cellsOf_36 (by decide) rfl ?_
        refine vv_iand (x := (σ 9 k) >>> ((nI (d)) &&& 31)) (y := nI (1)) (q := 38) hC dX4_cellsOf_37 rfl ?_
        refine vv_top (y := nI (if pc_bit (σ 9 k) d then 1 else 0)) (pm_bit01 _ _) ?_
        refine vv_addN (x := (if σ 10 k = 0 then 2 else 3) + pm_nb (σ 9 k) d) (y := if pc_bit (σ 9 k) d then 1 else 0) (q := 39) hC dX4_cellsOf_38 rfl ?_
        refine vv_istore_n (L' := [(0, .ref (Y.2.1 (0))), (1, .int (nI (k))), (2, .int (nI (((if σ 10 k = 0 then 2 else 3) + pm_nb (σ 9 k) d) + (if pc_bit (σ 9 k) d then 1 else 0)))), (3, .int (nI (d)))]) (q := 40) hC dX4_cellsOf_39 (by decide) rfl rfl rfl ?_
        refine vv_iincN (x := d) (L' := [(0, .ref (Y.2.1 (0))), (1, .int (nI (k))), (2, .int (nI (((if σ 10 k = 0 then 2 else 3) + pm_nb (σ 9 k) d) + (if pc_bit (σ 9 k) d then 1 else 0)))), (3, .int (nI (d + 1)))]) (q := 43) hC dX4_cellsOf_40 rfl (by decide) rfl rfl rfl ?_
        refine vv_goto (tgt := 17) hC dX4_cellsOf_43 (by decide) ?_
        refine vv_loc (L' := [(0, .ref (Y.2.1 (0))), (1, .int (nI (k))), (2, .int (nI ((if σ 10 k = 0 then 2 else 3) + pm_nb (σ 9 k) (d + 1)))), (3, .int (nI ((d + 1))))]) (by rw [show pm_nb (σ 9 k) (d + 1) = pm_nb (σ 9 k) d + (if pc_bit (σ 9 k) d then 1 else 0) from rfl, Nat.add_assoc]) ?_
        exact ih_17 (d + 1) (by first | omega | (dsimp only; omega))  (by omega)
    refine vv_loc (L' := [(0, .ref (Y.2.1 (0))), (1, .int (nI (k))), (2, .int (nI ((if σ 10 k = 0 then 2 else 3) + pm_nb (σ 9 k) 0))), (3, .int (nI (0)))]) (by rw [if_neg c_6]; rfl) ?_
    exact lp_17 0 (by omega)
set_option maxRecDepth 100000 in
set_option maxHeartbeats 4000000 in
theorem cm_X4_free (l : Launch) (Y : vv_Y) (n : Nat) (hY : pm_sys Y n) (σ : vv_S) (r : Nat) (hr : σ 0 8 = nI r) (hr10 : r ≤ 15) : vv_M l Y yX4_free wsX4_free { frames := 1, cells := 0, slots := 0, locals := 23 } [.ref (Y.2.1 (0))] σ (vv_R (.int (pm_fr σ n r)) σ) := by
  refine vv_M.of (cc := cX4_free) (maxL := 3) (ret := (some .int)) hY.ok (by decide) rfl (Nat.le_of_ble_eq_true rfl) ?_
  intro Z hl hp hC
  subst hl
  have hi_X4 : ∀ w ∈ u_ws RX4 TX4 25, w ∈ wsX4_free := by decide +kernel
  have hf_records : Cond.fieldLink RX4 120 "ParityRowModel" (TX4 8).2.1 (TX4 8).2.2.1 ∈ wsX4_free := by decide +kernel
  have hlo := hY.lo
  have hhi := hY.hi
  refine vv_loc (L' := [(0, .ref (Y.2.1 (0)))]) rfl ?_
  refine vv_bipush (q := 2) hC (nI 32) dX4_free_0 (by decide) rfl ?_
  refine vv_istore_n (L' := [(0, .ref (Y.2.1 (0))), (1, .int (nI (32)))]) (q := 3) hC dX4_free_2 (by decide) rfl rfl rfl ?_
  refine vv_iconst (q := 4) hC (nI 0) dX4_free_3 (by decide) rfl ?_
  refine vv_istore_n (L' := [(0, .ref (Y.2.1 (0))), (1, .int (nI (32))), (2, .int (nI (0)))]) (q := 5) hC dX4_free_4 (by decide) rfl rfl rfl ?_
  have lp_5 : ∀ k : Nat, (k ≤ r) → vv_V Y 3 Z σ 5 [(0, .ref (Y.2.1 (0))), (1, .int (pm_fr σ n k)), (2, .int (nI (k)))] [] := by
    refine vv_ind (fun k => r - k) (fun k ih_5 => ?_)
    intro hk
    refine vv_iload_n (q := 6) hC dX4_free_5 (x := nI (k)) rfl rfl ?_
    refine vv_aload_n (q := 7) hC dX4_free_6 (x := Y.2.1 (0)) rfl rfl ?_
    refine pm_gM (q := 10) hY hC 8 hi_X4 hf_records (by decide) rfl (v := .int (σ 0 8)) rfl dX4_free_7 rfl ?_
    refine vv_top (y := nI (r)) (hr) ?_
    refine vv_icmpN_ge (x := k) (y := r) (q := 13) (tgt := 27) hC dX4_free_10 (by decide) (by omega) (by omega) rfl (fun c_10 => ?_) (fun c_10 => ?_)
    · refine vv_iload_n (q := 28) hC dX4_free_27 (x := pm_fr σ n k) rfl rfl ?_
      refine vv_iret (v := pm_fr σ n k) hC dX4_free_28 ?_
      rw [hp]
      have ek : k = r := by omega
      subst ek
      exact ⟨rfl, rfl⟩
    · refine vv_iload_n (q := 14) hC dX4_free_13 (x := pm_fr σ n k) rfl rfl ?_
      refine vv_aload_n (q := 15) hC dX4_free_14 (x := Y.2.1 (0)) rfl rfl ?_
      refine vv_iload_n (q := 16) hC dX4_free_15 (x := nI (k)) rfl rfl ?_
      refine vv_callV (n := 1) (k := 0) (As := [.int (nI (k))]) (st := [.int (pm_fr σ n k)]) (q := 19) hC (hY.k (by decide)) (hY.M _) (by rw [hY.cl]; rfl) (cm_X4_cellsOf _ Y n hY σ k (by omega)) gX4_free_X4_cellsOf rfl (by decide +kernel) dX4_free_16 rfl rfl rfl (vv_kR ?_)
      refine vv_isub (x := pm_fr σ n k) (y := nI (pm_cells σ n k)) (q := 20) hC dX4_free_19 rfl ?_
      refine vv_istore_n (L' := [(0, .ref (Y.2.1 (0))), (1, .int ((pm_fr σ n k) - (nI (pm_cells σ n k)))), (2, .int (nI (k)))]) (q := 21) hC dX4_free_20 (by decide) rfl rfl rfl ?_
      refine vv_iincN (x := k) (L' := [(0, .ref (Y.2.1 (0))), (1, .int ((pm_fr σ n k) - (nI (pm_cells σ n k)))), (2, .int (nI (k + 1)))]) (q := 24) hC dX4_free_21 rfl (by decide) rfl rfl rfl ?_
      refine vv_goto (tgt := 5) hC dX4_free_24 (by decide) ?_
      exact ih_5 (k + 1) (by first | omega | (dsimp only; omega))  (by omega)
  exact lp_5 0 (by omega)
set_option maxRecDepth 100000 in
set_option maxHeartbeats 4000000 in
theorem cm_X4_freshFrom (l : Launch) (Y : vv_Y) (n : Nat) (hY : pm_sys Y n) (σ : vv_S) (k : Nat) (p : Nat) (hk : k < 16) (hp6 : p < 6) : vv_M l Y yX4_freshFrom wsX4_freshFrom { frames := 0, cells := 0, slots := 0, locals := 0 } [.ref (Y.2.1 (0)), .int (nI (k)), .int (nI (p))] σ (vv_Rv (pm_ff σ k p)) := by
  refine vv_M.of (cc := cX4_freshFrom) (maxL := 4) (ret := none) hY.ok (by decide) rfl (Nat.le_of_ble_eq_true rfl) ?_
  intro Z hl hp hC
  subst hl
  have hi_X4 : ∀ w ∈ u_ws RX4 TX4 25, w ∈ wsX4_freshFrom := by decide +kernel
  have hf_fresh : Cond.fieldLink RX4 63 "ParityRowModel" (TX4 23).2.1 (TX4 23).2.2.1 ∈ wsX4_freshFrom := by decide +kernel
  have hf_kept : Cond.fieldLink RX4 48 "ParityRowModel" (TX4 14).2.1 (TX4 14).2.2.1 ∈ wsX4_freshFrom := by decide +kernel
  have hlo := hY.lo
  have hhi := hY.hi
  refine vv_loc (L' := [(0, .ref (Y.2.1 (0))), (1, .int (nI (k))), (2, .int (nI (p)))]) rfl ?_
  refine vv_iconst (q := 1) hC (nI 0) dX4_freshFrom_0 (by decide) rfl ?_
  refine vv_istore_n (L' := [(0, .ref (Y.2.1 (0))), (1, .int (nI (k))), (2, .int (nI (p))), (3, .int (nI (0)))]) (q := 2) hC dX4_freshFrom_1 (by decide) rfl rfl rfl ?_
  have lp_2 : ∀ i : Nat, (i ≤ 8) → vv_V Y 4 Z (vv_row σ 14 (fun j => if j < i then σ 12 (8 * (6 * k + p) + j) else σ 14 j)) 2 [(0, .ref (Y.2.1 (0))), (1, .int (nI (k))), (2, .int (nI (p))), (3, .int (nI (i)))] [] := by
    refine vv_ind (fun i => 8 - i) (fun i ih_2 => ?_)
    intro hi8
    refine vv_iload_n (q := 3) hC dX4_freshFrom_2 (x := nI (i)) rfl rfl ?_
    refine vv_bipush (q := 5) hC (nI 8) dX4_freshFrom_3 (by decide) rfl ?_
    refine vv_icmpN_ge (x := i) (y := 8) (q := 8) (tgt := 36) hC dX4_freshFrom_5 (by decide) (by omega) (by omega) rfl (fun c_5 => ?_) (fun c_5 => ?_)
    · refine vv_vret hC dX4_freshFrom_36 ?_
      rw [hp]
      have e8 : i = 8 := by omega
      subst e8
      exact ⟨rfl, rfl⟩
    · refine vv_aload_n (q := 9) hC dX4_freshFrom_8 (x := Y.2.1 (0)) rfl rfl ?_
      refine pm_gM (q := 12) hY hC 23 hi_X4 hf_fresh (by decide) rfl (v := .ref (Y.2.1 (14))) rfl dX4_freshFrom_9 rfl ?_
      refine vv_iload_n (q := 13) hC dX4_freshFrom_12 (x := nI (i)) rfl rfl ?_
      refine vv_aload_n (q := 14) hC dX4_freshFrom_13 (x := Y.2.1 (0)) rfl rfl ?_
      refine pm_gM (q := 17) hY hC 14 hi_X4 hf_kept (by decide) rfl (v := .ref (Y.2.1 (12))) rfl dX4_freshFrom_14 rfl ?_
      refine vv_bipush (q := 19) hC (nI 8) dX4_freshFrom_17 (by decide) rfl ?_
      refine vv_bipush (q := 21) hC (nI 6) dX4_freshFrom_19 (by decide) rfl ?_
      refine vv_iload_n (q := 22) hC dX4_freshFrom_21 (x := nI (k)) rfl rfl ?_
      refine vv_mulN (x := 6) (y := k) (q := 23) hC dX4_freshFrom_22 rfl ?_
      refine vv_iload_n (q := 24) hC dX4_freshFrom_23 (x := nI (p)) rfl rfl ?_
      refine vv_addN (x := 6 * k) (y := p) (q := 25) hC dX4_freshFrom_24 rfl ?_
      refine vv_mulN (x := 8) (y := (6 * k) + p) (q := 26) hC dX4_freshFrom_25 rfl ?_
      refine vv_iload_n (q := 27) hC dX4_freshFrom_26 (x := nI (i)) rfl rfl ?_
      refine vv_addN (x := 8 * ((6 * k) + p)) (y := i) (q := 28) hC dX4_freshFrom_27 rfl ?_
      refine pm_ld_kept (q := 29) hY hC (i := (8 * ((6 * k) + p)) + i) (by omega) dX4_freshFrom_28 rfl ?_
      refine vv_top (y := σ 12 (8 * (6 * k + p) + i)) (by rw [vv_row_n (by decide)]) ?_
      refine pm_st_fresh (q := 30) hY hC (i := i) (x := σ 12 (8 * (6 * k + p) + i)) (by omega) dX4_freshFrom_29 rfl ?_
      refine vv_iincN (x := i) (L' := [(0, .ref (Y.2.1 (0))), (1, .int (nI (k))), (2, .int (nI (p))), (3, .int (nI (i + 1)))]) (q := 33) hC dX4_freshFrom_30 rfl (by decide) rfl rfl rfl ?_
      refine vv_goto (tgt := 2) hC dX4_freshFrom_33 (by decide) ?_
      refine vv_st (σ' := vv_row σ 14 (fun j => if j < (i + 1) then σ 12 (8 * (6 * k + p) + j) else σ 14 j)) (by rw [vv_up_row]; exact congrArg (vv_row σ 14) (funext fun j => by unfold upd; grind)) ?_
      exact ih_2 (i + 1) (by first | omega | (dsimp only; omega))  (by omega)
  refine vv_st (σ' := vv_row σ 14 (fun j => if j < 0 then σ 12 (8 * (6 * k + p) + j) else σ 14 j)) ((vv_row_of (funext fun j => by grind)).symm) ?_
  exact lp_2 0 (by omega)
