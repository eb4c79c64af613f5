set_option maxRecDepth 100000 in
set_option maxHeartbeats 4000000 in
theorem cm_X3_members (l : Launch) (Y : vv_Y) (n : Nat) (hY : pc_sys Y n) (σ : vv_S) : vv_M l Y yX3_members wsX3_members { frames := 0, cells := 0, slots := 0, locals := 0 } [.ref (Y.2.1 (0))] σ (vv_R (.int (nI (n))) σ) := by
  refine vv_M.of (cc := cX3_members) (maxL := 1) (ret := (some .int)) hY.ok (by decide) rfl (Nat.le_of_ble_eq_true rfl) ?_
  intro Z hl hp hC
  subst hl
  have hi_X3 : ∀ w ∈ u_ws RX3 TX3 10, w ∈ wsX3_members := by decide +kernel
  have hf_width : Cond.fieldLink RX3 36 "ParityRow" (TX3 0).2.1 (TX3 0).2.2.1 ∈ wsX3_members := by decide +kernel
  have hlo := hY.lo
  have hhi := hY.hi
  refine vv_loc (L' := [(0, .ref (Y.2.1 (0)))]) rfl ?_
  refine vv_aload_n (q := 1) hC dX3_members_0 (x := Y.2.1 (0)) rfl rfl ?_
  refine pc_gP (q := 4) hY hC 0 hi_X3 hf_width (by decide) rfl (v := .int (nI (n))) rfl dX3_members_1 rfl ?_
  refine vv_iret (v := nI (n)) hC dX3_members_4 ?_
  rw [hp]
  exact ⟨rfl, rfl⟩
set_option maxRecDepth 100000 in
set_option maxHeartbeats 4000000 in
theorem cm_X3_place (l : Launch) (Y : vv_Y) (n : Nat) (hY : pc_sys Y n) (σ : vv_S) (b : Int32) (x : Int32) : vv_M l Y yX3_place wsX3_place { frames := 2, cells := 0, slots := 0, locals := 43 } [.ref (Y.2.1 (0)), .int (b), .int (x)] σ (vv_R (.int (pc_place n b x)) σ) := by
  refine vv_M.of (cc := cX3_place) (maxL := 4) (ret := (some .int)) hY.ok (by decide) rfl (Nat.le_of_ble_eq_true rfl) ?_
  intro Z hl hp hC
  subst hl
  have hi_X3 : ∀ w ∈ u_ws RX3 TX3 10, w ∈ wsX3_place := by decide +kernel
  have hf_data : Cond.fieldLink RX3 39 "ParityRow" (TX3 1).2.1 (TX3 1).2.2.1 ∈ wsX3_place := by decide +kernel
  have hlo := hY.lo
  have hhi := hY.hi
  refine vv_loc (L' := [(0, .ref (Y.2.1 (0))), (1, .int (b)), (2, .int (x))]) rfl ?_
  refine vv_aload_n (q := 1) hC dX3_place_0 (x := Y.2.1 (0)) rfl rfl ?_
  refine vv_iload_n (q := 2) hC dX3_place_1 (x := b) rfl rfl ?_
  refine vv_callV (n := 1) (k := 0) (As := [.int (b)]) (st := []) (q := 5) hC (hY.k (by decide)) (hY.P _) (by rw [hY.cl]; rfl) (cm_X3_isBlock _ Y n hY σ b ) gX3_place_X3_isBlock rfl (by decide +kernel) dX3_place_2 rfl rfl rfl (vv_kR ?_)
  refine vv_ifB_ne (b := ¬ b < 0 ∧ b < nI (24 * (n - 1))) (q := 8) (tgt := 11) hC dX3_place_5 (by decide) rfl (fun c_5 => ?_) (fun c_5 => ?_)
  · have hn_b := pc_nat (b := b) (N := 24 * (n - 1)) c_5 (by omega)
    have hdm := pc_dm hlo hn_b.2
    refine vv_loc (L' := [(0, .ref (Y.2.1 (0))), (1, .int (nI (b.toNatClampNeg))), (2, .int (x))]) (by rw [← hn_b.1]) ?_
    refine vv_iload_n (q := 12) hC dX3_place_11 (x := nI (b.toNatClampNeg)) rfl rfl ?_
    refine vv_aload_n (q := 13) hC dX3_place_12 (x := Y.2.1 (0)) rfl rfl ?_
    refine pc_gP (q := 16) hY hC 1 hi_X3 hf_data (by decide) rfl (v := .int (nI (n - 1))) rfl dX3_place_13 rfl ?_
    refine vv_divN (x := b.toNatClampNeg) (y := n - 1) (q := 17) hC dX3_place_16 (by omega) (by omega) (by omega) rfl ?_
    refine vv_istore_n (L' := [(0, .ref (Y.2.1 (0))), (1, .int (nI (b.toNatClampNeg))), (2, .int (x)), (3, .int (nI (b.toNatClampNeg / (n - 1))))]) (q := 18) hC dX3_place_17 (by decide) rfl rfl rfl ?_
    refine vv_iload_n (q := 19) hC dX3_place_18 (x := x) rfl rfl ?_
    by_cases s_19_0 : x = 0
    · refine vv_tabIn (x := x) (tgt := 44) hC dX3_place_19 (by rw [s_19_0]; decide) (by rw [s_19_0]; decide) (by rw [s_19_0]; rfl) (by decide) ?_
      refine vv_iload_n (q := 45) hC dX3_place_44 (x := nI (b.toNatClampNeg / (n - 1))) rfl rfl ?_
      refine vv_iret (v := nI (b.toNatClampNeg / (n - 1))) hC dX3_place_45 ?_
      rw [hp]
      unfold pc_place
      rw [if_pos c_5, if_pos s_19_0]
      exact ⟨rfl, rfl⟩
    by_cases s_19_1 : x = 1
    · refine vv_tabIn (x := x) (tgt := 46) hC dX3_place_19 (by rw [s_19_1]; decide) (by rw [s_19_1]; decide) (by rw [s_19_1]; rfl) (by decide) ?_
      refine vv_aload_n (q := 47) hC dX3_place_46 (x := Y.2.1 (0)) rfl rfl ?_
      refine vv_iload_n (q := 48) hC dX3_place_47 (x := nI (b.toNatClampNeg / (n - 1))) rfl rfl ?_
      refine vv_iload_n (q := 49) hC dX3_place_48 (x := nI (b.toNatClampNeg)) rfl rfl ?_
      refine vv_aload_n (q := 50) hC dX3_place_49 (x := Y.2.1 (0)) rfl rfl ?_
      refine pc_gP (q := 53) hY hC 1 hi_X3 hf_data (by decide) rfl (v := .int (nI (n - 1))) rfl dX3_place_50 rfl ?_
      refine vv_remN (x := b.toNatClampNeg) (y := n - 1) (q := 54) hC dX3_place_53 (by omega) (by omega) (by omega) rfl ?_
      refine vv_callV (n := 2) (k := 0) (As := [.int (nI (b.toNatClampNeg / (n - 1))), .int (nI (b.toNatClampNeg % (n - 1)))]) (st := []) (q := 57) hC (hY.k (by decide)) (hY.P _) (by rw [hY.cl]; rfl) (cm_X3_memberOf _ Y n hY σ (b.toNatClampNeg / (n - 1)) (b.toNatClampNeg % (n - 1)) hdm.1 hdm.2) gX3_place_X3_memberOf rfl (by decide +kernel) dX3_place_54 rfl rfl rfl (vv_kR ?_)
      refine vv_iret (v := nI (pc_mo n (b.toNatClampNeg / (n - 1)) (b.toNatClampNeg % (n - 1)))) hC dX3_place_57 ?_
      rw [hp]
      unfold pc_place
      rw [if_pos c_5, if_neg s_19_0, if_pos s_19_1]
      exact ⟨rfl, rfl⟩
    by_cases s_19_2 : x = 2
    · refine vv_tabIn (x := x) (tgt := 58) hC dX3_place_19 (by rw [s_19_2]; decide) (by rw [s_19_2]; decide) (by rw [s_19_2]; rfl) (by decide) ?_
      refine vv_aload_n (q := 59) hC dX3_place_58 (x := Y.2.1 (0)) rfl rfl ?_
      refine vv_iload_n (q := 60) hC dX3_place_59 (x := nI (b.toNatClampNeg / (n - 1))) rfl rfl ?_
      refine vv_callV (n := 1) (k := 0) (As := [.int (nI (b.toNatClampNeg / (n - 1)))]) (st := []) (q := 63) hC (hY.k (by decide)) (hY.P _) (by rw [hY.cl]; rfl) (cm_X3_parityMember _ Y n hY σ (b.toNatClampNeg / (n - 1)) hdm.1) gX3_place_X3_parityMember rfl (by decide +kernel) dX3_place_60 rfl rfl rfl (vv_kR ?_)
      refine vv_iret (v := nI (pc_pm n (b.toNatClampNeg / (n - 1)))) hC dX3_place_63 ?_
      rw [hp]
      unfold pc_place
      rw [if_pos c_5, if_neg s_19_0, if_neg s_19_1, if_pos s_19_2]
      exact ⟨rfl, rfl⟩
    refine vv_tabOut (x := x) (tgt := 64) hC dX3_place_19 (vv_swOut 0 3 (fun j hj => by rcases (show j = 0 ∨ j = 1 ∨ j = 2 by omega) with rfl | rfl | rfl <;> first | exact vv_swNe s_19_0 (by decide) | exact vv_swNe s_19_1 (by decide) | exact vv_swNe s_19_2 (by decide)) rfl) (by decide) ?_
    refine vv_bipush (q := 66) hC ((-102)) dX3_place_64 (by decide) rfl ?_
    refine vv_iret (v := (-102)) hC dX3_place_66 ?_
    rw [hp]
    unfold pc_place
    rw [if_pos c_5, if_neg s_19_0, if_neg s_19_1, if_neg s_19_2]
    exact ⟨rfl, rfl⟩
  · refine vv_bipush (q := 10) hC ((-101)) dX3_place_8 (by decide) rfl ?_
    refine vv_iret (v := (-101)) hC dX3_place_10 ?_
    rw [hp]
    unfold pc_place
    rw [if_neg c_5]
    exact ⟨rfl, rfl⟩
set_option maxRecDepth 100000 in
set_option maxHeartbeats 4000000 in
theorem cm_X3_look (l : Launch) (Y : vv_Y) (n : Nat) (hY : pc_sys Y n) (σ : vv_S) (b : Int32) (hJ : pc_J σ) : vv_M l Y yX3_look wsX3_look { frames := 5, cells := 0, slots := 0, locals := 112 } [.ref (Y.2.1 (0)), .int (b)] σ (vv_R (.int (pc_look σ n b)) σ) := by
  refine vv_M.of (cc := cX3_look) (maxL := 2) (ret := (some .int)) hY.ok (by decide) rfl (Nat.le_of_ble_eq_true rfl) ?_
  intro Z hl hp hC
  subst hl
  have hi_X3 : ∀ w ∈ u_ws RX3 TX3 10, w ∈ wsX3_look := by decide +kernel
  have hf_down : Cond.fieldLink RX3 16 "ParityRow" (TX3 6).2.1 (TX3 6).2.2.1 ∈ wsX3_look := by decide +kernel
  have hf_data : Cond.fieldLink RX3 39 "ParityRow" (TX3 1).2.1 (TX3 1).2.2.1 ∈ wsX3_look := by decide +kernel
  have hlo := hY.lo
  have hhi := hY.hi
  refine vv_loc (L' := [(0, .ref (Y.2.1 (0))), (1, .int (b))]) rfl ?_
  refine vv_aload_n (q := 1) hC dX3_look_0 (x := Y.2.1 (0)) rfl rfl ?_
  refine pc_gP (q := 4) hY hC 6 hi_X3 hf_down (by decide) rfl (v := .int (σ 0 6)) rfl dX3_look_1 rfl ?_
  refine vv_if_eq (x := σ 0 6) (q := 7) (tgt := 10) hC dX3_look_4 (by decide) rfl (fun c_4 => ?_) (fun c_4 => ?_)
  · refine vv_aload_n (q := 11) hC dX3_look_10 (x := Y.2.1 (0)) rfl rfl ?_
    refine vv_iload_n (q := 12) hC dX3_look_11 (x := b) rfl rfl ?_
    refine vv_callV (n := 1) (k := 0) (As := [.int (b)]) (st := []) (q := 15) hC (hY.k (by decide)) (hY.P _) (by rw [hY.cl]; rfl) (cm_X3_isBlock _ Y n hY σ b ) gX3_look_X3_isBlock rfl (by decide +kernel) dX3_look_12 rfl rfl rfl (vv_kR ?_)
    refine vv_ifB_ne (b := ¬ b < 0 ∧ b < nI (24 * (n - 1))) (q := 18) (tgt := 21) hC dX3_look_15 (by decide) rfl (fun c_15 => ?_) (fun c_15 => ?_)
    · have hn_b := pc_nat (b := b) (N := 24 * (n - 1)) c_15 (by omega)
      have hdm := pc_dm hlo hn_b.2
      refine vv_loc (L' := [(0, .ref (Y.2.1 (0))), (1, .int (nI (b.toNatClampNeg)))]) (by rw [← hn_b.1]) ?_
      refine vv_aload_n (q := 22) hC dX3_look_21 (x := Y.2.1 (0)) rfl rfl ?_
      refine vv_iload_n (q := 23) hC dX3_look_22 (x := nI (b.toNatClampNeg)) rfl rfl ?_
      refine vv_aload_n (q := 24) hC dX3_look_23 (x := Y.2.1 (0)) rfl rfl ?_
      refine pc_gP (q := 27) hY hC 1 hi_X3 hf_data (by decide) rfl (v := .int (nI (n - 1))) rfl dX3_look_24 rfl ?_
      refine vv_divN (x := b.toNatClampNeg) (y := n - 1) (q := 28) hC dX3_look_27 (by omega) (by omega) (by omega) rfl ?_
      refine vv_iload_n (q := 29) hC dX3_look_28 (x := nI (b.toNatClampNeg)) rfl rfl ?_
      refine vv_aload_n (q := 30) hC dX3_look_29 (x := Y.2.1 (0)) rfl rfl ?_
      refine pc_gP (q := 33) hY hC 1 hi_X3 hf_data (by decide) rfl (v := .int (nI (n - 1))) rfl dX3_look_30 rfl ?_
      refine vv_remN (x := b.toNatClampNeg) (y := n - 1) (q := 34) hC dX3_look_33 (by omega) (by omega) (by omega) rfl ?_
      refine vv_callV (n := 2) (k := 0) (As := [.int (nI (b.toNatClampNeg / (n - 1))), .int (nI (b.toNatClampNeg % (n - 1)))]) (st := []) (q := 37) hC (hY.k (by decide)) (hY.P _) (by rw [hY.cl]; rfl) (cm_X3_sourceOf _ Y n hY σ (pc_o σ) (pc_r σ) (b.toNatClampNeg / (n - 1)) (b.toNatClampNeg % (n - 1)) hJ.1 hJ.2.1 hJ.2.2.1 hJ.2.2.2.1 hdm.1 hdm.2) gX3_look_X3_sourceOf rfl (by decide +kernel) dX3_look_34 rfl rfl rfl (vv_kR ?_)
      refine vv_iret (v := nI (pc_src σ n (pc_o σ) (pc_r σ) (b.toNatClampNeg / (n - 1)) (b.toNatClampNeg % (n - 1)))) hC dX3_look_37 ?_
      rw [hp]
      unfold pc_look
      rw [if_pos c_4, if_pos c_15]
      exact ⟨rfl, rfl⟩
    · refine vv_bipush (q := 20) hC ((-101)) dX3_look_18 (by decide) rfl ?_
      refine vv_iret (v := (-101)) hC dX3_look_20 ?_
      rw [hp]
      unfold pc_look
      rw [if_pos c_4, if_neg c_15]
      exact ⟨rfl, rfl⟩
  · refine vv_bipush (q := 9) hC ((-100)) dX3_look_7 (by decide) rfl ?_
    refine vv_iret (v := (-100)) hC dX3_look_9 ?_
    rw [hp]
    unfold pc_look
    rw [if_neg c_4]
    exact ⟨rfl, rfl⟩
set_option maxRecDepth 100000 in
set_option maxHeartbeats 4000000 in
theorem cm_X3_drain (l : Launch) (Y : vv_Y) (n : Nat) (hY : pc_sys Y n) (σ : vv_S) (x : Int32) (hJ : pc_J σ) : vv_M l Y yX3_drain wsX3_drain { frames := 5, cells := 0, slots := 0, locals := 118 } [.ref (Y.2.1 (0)), .int (x)] σ (vv_R (.int ((pc_drain σ n x).1)) ((pc_drain σ n x).2)) := by
  refine vv_M.of (cc := cX3_drain) (maxL := 2) (ret := (some .int)) hY.ok (by decide) rfl (Nat.le_of_ble_eq_true rfl) ?_
  intro Z hl hp hC
  subst hl
  have hi_X2 : ∀ w ∈ u_ws RX2 TX2 6, w ∈ wsX3_drain := by decide +kernel
  have hi_X3 : ∀ w ∈ u_ws RX3 TX3 10, w ∈ wsX3_drain := by decide +kernel
  have hf_down : Cond.fieldLink RX3 16 "ParityRow" (TX3 6).2.1 (TX3 6).2.2.1 ∈ wsX3_drain := by decide +kernel
  have hf_log : Cond.fieldLink RX3 54 "ParityRow" (TX3 3).2.1 (TX3 3).2.2.1 ∈ wsX3_drain := by decide +kernel
  have hlo := hY.lo
  have hhi := hY.hi
  refine vv_loc (L' := [(0, .ref (Y.2.1 (0))), (1, .int (x))]) rfl ?_
  refine vv_aload_n (q := 1) hC dX3_drain_0 (x := Y.2.1 (0)) rfl rfl ?_
  refine pc_gP (q := 4) hY hC 6 hi_X3 hf_down (by decide) rfl (v := .int (σ 0 6)) rfl dX3_drain_1 rfl ?_
  refine vv_if_eq (x := σ 0 6) (q := 7) (tgt := 10) hC dX3_drain_4 (by decide) rfl (fun c_4 => ?_) (fun c_4 => ?_)
  · refine vv_iload_n (q := 11) hC dX3_drain_10 (x := x) rfl rfl ?_
    refine vv_iconst (q := 12) hC (nI 1) dX3_drain_11 (by decide) rfl ?_
    refine vv_icmp_lt (x := x) (y := nI (1)) (q := 15) (tgt := 21) hC dX3_drain_12 (by decide) rfl (fun c_12 => ?_) (fun c_12 => ?_)
    · refine vv_bipush (q := 23) hC ((-102)) dX3_drain_21 (by decide) rfl ?_
      refine vv_iret (v := (-102)) hC dX3_drain_23 ?_
      rw [hp]
      unfold pc_drain
      rw [if_pos c_4, if_pos c_12]
      exact ⟨rfl, rfl⟩
    · refine vv_iload_n (q := 16) hC dX3_drain_15 (x := x) rfl rfl ?_
      refine vv_bipush (q := 18) hC (nI 32) dX3_drain_16 (by decide) rfl ?_
      refine vv_icmp_le (x := x) (y := nI (32)) (q := 21) (tgt := 24) hC dX3_drain_18 (by decide) rfl (fun c_18 => ?_) (fun c_18 => ?_)
      · have hx := pc_rng c_12 c_18 (by decide)
        have hr10 := hJ.2.2.2.1
        refine vv_loc (L' := [(0, .ref (Y.2.1 (0))), (1, .int (nI (x.toNatClampNeg)))]) (by rw [← hx.1]) ?_
        refine vv_aload_n (q := 25) hC dX3_drain_24 (x := Y.2.1 (0)) rfl rfl ?_
        refine vv_iload_n (q := 26) hC dX3_drain_25 (x := nI (x.toNatClampNeg)) rfl rfl ?_
        refine vv_aload_n (q := 27) hC dX3_drain_26 (x := Y.2.1 (0)) rfl rfl ?_
        refine pc_gP (q := 30) hY hC 3 hi_X3 hf_log (by decide) rfl (v := .ref (Y.2.1 (2))) rfl dX3_drain_27 rfl ?_
        refine pc_gJN (q := 33) hY hC 2 hi_X2 nw_X3_107 (by decide) rfl (v := .int (σ 2 2)) rfl dX3_drain_30 rfl ?_
        refine vv_top (y := nI (pc_r σ)) (hJ.2.2.1) ?_
        refine vv_min (x := nI (x.toNatClampNeg)) (y := nI (pc_r σ)) (q := 36) hC (by decide +kernel) (by decide +kernel) (by decide +kernel) (by decide +kernel) rfl rfl dX3_drain_33 rfl ?_
        refine vv_top (y := nI (min x.toNatClampNeg (pc_r σ))) (pc_min (by omega) (by omega)) ?_
        refine vv_callV (n := 1) (k := 0) (As := [.int (nI (min x.toNatClampNeg (pc_r σ)))]) (st := []) (q := 39) hC (hY.k (by decide)) (hY.P _) (by rw [hY.cl]; rfl) (cm_X3_drainOldest _ Y n hY σ (min x.toNatClampNeg (pc_r σ)) hJ (Nat.min_le_right _ _)) gX3_drain_X3_drainOldest rfl (by decide +kernel) dX3_drain_36 rfl rfl rfl (vv_kR ?_)
        refine vv_ifB_eq (b := (pc_dr n (min x.toNatClampNeg (pc_r σ)) σ).1 = true) (q := 42) (tgt := 52) hC dX3_drain_39 (by decide) rfl (fun c_39 => ?_) (fun c_39 => ?_)
        · refine vv_bipush (q := 54) hC ((-106)) dX3_drain_52 (by decide) rfl ?_
          refine vv_iret (v := (-106)) hC dX3_drain_54 ?_
          rw [hp]
          unfold pc_drain
          rw [if_pos c_4, if_neg c_12, if_pos c_18, if_neg c_39]
          exact ⟨rfl, rfl⟩
        · refine vv_aload_n (q := 43) hC dX3_drain_42 (x := Y.2.1 (0)) rfl rfl ?_
          refine pc_gP (q := 46) hY hC 3 hi_X3 hf_log (by decide) rfl (v := .ref (Y.2.1 (2))) rfl dX3_drain_43 rfl ?_
          refine pc_gJN (q := 49) hY hC 2 hi_X2 nw_X3_107 (by decide) rfl (v := .int (((pc_dr n (min x.toNatClampNeg (pc_r σ)) σ).2) 2 2)) rfl dX3_drain_46 rfl ?_
          refine vv_goto (tgt := 54) hC dX3_drain_49 (by decide) ?_
          refine vv_iret (v := ((pc_dr n (min x.toNatClampNeg (pc_r σ)) σ).2) 2 2) hC dX3_drain_54 ?_
          rw [hp]
          unfold pc_drain
          rw [if_pos c_4, if_neg c_12, if_pos c_18, if_pos c_39]
          exact ⟨rfl, rfl⟩
      · refine vv_bipush (q := 23) hC ((-102)) dX3_drain_21 (by decide) rfl ?_
        refine vv_iret (v := (-102)) hC dX3_drain_23 ?_
        rw [hp]
        unfold pc_drain
        rw [if_pos c_4, if_neg c_12, if_neg c_18]
        exact ⟨rfl, rfl⟩
  · refine vv_bipush (q := 9) hC ((-100)) dX3_drain_7 (by decide) rfl ?_
    refine vv_iret (v := (-100)) hC dX3_drain_9 ?_
    rw [hp]
    unfold pc_drain
    rw [if_neg c_4]
    exact ⟨rfl, rfl⟩
set_option maxRecDepth 100000 in
set_option maxHeartbeats 4000000 in
theorem cm_X3_lose (l : Launch) (Y : vv_Y) (n : Nat) (hY : pc_sys Y n) (σ : vv_S) (x : Int32) : vv_M l Y yX3_lose wsX3_lose { frames := 2, cells := 0, slots := 0, locals := 42 } [.ref (Y.2.1 (0)), .int (x)] σ (vv_R (.int ((pc_lose σ n x).1)) ((pc_lose σ n x).2)) := by
  refine vv_M.of (cc := cX3_lose) (maxL := 2) (ret := (some .int)) hY.ok (by decide) rfl (Nat.le_of_ble_eq_true rfl) ?_
  intro Z hl hp hC
  subst hl
  have hi_X0 : ∀ w ∈ u_ws RX0 TX0 6, w ∈ wsX3_lose := by decide +kernel
  have hi_X3 : ∀ w ∈ u_ws RX3 TX3 10, w ∈ wsX3_lose := by decide +kernel
  have hf_down : Cond.fieldLink RX3 16 "ParityRow" (TX3 6).2.1 (TX3 6).2.2.1 ∈ wsX3_lose := by decide +kernel
  have hf_disks : Cond.fieldLink RX3 44 "ParityRow" (TX3 2).2.1 (TX3 2).2.2.1 ∈ wsX3_lose := by decide +kernel
  have hlo := hY.lo
  have hhi := hY.hi
  refine vv_loc (L' := [(0, .ref (Y.2.1 (0))), (1, .int (x))]) rfl ?_
  refine vv_aload_n (q := 1) hC dX3_lose_0 (x := Y.2.1 (0)) rfl rfl ?_
  refine pc_gP (q := 4) hY hC 6 hi_X3 hf_down (by decide) rfl (v := .int (σ 0 6)) rfl dX3_lose_1 rfl ?_
  refine vv_if_eq (x := σ 0 6) (q := 7) (tgt := 10) hC dX3_lose_4 (by decide) rfl (fun c_4 => ?_) (fun c_4 => ?_)
  · refine vv_aload_n (q := 11) hC dX3_lose_10 (x := Y.2.1 (0)) rfl rfl ?_
    refine vv_iload_n (q := 12) hC dX3_lose_11 (x := x) rfl rfl ?_
    refine vv_callV (n := 1) (k := 0) (As := [.int (x)]) (st := []) (q := 15) hC (hY.k (by decide)) (hY.P _) (by rw [hY.cl]; rfl) (cm_X3_isMember _ Y n hY σ x ) gX3_lose_X3_isMember rfl (by decide +kernel) dX3_lose_12 rfl rfl rfl (vv_kR ?_)
    refine vv_ifB_ne (b := ¬ x < 0 ∧ x < nI n) (q := 18) (tgt := 21) hC dX3_lose_15 (by decide) rfl (fun c_15 => ?_) (fun c_15 => ?_)
    · refine vv_aload_n (q := 22) hC dX3_lose_21 (x := Y.2.1 (0)) rfl rfl ?_
      refine vv_callV (n := 0) (k := 0) (As := []) (st := []) (q := 25) hC (hY.k (by decide)) (hY.P _) (by rw [hY.cl]; rfl) (cm_X3_allOn _ Y n hY σ  ) gX3_lose_X3_allOn rfl (by decide +kernel) dX3_lose_22 rfl rfl rfl (vv_kR ?_)
      refine vv_ifB_ne (b := pc_mt σ (nI 1) n 0 = -1 ∧ pc_mt σ (nI 2) n 0 = -1) (q := 28) (tgt := 31) hC dX3_lose_25 (by decide) rfl (fun c_25 => ?_) (fun c_25 => ?_)
      · have hn_x := pc_nat (b := x) (N := n) c_15 (by omega)
        refine vv_loc (L' := [(0, .ref (Y.2.1 (0))), (1, .int (nI (x.toNatClampNeg)))]) (by rw [← hn_x.1]) ?_
        refine vv_aload_n (q := 32) hC dX3_lose_31 (x := Y.2.1 (0)) rfl rfl ?_
        refine pc_gP (q := 35) hY hC 2 hi_X3 hf_disks (by decide) rfl (v := .ref (Y.2.1 (1))) rfl dX3_lose_32 rfl ?_
        refine vv_iload_n (q := 36) hC dX3_lose_35 (x := nI (x.toNatClampNeg)) rfl rfl ?_
        refine pc_ld_disks (q := 37) (m := x.toNatClampNeg) hY hC hn_x.2 dX3_lose_36 rfl ?_
        refine vv_iconst (q := 38) hC (nI 1) dX3_lose_37 (by decide) rfl ?_
        refine pc_pDN (q := 41) hY hC hn_x.2 3 hi_X0 nw_X3_120 (by decide) rfl rfl (x := nI (1)) (ty := .int) (by decide +kernel) rfl rfl (fun _ => rfl) dX3_lose_38 rfl ?_
        refine vv_aload_n (q := 42) hC dX3_lose_41 (x := Y.2.1 (0)) rfl rfl ?_
        refine pc_gP (q := 45) hY hC 2 hi_X3 hf_disks (by decide) rfl (v := .ref (Y.2.1 (1))) rfl dX3_lose_42 rfl ?_
        refine vv_iload_n (q := 46) hC dX3_lose_45 (x := nI (x.toNatClampNeg)) rfl rfl ?_
        refine pc_ld_disks (q := 47) (m := x.toNatClampNeg) hY hC hn_x.2 dX3_lose_46 rfl ?_
        refine vv_iconst (q := 48) hC (nI 0) dX3_lose_47 (by decide) rfl ?_
        refine pc_pDN (q := 51) hY hC hn_x.2 4 hi_X0 nw_X3_123 (by decide) rfl rfl (x := nI (0)) (ty := .int) (by decide +kernel) rfl rfl (fun _ => rfl) dX3_lose_48 rfl ?_
        refine vv_iconst (q := 52) hC (nI 1) dX3_lose_51 (by decide) rfl ?_
        refine vv_iret (v := nI (1)) hC dX3_lose_52 ?_
        rw [hp]
        unfold pc_lose
        rw [if_pos c_4, if_pos c_15, if_pos c_25]
        exact ⟨rfl, rfl⟩
      · refine vv_bipush (q := 30) hC ((-103)) dX3_lose_28 (by decide) rfl ?_
        refine vv_iret (v := (-103)) hC dX3_lose_30 ?_
        rw [hp]
        unfold pc_lose
        rw [if_pos c_4, if_pos c_15, if_neg c_25]
        exact ⟨rfl, rfl⟩
    · refine vv_bipush (q := 20) hC ((-101)) dX3_lose_18 (by decide) rfl ?_
      refine vv_iret (v := (-101)) hC dX3_lose_20 ?_
      rw [hp]
      unfold pc_lose
      rw [if_pos c_4, if_neg c_15]
      exact ⟨rfl, rfl⟩
  · refine vv_bipush (q := 9) hC ((-100)) dX3_lose_7 (by decide) rfl ?_
    refine vv_iret (v := (-100)) hC dX3_lose_9 ?_
    rw [hp]
    unfold pc_lose
    rw [if_neg c_4]
    exact ⟨rfl, rfl⟩
set_option maxRecDepth 100000 in
set_option maxHeartbeats 4000000 in
theorem cm_X3_spare (l : Launch) (Y : vv_Y) (n : Nat) (hY : pc_sys Y n) (σ : vv_S) : vv_M l Y yX3_spare wsX3_spare { frames := 1, cells := 0, slots := 0, locals := 22 } [.ref (Y.2.1 (0))] σ (vv_R (.int ((pc_spare σ n).1)) ((pc_spare σ n).2)) := by
  refine vv_M.of (cc := cX3_spare) (maxL := 2) (ret := (some .int)) hY.ok (by decide) rfl (Nat.le_of_ble_eq_true rfl) ?_
  intro Z hl hp hC
  subst hl
  have hi_X3 : ∀ w ∈ u_ws RX3 TX3 10, w ∈ wsX3_spare := by decide +kernel
  have hf_down : Cond.fieldLink RX3 16 "ParityRow" (TX3 6).2.1 (TX3 6).2.2.1 ∈ wsX3_spare := by decide +kernel
  have hf_disks : Cond.fieldLink RX3 44 "ParityRow" (TX3 2).2.1 (TX3 2).2.2.1 ∈ wsX3_spare := by decide +kernel
  have hlo := hY.lo
  have hhi := hY.hi
  refine vv_loc (L' := [(0, .ref (Y.2.1 (0)))]) rfl ?_
  refine vv_aload_n (q := 1) hC dX3_spare_0 (x := Y.2.1 (0)) rfl rfl ?_
  refine pc_gP (q := 4) hY hC 6 hi_X3 hf_down (by decide) rfl (v := .int (σ 0 6)) rfl dX3_spare_1 rfl ?_
  refine vv_if_eq (x := σ 0 6) (q := 7) (tgt := 10) hC dX3_spare_4 (by decide) rfl (fun c_4 => ?_) (fun c_4 => ?_)
  · refine vv_aload_n (q := 11) hC dX3_spare_10 (x := Y.2.1 (0)) rfl rfl ?_
    refine vv_iconst (q := 12) hC (nI 1) dX3_spare_11 (by decide) rfl ?_
    refine vv_callV (n := 1) (k := 0) (As := [.int (nI (1))]) (st := []) (q := 15) hC (hY.k (by decide)) (hY.P _) (by rw [hY.cl]; rfl) (cm_X3_memberThat _ Y n hY σ (nI (1)) ) gX3_spare_X3_memberThat rfl (by decide +kernel) dX3_spare_12 rfl rfl rfl (vv_kR ?_)
    refine vv_istore_n (L' := [(0, .ref (Y.2.1 (0))), (1, .int (pc_mt σ (nI (1)) n 0))]) (q := 16) hC dX3_spare_15 (by decide) rfl rfl rfl ?_
    refine vv_iload_n (q := 17) hC dX3_spare_16 (x := pc_mt σ (nI (1)) n 0) rfl rfl ?_
    refine vv_iconst (q := 18) hC ((-1)) dX3_spare_17 (by decide) rfl ?_
    refine vv_icmp_ne (x := pc_mt σ (nI (1)) n 0) (y := (-1)) (q := 21) (tgt := 24) hC dX3_spare_18 (by decide) rfl (fun c_18 => ?_) (fun c_18 => ?_)
    · have hm := pc_mt_nat hhi c_18
      refine vv_loc (L' := [(0, .ref (Y.2.1 (0))), (1, .int (nI ((pc_mt σ (nI 1) n 0).toNatClampNeg)))]) (by rw [← hm.1]) ?_
      refine vv_aload_n (q := 25) hC dX3_spare_24 (x := Y.2.1 (0)) rfl rfl ?_
      refine pc_gP (q := 28) hY hC 2 hi_X3 hf_disks (by decide) rfl (v := .ref (Y.2.1 (1))) rfl dX3_spare_25 rfl ?_
      refine vv_iload_n (q := 29) hC dX3_spare_28 (x := nI ((pc_mt σ (nI 1) n 0).toNatClampNeg)) rfl rfl ?_
      refine pc_ld_disks (q := 30) (m := (pc_mt σ (nI 1) n 0).toNatClampNeg) hY hC hm.2.1 dX3_spare_29 rfl ?_
      refine vv_callVN (n := 0) (k := pc_d ((pc_mt σ (nI 1) n 0).toNatClampNeg)) (As := []) (st := []) (q := 33) hC (hY.kd (j := 0) hm.2.1 (by decide)) (hY.D _) (by rw [hY.cl]; rfl) (cm_X0_replace _ Y n hY σ ((pc_mt σ (nI 1) n 0).toNatClampNeg) hm.2.1) gX3_spare_X0_replace_n129 rfl (hY.nw nw_X3_129) (by decide +kernel) (by decide +kernel) (by decide +kernel) (by decide +kernel) dX3_spare_30 rfl rfl rfl (vv_kRv ?_)
      refine vv_iload_n (q := 34) hC dX3_spare_33 (x := nI ((pc_mt σ (nI 1) n 0).toNatClampNeg)) rfl rfl ?_
      refine vv_iret (v := nI ((pc_mt σ (nI 1) n 0).toNatClampNeg)) hC dX3_spare_34 ?_
      rw [hp]
      unfold pc_spare
      rw [if_pos c_4, if_neg c_18]
      exact ⟨congrArg (fun z => some (Value.int z)) hm.1.symm, rfl⟩
    · refine vv_bipush (q := 23) hC ((-103)) dX3_spare_21 (by decide) rfl ?_
      refine vv_iret (v := (-103)) hC dX3_spare_23 ?_
      rw [hp]
      unfold pc_spare
      rw [if_pos c_4, if_pos c_18]
      exact ⟨rfl, rfl⟩
  · refine vv_bipush (q := 9) hC ((-100)) dX3_spare_7 (by decide) rfl ?_
    refine vv_iret (v := (-100)) hC dX3_spare_9 ?_
    rw [hp]
    unfold pc_spare
    rw [if_neg c_4]
    exact ⟨rfl, rfl⟩
set_option maxRecDepth 100000 in
set_option maxHeartbeats 4000000 in
theorem cm_X3_rot (l : Launch) (Y : vv_Y) (n : Nat) (hY : pc_sys Y n) (σ : vv_S) (a : Int32) (s : Int32) (i : Int32) (x : Int32) : vv_M l Y yX3_rot wsX3_rot { frames := 1, cells := 0, slots := 0, locals := 21 } [.ref (Y.2.1 (0)), .int (a), .int (s), .int (i), .int (x)] σ (vv_R (.int ((pc_rot σ n a s i x).1)) ((pc_rot σ n a s i x).2)) := by
  refine vv_M.of (cc := cX3_rot) (maxL := 6) (ret := (some .int)) hY.ok (by decide) rfl (Nat.le_of_ble_eq_true rfl) ?_
  intro Z hl hp hC
  subst hl
  have hi_X0 : ∀ w ∈ u_ws RX0 TX0 6, w ∈ wsX3_rot := by decide +kernel
  have hi_X3 : ∀ w ∈ u_ws RX3 TX3 10, w ∈ wsX3_rot := by decide +kernel
  have hf_disks : Cond.fieldLink RX3 44 "ParityRow" (TX3 2).2.1 (TX3 2).2.2.1 ∈ wsX3_rot := by decide +kernel
  have hlo := hY.lo
  have hhi := hY.hi
  refine vv_loc (L' := [(0, .ref (Y.2.1 (0))), (1, .int (a)), (2, .int (s)), (3, .int (i)), (4, .int (x))]) rfl ?_
  refine vv_aload_n (q := 1) hC dX3_rot_0 (x := Y.2.1 (0)) rfl rfl ?_
  refine vv_iload_n (q := 2) hC dX3_rot_1 (x := a) rfl rfl ?_
  refine vv_callV (n := 1) (k := 0) (As := [.int (a)]) (st := []) (q := 5) hC (hY.k (by decide)) (hY.P _) (by rw [hY.cl]; rfl) (cm_X3_isMember _ Y n hY σ a ) gX3_rot_X3_isMember rfl (by decide +kernel) dX3_rot_2 rfl rfl rfl (vv_kR ?_)
  refine vv_ifB_eq (b := ¬ a < 0 ∧ a < nI n) (q := 8) (tgt := 25) hC dX3_rot_5 (by decide) rfl (fun c_5 => ?_) (fun c_5 => ?_)
  · refine vv_bipush (q := 27) hC ((-101)) dX3_rot_25 (by decide) rfl ?_
    refine vv_iret (v := (-101)) hC dX3_rot_27 ?_
    rw [hp]
    unfold pc_rot
    rw [if_neg (fun z => c_5 z.1)]
    exact ⟨rfl, rfl⟩
  · refine vv_iload_n (q := 9) hC dX3_rot_8 (x := s) rfl rfl ?_
    refine vv_callS (n := 1) (As := [.int (s)]) (st := []) (q := 12) hC (cm_X3_isStripe _ Y n hY σ s ) gX3_rot_X3_isStripe rfl (by decide +kernel) dX3_rot_9 rfl rfl rfl (vv_kR ?_)
    refine vv_ifB_eq (b := ¬ s < 0 ∧ s < nI 24) (q := 15) (tgt := 25) hC dX3_rot_12 (by decide) rfl (fun c_12 => ?_) (fun c_12 => ?_)
    · refine vv_bipush (q := 27) hC ((-101)) dX3_rot_25 (by decide) rfl ?_
      refine vv_iret (v := (-101)) hC dX3_rot_27 ?_
      rw [hp]
      unfold pc_rot
      rw [if_neg (fun z => c_12 z.2.1)]
      exact ⟨rfl, rfl⟩
    · refine vv_iload_n (q := 16) hC dX3_rot_15 (x := i) rfl rfl ?_
      refine vv_if_lt (x := i) (q := 19) (tgt := 25) hC dX3_rot_16 (by decide) rfl (fun c_16 => ?_) (fun c_16 => ?_)
      · refine vv_bipush (q := 27) hC ((-101)) dX3_rot_25 (by decide) rfl ?_
        refine vv_iret (v := (-101)) hC dX3_rot_27 ?_
        rw [hp]
        unfold pc_rot
        rw [if_neg (fun z => z.2.2.1 c_16)]
        exact ⟨rfl, rfl⟩
      · refine vv_iload_n (q := 20) hC dX3_rot_19 (x := i) rfl rfl ?_
        refine vv_bipush (q := 22) hC (nI 8) dX3_rot_20 (by decide) rfl ?_
        refine vv_icmp_lt (x := i) (y := nI (8)) (q := 25) (tgt := 28) hC dX3_rot_22 (by decide) rfl (fun c_22 => ?_) (fun c_22 => ?_)
        · have hn_a := pc_nat (b := a) (N := n) c_5 (by omega)
          have hn_s := pc_nat (b := s) (N := 24) c_12 (by omega)
          have hn_i := pc_nat (b := i) (N := 8) ⟨c_16, c_22⟩ (by omega)
          refine vv_loc (L' := [(0, .ref (Y.2.1 (0))), (1, .int (nI (a.toNatClampNeg))), (2, .int (nI (s.toNatClampNeg))), (3, .int (nI (i.toNatClampNeg))), (4, .int (x))]) (by rw [← hn_a.1, ← hn_s.1, ← hn_i.1]) ?_
          refine vv_aload_n (q := 29) hC dX3_rot_28 (x := Y.2.1 (0)) rfl rfl ?_
          refine pc_gP (q := 32) hY hC 2 hi_X3 hf_disks (by decide) rfl (v := .ref (Y.2.1 (1))) rfl dX3_rot_29 rfl ?_
          refine vv_iload_n (q := 33) hC dX3_rot_32 (x := nI (a.toNatClampNeg)) rfl rfl ?_
          refine pc_ld_disks (q := 34) (m := a.toNatClampNeg) hY hC hn_a.2 dX3_rot_33 rfl ?_
          refine pc_gDN (q := 37) hY hC hn_a.2 0 hi_X0 nw_X3_141 (by decide) rfl (v := .ref (Y.2.1 (pc_d a.toNatClampNeg + 1))) rfl dX3_rot_34 rfl ?_
          refine vv_astore (L' := [(0, .ref (Y.2.1 (0))), (1, .int (nI (a.toNatClampNeg))), (2, .int (nI (s.toNatClampNeg))), (3, .int (nI (i.toNatClampNeg))), (4, .int (x)), (5, .ref (Y.2.1 (pc_d a.toNatClampNeg + 1)))]) (q := 39) hC dX3_rot_37 (by decide) rfl rfl rfl ?_
          refine vv_aload (q := 41) hC dX3_rot_39 (x := Y.2.1 (pc_d a.toNatClampNeg + 1)) rfl rfl ?_
          refine vv_iload_n (q := 42) hC dX3_rot_41 (x := nI (s.toNatClampNeg)) rfl rfl ?_
          refine vv_bipush (q := 44) hC (nI 8) dX3_rot_42 (by decide) rfl ?_
          refine vv_mulN (x := s.toNatClampNeg) (y := 8) (q := 45) hC dX3_rot_44 rfl ?_
          refine vv_iload_n (q := 46) hC dX3_rot_45 (x := nI (i.toNatClampNeg)) rfl rfl ?_
          refine vv_addN (x := s.toNatClampNeg * 8) (y := i.toNatClampNeg) (q := 47) hC dX3_rot_46 rfl ?_
          refine vv_dup2 (q := 48) hC dX3_rot_47 rfl rfl rfl ?_
          refine pc_ld_dw (q := 49) hY hC hn_a.2 (i := (s.toNatClampNeg * 8) + i.toNatClampNeg) (by omega) dX3_rot_48 rfl ?_
          refine vv_iload (q := 51) hC dX3_rot_49 (x := x) rfl rfl ?_
          refine vv_ixor (x := σ (pc_d a.toNatClampNeg + 1) ((s.toNatClampNeg * 8) + i.toNatClampNeg)) (y := x) (q := 52) hC dX3_rot_51 rfl ?_
          refine pc_st_dw (q := 53) hY hC hn_a.2 (i := (s.toNatClampNeg * 8) + i.toNatClampNeg) (x := (σ (pc_d a.toNatClampNeg + 1) ((s.toNatClampNeg * 8) + i.toNatClampNeg)) ^^^ x) (by omega) dX3_rot_52 rfl ?_
          refine vv_aload (q := 55) hC dX3_rot_53 (x := Y.2.1 (pc_d a.toNatClampNeg + 1)) rfl rfl ?_
          refine vv_iload_n (q := 56) hC dX3_rot_55 (x := nI (s.toNatClampNeg)) rfl rfl ?_
          refine vv_bipush (q := 58) hC (nI 8) dX3_rot_56 (by decide) rfl ?_
          refine vv_mulN (x := s.toNatClampNeg) (y := 8) (q := 59) hC dX3_rot_58 rfl ?_
          refine vv_iload_n (q := 60) hC dX3_rot_59 (x := nI (i.toNatClampNeg)) rfl rfl ?_
          refine vv_addN (x := s.toNatClampNeg * 8) (y := i.toNatClampNeg) (q := 61) hC dX3_rot_60 rfl ?_
          refine pc_ld_dw (q := 62) hY hC hn_a.2 (i := (s.toNatClampNeg * 8) + i.toNatClampNeg) (by omega) dX3_rot_61 rfl ?_
          refine vv_top (y := σ (pc_d a.toNatClampNeg + 1) (s.toNatClampNeg * 8 + i.toNatClampNeg) ^^^ x) (by rw [vv_up_s, vv_upd_s]) ?_
          refine vv_iret (v := σ (pc_d a.toNatClampNeg + 1) (s.toNatClampNeg * 8 + i.toNatClampNeg) ^^^ x) hC dX3_rot_62 ?_
          rw [hp]
          unfold pc_rot
          rw [if_pos ⟨c_5, c_12, c_16, c_22⟩]
          exact ⟨rfl, rfl⟩
        · refine vv_bipush (q := 27) hC ((-101)) dX3_rot_25 (by decide) rfl ?_
          refine vv_iret (v := (-101)) hC dX3_rot_27 ?_
          rw [hp]
          unfold pc_rot
          rw [if_neg (fun z => c_22 z.2.2.2)]
          exact ⟨rfl, rfl⟩
set_option maxRecDepth 100000 in
set_option maxHeartbeats 4000000 in
theorem cm_X3_cut (l : Launch) (Y : vv_Y) (n : Nat) (hY : pc_sys Y n) (σ : vv_S) (x : Int32) (t : Int32) : vv_M l Y yX3_cut wsX3_cut { frames := 1, cells := 0, slots := 0, locals := 20 } [.ref (Y.2.1 (0)), .int (x), .int (t)] σ (vv_R (.int ((pc_cut σ x t).1)) ((pc_cut σ x t).2)) := by
  refine vv_M.of (cc := cX3_cut) (maxL := 3) (ret := (some .int)) hY.ok (by decide) rfl (Nat.le_of_ble_eq_true rfl) ?_
  intro Z hl hp hC
  subst hl
  have hi_X3 : ∀ w ∈ u_ws RX3 TX3 10, w ∈ wsX3_cut := by decide +kernel
  have hf_down : Cond.fieldLink RX3 16 "ParityRow" (TX3 6).2.1 (TX3 6).2.2.1 ∈ wsX3_cut := by decide +kernel
  have hf_writesToCut : Cond.fieldLink RX3 20 "ParityRow" (TX3 7).2.1 (TX3 7).2.2.1 ∈ wsX3_cut := by decide +kernel
  have hf_tear : Cond.fieldLink RX3 24 "ParityRow" (TX3 8).2.1 (TX3 8).2.2.1 ∈ wsX3_cut := by decide +kernel
  have hlo := hY.lo
  have hhi := hY.hi
  refine vv_loc (L' := [(0, .ref (Y.2.1 (0))), (1, .int (x)), (2, .int (t))]) rfl ?_
  refine vv_aload_n (q := 1) hC dX3_cut_0 (x := Y.2.1 (0)) rfl rfl ?_
  refine pc_gP (q := 4) hY hC 6 hi_X3 hf_down (by decide) rfl (v := .int (σ 0 6)) rfl dX3_cut_1 rfl ?_
  refine vv_if_eq (x := σ 0 6) (q := 7) (tgt := 10) hC dX3_cut_4 (by decide) rfl (fun c_4 => ?_) (fun c_4 => ?_)
  · refine vv_iload_n (q := 11) hC dX3_cut_10 (x := x) rfl rfl ?_
    refine vv_callS (n := 1) (As := [.int (x)]) (st := []) (q := 14) hC (cm_X3_isCut _ Y n hY σ x ) gX3_cut_X3_isCut rfl (by decide +kernel) dX3_cut_11 rfl rfl rfl (vv_kR ?_)
    refine vv_ifB_eq (b := ¬ x < -1 ∧ ¬ nI 1000 < x) (q := 17) (tgt := 27) hC dX3_cut_14 (by decide) rfl (fun c_14 => ?_) (fun c_14 => ?_)
    · refine vv_bipush (q := 29) hC ((-102)) dX3_cut_27 (by decide) rfl ?_
      refine vv_iret (v := (-102)) hC dX3_cut_29 ?_
      rw [hp]
      unfold pc_cut
      rw [if_pos c_4, if_neg (fun z => c_14 z.1)]
      exact ⟨rfl, rfl⟩
    · refine vv_iload_n (q := 18) hC dX3_cut_17 (x := t) rfl rfl ?_
      refine vv_if_lt (x := t) (q := 21) (tgt := 27) hC dX3_cut_18 (by decide) rfl (fun c_18 => ?_) (fun c_18 => ?_)
      · refine vv_bipush (q := 29) hC ((-102)) dX3_cut_27 (by decide) rfl ?_
        refine vv_iret (v := (-102)) hC dX3_cut_29 ?_
        rw [hp]
        unfold pc_cut
        rw [if_pos c_4, if_neg (fun z => z.2.1 c_18)]
        exact ⟨rfl, rfl⟩
      · refine vv_iload_n (q := 22) hC dX3_cut_21 (x := t) rfl rfl ?_
        refine vv_bipush (q := 24) hC (nI 8) dX3_cut_22 (by decide) rfl ?_
        refine vv_icmp_le (x := t) (y := nI (8)) (q := 27) (tgt := 30) hC dX3_cut_24 (by decide) rfl (fun c_24 => ?_) (fun c_24 => ?_)
        · refine vv_aload_n (q := 31) hC dX3_cut_30 (x := Y.2.1 (0)) rfl rfl ?_
          refine vv_iload_n (q := 32) hC dX3_cut_31 (x := x) rfl rfl ?_
          refine pc_pP (q := 35) hY hC 7 hi_X3 hf_writesToCut (by decide) rfl rfl (x := x) (ty := .int) (by decide +kernel) rfl rfl (fun _ => rfl) dX3_cut_32 rfl ?_
          refine vv_aload_n (q := 36) hC dX3_cut_35 (x := Y.2.1 (0)) rfl rfl ?_
          refine vv_iload_n (q := 37) hC dX3_cut_36 (x := t) rfl rfl ?_
          refine pc_pP (q := 40) hY hC 8 hi_X3 hf_tear (by decide) rfl rfl (x := t) (ty := .int) (by decide +kernel) rfl rfl (fun _ => rfl) dX3_cut_37 rfl ?_
          refine vv_iconst (q := 41) hC (nI 1) dX3_cut_40 (by decide) rfl ?_
          refine vv_iret (v := nI (1)) hC dX3_cut_41 ?_
          rw [hp]
          unfold pc_cut
          rw [if_pos c_4, if_pos ⟨c_14, c_18, c_24⟩]
          exact ⟨rfl, rfl⟩
        · refine vv_bipush (q := 29) hC ((-102)) dX3_cut_27 (by decide) rfl ?_
          refine vv_iret (v := (-102)) hC dX3_cut_29 ?_
          rw [hp]
          unfold pc_cut
          rw [if_pos c_4, if_neg (fun z => c_24 z.2.2)]
          exact ⟨rfl, rfl⟩
  · refine vv_bipush (q := 9) hC ((-100)) dX3_cut_7 (by decide) rfl ?_
    refine vv_iret (v := (-100)) hC dX3_cut_9 ?_
    rw [hp]
    unfold pc_cut
    rw [if_neg c_4]
    exact ⟨rfl, rfl⟩
set_option maxRecDepth 100000 in
set_option maxHeartbeats 4000000 in
theorem cm_X3_start (l : Launch) (Y : vv_Y) (n : Nat) (hY : pc_sys Y n) (σ : vv_S) (x : Int32) (hJ : pc_J σ) : vv_M l Y yX3_start wsX3_start { frames := 5, cells := 0, slots := 0, locals := 118 } [.ref (Y.2.1 (0)), .int (x)] σ (vv_R (.int ((pc_start σ n x).1)) ((pc_start σ n x).2)) := by
  refine vv_M.of (cc := cX3_start) (maxL := 3) (ret := (some .int)) hY.ok (by decide) rfl (Nat.le_of_ble_eq_true rfl) ?_
  intro Z hl hp hC
  subst hl
  have hi_X2 : ∀ w ∈ u_ws RX2 TX2 6, w ∈ wsX3_start := by decide +kernel
  have hi_X3 : ∀ w ∈ u_ws RX3 TX3 10, w ∈ wsX3_start := by decide +kernel
  have hf_down : Cond.fieldLink RX3 16 "ParityRow" (TX3 6).2.1 (TX3 6).2.2.1 ∈ wsX3_start := by decide +kernel
  have hf_writesToCut : Cond.fieldLink RX3 20 "ParityRow" (TX3 7).2.1 (TX3 7).2.2.1 ∈ wsX3_start := by decide +kernel
  have hf_log : Cond.fieldLink RX3 54 "ParityRow" (TX3 3).2.1 (TX3 3).2.2.1 ∈ wsX3_start := by decide +kernel
  have hlo := hY.lo
  have hhi := hY.hi
  have hr10 := hJ.2.2.2.1
  have hJs : pc_J (pc_st0 σ x) := hJ.same rfl (fun e he => by unfold pc_st0; rw [vv_up_n (pc_e_ne (by decide)), vv_up_n (pc_e_ne (by decide))])
  have h2 : (pc_da n (pc_r σ) 0 (pc_st0 σ x)).2 2 = σ 2 := pc_da_o (by decide) (by decide) (by decide) _ _ _
  refine vv_loc (L' := [(0, .ref (Y.2.1 (0))), (1, .int (x))]) rfl ?_
  refine vv_aload_n (q := 1) hC dX3_start_0 (x := Y.2.1 (0)) rfl rfl ?_
  refine pc_gP (q := 4) hY hC 6 hi_X3 hf_down (by decide) rfl (v := .int (σ 0 6)) rfl dX3_start_1 rfl ?_
  refine vv_if_ne (x := σ 0 6) (q := 7) (tgt := 10) hC dX3_start_4 (by decide) rfl (fun c_4 => ?_) (fun c_4 => ?_)
  · refine vv_iload_n (q := 11) hC dX3_start_10 (x := x) rfl rfl ?_
    refine vv_callS (n := 1) (As := [.int (x)]) (st := []) (q := 14) hC (cm_X3_isCut _ Y n hY σ x ) gX3_start_X3_isCut rfl (by decide +kernel) dX3_start_11 rfl rfl rfl (vv_kR ?_)
    refine vv_ifB_ne (b := ¬ x < -1 ∧ ¬ nI 1000 < x) (q := 17) (tgt := 20) hC dX3_start_14 (by decide) rfl (fun c_14 => ?_) (fun c_14 => ?_)
    · refine vv_aload_n (q := 21) hC dX3_start_20 (x := Y.2.1 (0)) rfl rfl ?_
      refine vv_iconst (q := 22) hC (nI 0) dX3_start_21 (by decide) rfl ?_
      refine pc_pP (q := 25) hY hC 6 hi_X3 hf_down (by decide) rfl rfl (x := nI (0)) (ty := .boolean) (by decide +kernel) rfl rfl (fun _ => rfl) dX3_start_22 rfl ?_
      refine vv_aload_n (q := 26) hC dX3_start_25 (x := Y.2.1 (0)) rfl rfl ?_
      refine vv_iload_n (q := 27) hC dX3_start_26 (x := x) rfl rfl ?_
      refine pc_pP (q := 30) hY hC 7 hi_X3 hf_writesToCut (by decide) rfl rfl (x := x) (ty := .int) (by decide +kernel) rfl rfl (fun _ => rfl) dX3_start_27 rfl ?_
      refine vv_st (σ' := pc_st0 σ x) (rfl) ?_
      refine vv_aload_n (q := 31) hC dX3_start_30 (x := Y.2.1 (0)) rfl rfl ?_
      refine pc_gP (q := 34) hY hC 3 hi_X3 hf_log (by decide) rfl (v := .ref (Y.2.1 (2))) rfl dX3_start_31 rfl ?_
      refine pc_gJN (q := 37) hY hC 2 hi_X2 nw_X3_107 (by decide) rfl (v := .int ((pc_st0 σ x) 2 2)) rfl dX3_start_34 rfl ?_
      refine vv_top (y := nI (pc_r σ)) (hJ.2.2.1) ?_
      refine vv_istore_n (L' := [(0, .ref (Y.2.1 (0))), (1, .int (x)), (2, .int (nI (pc_r σ)))]) (q := 38) hC dX3_start_37 (by decide) rfl rfl rfl ?_
      refine vv_aload_n (q := 39) hC dX3_start_38 (x := Y.2.1 (0)) rfl rfl ?_
      refine vv_iload_n (q := 40) hC dX3_start_39 (x := nI (pc_r σ)) rfl rfl ?_
      refine vv_callV (n := 1) (k := 0) (As := [.int (nI (pc_r σ))]) (st := []) (q := 43) hC (hY.k (by decide)) (hY.P _) (by rw [hY.cl]; rfl) (cm_X3_doAgain _ Y n hY (pc_st0 σ x) (pc_r σ) hJs (by omega)) gX3_start_X3_doAgain rfl (by decide +kernel) dX3_start_40 rfl rfl rfl (vv_kR ?_)
      refine vv_ifB_eq (b := (pc_da n (pc_r σ) 0 (pc_st0 σ x)).1 = true) (q := 46) (tgt := 54) hC dX3_start_43 (by decide) rfl (fun c_43 => ?_) (fun c_43 => ?_)
      · refine vv_bipush (q := 56) hC ((-106)) dX3_start_54 (by decide) rfl ?_
        refine vv_iret (v := (-106)) hC dX3_start_56 ?_
        rw [hp]
        unfold pc_start
        rw [if_neg c_4, if_pos c_14, if_neg c_43]
        exact ⟨rfl, rfl⟩
      · refine vv_aload_n (q := 47) hC dX3_start_46 (x := Y.2.1 (0)) rfl rfl ?_
        refine vv_iload_n (q := 48) hC dX3_start_47 (x := nI (pc_r σ)) rfl rfl ?_
        refine vv_callV (n := 1) (k := 0) (As := [.int (nI (pc_r σ))]) (st := []) (q := 51) hC (hY.k (by decide)) (hY.P _) (by rw [hY.cl]; rfl) (cm_X3_putMark _ Y n hY ((pc_da n (pc_r σ) 0 (pc_st0 σ x)).2) (pc_o σ) (pc_r σ) (pc_r σ) (by rw [h2]; exact hJ.1) hJ.2.1 (by rw [h2]; exact hJ.2.2.1) hr10 (Nat.le_refl _)) gX3_start_X3_putMark rfl (by decide +kernel) dX3_start_48 rfl rfl rfl (vv_kR ?_)
        refine vv_ifB_ne (b := ¬ ((pc_da n (pc_r σ) 0 (pc_st0 σ x)).2) 0 7 = 0) (q := 54) (tgt := 57) hC dX3_start_51 (by decide) rfl (fun c_51 => ?_) (fun c_51 => ?_)
        · refine vv_aload_n (q := 58) hC dX3_start_57 (x := Y.2.1 (0)) rfl rfl ?_
          refine vv_iconst (q := 59) hC ((-1)) dX3_start_58 (by decide) rfl ?_
          refine pc_pP (q := 62) hY hC 7 hi_X3 hf_writesToCut (by decide) rfl rfl (x := (-1)) (ty := .int) (by decide +kernel) rfl rfl (fun _ => rfl) dX3_start_59 rfl ?_
          refine vv_iload_n (q := 63) hC dX3_start_62 (x := nI (pc_r σ)) rfl rfl ?_
          refine vv_iret (v := nI (pc_r σ)) hC dX3_start_63 ?_
          rw [hp]
          unfold pc_start
          rw [if_neg c_4, if_pos c_14, if_pos c_43, if_neg c_51]
          exact ⟨rfl, rfl⟩
        · refine vv_bipush (q := 56) hC ((-106)) dX3_start_54 (by decide) rfl ?_
          refine vv_iret (v := (-106)) hC dX3_start_56 ?_
          rw [hp]
          unfold pc_start
          rw [if_neg c_4, if_pos c_14, if_pos c_43, if_pos (Decidable.of_not_not c_51)]
          exact ⟨rfl, rfl⟩
    · refine vv_bipush (q := 19) hC ((-102)) dX3_start_17 (by decide) rfl ?_
      refine vv_iret (v := (-102)) hC dX3_start_19 ?_
      rw [hp]
      unfold pc_start
      rw [if_neg c_4, if_neg c_14]
      exact ⟨rfl, rfl⟩
  · refine vv_bipush (q := 9) hC ((-103)) dX3_start_7 (by decide) rfl ?_
    refine vv_iret (v := (-103)) hC dX3_start_9 ?_
    rw [hp]
    unfold pc_start
    rw [if_pos c_4]
    exact ⟨rfl, rfl⟩
set_option maxRecDepth 100000 in
set_option maxHeartbeats 4000000 in
theorem cm_X3_chunk (l : Launch) (Y : vv_Y) (n : Nat) (hY : pc_sys Y n) (σ : vv_S) (a : Int32) (s : Int32) (i : Int32) : vv_M l Y yX3_chunk wsX3_chunk { frames := 2, cells := 0, slots := 0, locals := 44 } [.ref (Y.2.1 (0)), .int (a), .int (s), .int (i)] σ (vv_R (.int (pc_chunk σ n a s i)) σ) := by
  refine vv_M.of (cc := cX3_chunk) (maxL := 5) (ret := (some .int)) hY.ok (by decide) rfl (Nat.le_of_ble_eq_true rfl) ?_
  intro Z hl hp hC
  subst hl
  have hi_X0 : ∀ w ∈ u_ws RX0 TX0 6, w ∈ wsX3_chunk := by decide +kernel
  have hi_X3 : ∀ w ∈ u_ws RX3 TX3 10, w ∈ wsX3_chunk := by decide +kernel
  have hf_disks : Cond.fieldLink RX3 44 "ParityRow" (TX3 2).2.1 (TX3 2).2.2.1 ∈ wsX3_chunk := by decide +kernel
  have hlo := hY.lo
  have hhi := hY.hi
  refine vv_loc (L' := [(0, .ref (Y.2.1 (0))), (1, .int (a)), (2, .int (s)), (3, .int (i))]) rfl ?_
  refine vv_aload_n (q := 1) hC dX3_chunk_0 (x := Y.2.1 (0)) rfl rfl ?_
  refine vv_iload_n (q := 2) hC dX3_chunk_1 (x := a) rfl rfl ?_
  refine vv_callV (n := 1) (k := 0) (As := [.int (a)]) (st := []) (q := 5) hC (hY.k (by decide)) (hY.P _) (by rw [hY.cl]; rfl) (cm_X3_isMember _ Y n hY σ a ) gX3_chunk_X3_isMember rfl (by decide +kernel) dX3_chunk_2 rfl rfl rfl (vv_kR ?_)
  refine vv_ifB_eq (b := ¬ a < 0 ∧ a < nI n) (q := 8) (tgt := 15) hC dX3_chunk_5 (by decide) rfl (fun c_5 => ?_) (fun c_5 => ?_)
  · refine vv_bipush (q := 17) hC ((-101)) dX3_chunk_15 (by decide) rfl ?_
    refine vv_iret (v := (-101)) hC dX3_chunk_17 ?_
    rw [hp]
    unfold pc_chunk
    rw [if_neg (fun z => c_5 z.1)]
    exact ⟨rfl, rfl⟩
  · refine vv_iload_n (q := 9) hC dX3_chunk_8 (x := s) rfl rfl ?_
    refine vv_callS (n := 1) (As := [.int (s)]) (st := []) (q := 12) hC (cm_X3_isStripe _ Y n hY σ s ) gX3_chunk_X3_isStripe rfl (by decide +kernel) dX3_chunk_9 rfl rfl rfl (vv_kR ?_)
    refine vv_ifB_ne (b := ¬ s < 0 ∧ s < nI 24) (q := 15) (tgt := 18) hC dX3_chunk_12 (by decide) rfl (fun c_12 => ?_) (fun c_12 => ?_)
    · have hn_a := pc_nat (b := a) (N := n) c_5 (by omega)
      have hn_s := pc_nat (b := s) (N := 24) c_12 (by omega)
      refine vv_loc (L' := [(0, .ref (Y.2.1 (0))), (1, .int (nI (a.toNatClampNeg))), (2, .int (nI (s.toNatClampNeg))), (3, .int (i))]) (by rw [← hn_a.1, ← hn_s.1]) ?_
      refine vv_aload_n (q := 19) hC dX3_chunk_18 (x := Y.2.1 (0)) rfl rfl ?_
      refine pc_gP (q := 22) hY hC 2 hi_X3 hf_disks (by decide) rfl (v := .ref (Y.2.1 (1))) rfl dX3_chunk_19 rfl ?_
      refine vv_iload_n (q := 23) hC dX3_chunk_22 (x := nI (a.toNatClampNeg)) rfl rfl ?_
      refine pc_ld_disks (q := 24) (m := a.toNatClampNeg) hY hC hn_a.2 dX3_chunk_23 rfl ?_
      refine vv_astore (L' := [(0, .ref (Y.2.1 (0))), (1, .int (nI (a.toNatClampNeg))), (2, .int (nI (s.toNatClampNeg))), (3, .int (i)), (4, .ref (Y.2.1 (pc_d (a.toNatClampNeg))))]) (q := 26) hC dX3_chunk_24 (by decide) rfl rfl rfl ?_
      refine vv_iload_n (q := 27) hC dX3_chunk_26 (x := i) rfl rfl ?_
      refine vv_if_lt (x := i) (q := 30) (tgt := 49) hC dX3_chunk_27 (by decide) rfl (fun c_27 => ?_) (fun c_27 => ?_)
      · refine vv_iload_n (q := 50) hC dX3_chunk_49 (x := i) rfl rfl ?_
        by_cases s_50_8 : i = 8
        · refine vv_tabIn (x := i) (tgt := 76) hC dX3_chunk_50 (by rw [s_50_8]; decide) (by rw [s_50_8]; decide) (by rw [s_50_8]; rfl) (by decide) ?_
          refine vv_aload (q := 78) hC dX3_chunk_76 (x := Y.2.1 (pc_d (a.toNatClampNeg))) rfl rfl ?_
          refine pc_gDN (q := 81) hY hC hn_a.2 1 hi_X0 nw_X3_153 (by decide) rfl (v := .ref (Y.2.1 (pc_d a.toNatClampNeg + 2))) rfl dX3_chunk_78 rfl ?_
          refine vv_iload_n (q := 82) hC dX3_chunk_81 (x := nI (s.toNatClampNeg)) rfl rfl ?_
          refine pc_ld_ds (q := 83) hY hC hn_a.2 (i := s.toNatClampNeg) hn_s.2 dX3_chunk_82 rfl ?_
          refine vv_iret (v := σ (pc_d a.toNatClampNeg + 2) s.toNatClampNeg) hC dX3_chunk_83 ?_
          rw [hp]
          unfold pc_chunk
          rw [if_pos ⟨c_5, c_12⟩, if_neg (fun z => z.1 c_27), if_pos s_50_8]
          exact ⟨rfl, rfl⟩
        by_cases s_50_9 : i = 9
        · refine vv_tabIn (x := i) (tgt := 84) hC dX3_chunk_50 (by rw [s_50_9]; decide) (by rw [s_50_9]; decide) (by rw [s_50_9]; rfl) (by decide) ?_
          refine vv_aload (q := 86) hC dX3_chunk_84 (x := Y.2.1 (pc_d (a.toNatClampNeg))) rfl rfl ?_
          refine pc_gDN (q := 89) hY hC hn_a.2 2 hi_X0 nw_X3_156 (by decide) rfl (v := .ref (Y.2.1 (pc_d a.toNatClampNeg + 3))) rfl dX3_chunk_86 rfl ?_
          refine vv_iload_n (q := 90) hC dX3_chunk_89 (x := nI (s.toNatClampNeg)) rfl rfl ?_
          refine pc_ld_dt (q := 91) hY hC hn_a.2 (i := s.toNatClampNeg) hn_s.2 dX3_chunk_90 rfl ?_
          refine vv_if_eq (x := σ (pc_d a.toNatClampNeg + 3) s.toNatClampNeg) (q := 94) (tgt := 98) hC dX3_chunk_91 (by decide) rfl (fun c_91 => ?_) (fun c_91 => ?_)
          · refine vv_iconst (q := 99) hC (nI 0) dX3_chunk_98 (by decide) rfl ?_
            refine vv_iret (v := nI (0)) hC dX3_chunk_99 ?_
            rw [hp]
            unfold pc_chunk
            rw [if_pos ⟨c_5, c_12⟩, if_neg (fun z => z.1 c_27), if_neg s_50_8, if_pos s_50_9, if_pos c_91]
            exact ⟨rfl, rfl⟩
          · refine vv_iconst (q := 95) hC (nI 1) dX3_chunk_94 (by decide) rfl ?_
            refine vv_goto (tgt := 99) hC dX3_chunk_95 (by decide) ?_
            refine vv_iret (v := nI (1)) hC dX3_chunk_99 ?_
            rw [hp]
            unfold pc_chunk
            rw [if_pos ⟨c_5, c_12⟩, if_neg (fun z => z.1 c_27), if_neg s_50_8, if_pos s_50_9, if_neg c_91]
            exact ⟨rfl, rfl⟩
        by_cases s_50_10 : i = 10
        · refine vv_tabIn (x := i) (tgt := 100) hC dX3_chunk_50 (by rw [s_50_10]; decide) (by rw [s_50_10]; decide) (by rw [s_50_10]; rfl) (by decide) ?_
          refine vv_aload (q := 102) hC dX3_chunk_100 (x := Y.2.1 (pc_d (a.toNatClampNeg))) rfl rfl ?_
          refine vv_iload_n (q := 103) hC dX3_chunk_102 (x := nI (s.toNatClampNeg)) rfl rfl ?_
          refine vv_callVN (n := 1) (k := pc_d a.toNatClampNeg) (As := [.int (nI (s.toNatClampNeg))]) (st := []) (q := 106) hC (hY.kd (j := 0) hn_a.2 (by decide)) (hY.D _) (by rw [hY.cl]; rfl) (cm_X0_isThere _ Y n hY σ a.toNatClampNeg s.toNatClampNeg hn_a.2 hn_s.2) gX3_chunk_X0_isThere_n160 rfl (hY.nw nw_X3_160) (by decide +kernel) (by decide +kernel) (by decide +kernel) (by decide +kernel) dX3_chunk_103 rfl rfl rfl (vv_kR ?_)
          refine vv_ifB_eq (b := pc_there σ a.toNatClampNeg s.toNatClampNeg) (q := 109) (tgt := 113) hC dX3_chunk_106 (by decide) rfl (fun c_106 => ?_) (fun c_106 => ?_)
          · refine vv_iconst (q := 114) hC (nI 0) dX3_chunk_113 (by decide) rfl ?_
            refine vv_iret (v := nI (0)) hC dX3_chunk_114 ?_
            rw [hp]
            unfold pc_chunk
            rw [if_pos ⟨c_5, c_12⟩, if_neg (fun z => z.1 c_27), if_neg s_50_8, if_neg s_50_9, if_pos s_50_10, if_neg c_106]
            exact ⟨rfl, rfl⟩
          · refine vv_iconst (q := 110) hC (nI 1) dX3_chunk_109 (by decide) rfl ?_
            refine vv_goto (tgt := 114) hC dX3_chunk_110 (by decide) ?_
            refine vv_iret (v := nI (1)) hC dX3_chunk_114 ?_
            rw [hp]
            unfold pc_chunk
            rw [if_pos ⟨c_5, c_12⟩, if_neg (fun z => z.1 c_27), if_neg s_50_8, if_neg s_50_9, if_pos s_50_10, if_pos c_106]
            exact ⟨rfl, rfl⟩
        refine vv_tabOut (x := i) (tgt := 115) hC dX3_chunk_50 (vv_swOut 8 3 (fun j hj => by rcases (show j = 0 ∨ j = 1 ∨ j = 2 by omega) with rfl | rfl | rfl <;> first | exact vv_swNe s_50_8 (by decide) | exact vv_swNe s_50_9 (by decide) | exact vv_swNe s_50_10 (by decide)) rfl) (by decide) ?_
        refine vv_bipush (q := 117) hC ((-102)) dX3_chunk_115 (by decide) rfl ?_
        refine vv_iret (v := (-102)) hC dX3_chunk_117 ?_
        rw [hp]
        unfold pc_chunk
        rw [if_pos ⟨c_5, c_12⟩, if_neg (fun z => z.1 c_27), if_neg s_50_8, if_neg s_50_9, if_neg s_50_10]
        exact ⟨rfl, rfl⟩
      · refine vv_iload_n (q := 31) hC dX3_chunk_30 (x := i) rfl rfl ?_
        refine vv_bipush (q := 33) hC (nI 8) dX3_chunk_31 (by decide) rfl ?_
        refine vv_icmp_ge (x := i) (y := nI (8)) (q := 36) (tgt := 49) hC dX3_chunk_33 (by decide) rfl (fun c_33 => ?_) (fun c_33 => ?_)
        · refine vv_iload_n (q := 50) hC dX3_chunk_49 (x := i) rfl rfl ?_
          by_cases s_50_8 : i = 8
          · refine vv_tabIn (x := i) (tgt := 76) hC dX3_chunk_50 (by rw [s_50_8]; decide) (by rw [s_50_8]; decide) (by rw [s_50_8]; rfl) (by decide) ?_
            refine vv_aload (q := 78) hC dX3_chunk_76 (x := Y.2.1 (pc_d (a.toNatClampNeg))) rfl rfl ?_
            refine pc_gDN (q := 81) hY hC hn_a.2 1 hi_X0 nw_X3_153 (by decide) rfl (v := .ref (Y.2.1 (pc_d a.toNatClampNeg + 2))) rfl dX3_chunk_78 rfl ?_
            refine vv_iload_n (q := 82) hC dX3_chunk_81 (x := nI (s.toNatClampNeg)) rfl rfl ?_
            refine pc_ld_ds (q := 83) hY hC hn_a.2 (i := s.toNatClampNeg) hn_s.2 dX3_chunk_82 rfl ?_
            refine vv_iret (v := σ (pc_d a.toNatClampNeg + 2) s.toNatClampNeg) hC dX3_chunk_83 ?_
            rw [hp]
            unfold pc_chunk
            rw [if_pos ⟨c_5, c_12⟩, if_neg (fun z => absurd z.2 (Int32.not_lt.mpr c_33)), if_pos s_50_8]
            exact ⟨rfl, rfl⟩
          by_cases s_50_9 : i = 9
          · refine vv_tabIn (x := i) (tgt := 84) hC dX3_chunk_50 (by rw [s_50_9]; decide) (by rw [s_50_9]; decide) (by rw [s_50_9]; rfl) (by decide) ?_
            refine vv_aload (q := 86) hC dX3_chunk_84 (x := Y.2.1 (pc_d (a.toNatClampNeg))) rfl rfl ?_
            refine pc_gDN (q := 89) hY hC hn_a.2 2 hi_X0 nw_X3_156 (by decide) rfl (v := .ref (Y.2.1 (pc_d a.toNatClampNeg + 3))) rfl dX3_chunk_86 rfl ?_
            refine vv_iload_n (q := 90) hC dX3_chunk_89 (x := nI (s.toNatClampNeg)) rfl rfl ?_
            refine pc_ld_dt (q := 91) hY hC hn_a.2 (i := s.toNatClampNeg) hn_s.2 dX3_chunk_90 rfl ?_
            refine vv_if_eq (x := σ (pc_d a.toNatClampNeg + 3) s.toNatClampNeg) (q := 94) (tgt := 98) hC dX3_chunk_91 (by decide) rfl (fun c_91 => ?_) (fun c_91 => ?_)
            · refine vv_iconst (q := 99) hC (nI 0) dX3_chunk_98 (by decide) rfl ?_
              refine vv_iret (v := nI (0)) hC dX3_chunk_99 ?_
              rw [hp]
              unfold pc_chunk
              rw [if_pos ⟨c_5, c_12⟩, if_neg (fun z => absurd z.2 (Int32.not_lt.mpr c_33)), if_neg s_50_8, if_pos s_50_9, if_pos c_91]
              exact ⟨rfl, rfl⟩
            · refine vv_iconst (q := 95) hC (nI 1) dX3_chunk_94 (by decide) rfl ?_
              refine vv_goto (tgt := 99) hC dX3_chunk_95 (by decide) ?_
              refine vv_iret (v := nI (1)) hC dX3_chunk_99 ?_
              rw [hp]
              unfold pc_chunk
              rw [if_pos ⟨c_5, c_12⟩, if_neg (fun z => absurd z.2 (Int32.not_lt.mpr c_33)), if_neg s_50_8, if_pos s_50_9, if_neg c_91]
              exact ⟨rfl, rfl⟩
          by_cases s_50_10 : i = 10
          · refine vv_tabIn (x := i) (tgt := 100) hC dX3_chunk_50 (by rw [s_50_10]; decide) (by rw [s_50_10]; decide) (by rw [s_50_10]; rfl) (by decide) ?_
            refine vv_aload (q := 102) hC dX3_chunk_100 (x := Y.2.1 (pc_d (a.toNatClampNeg))) rfl rfl ?_
            refine vv_iload_n (q := 103) hC dX3_chunk_102 (x := nI (s.toNatClampNeg)) rfl rfl ?_
            refine vv_callVN (n := 1) (k := pc_d a.toNatClampNeg) (As := [.int (nI (s.toNatClampNeg))]) (st := []) (q := 106) hC (hY.kd (j := 0) hn_a.2 (by decide)) (hY.D _) (by rw [hY.cl]; rfl) (cm_X0_isThere _ Y n hY σ a.toNatClampNeg s.toNatClampNeg hn_a.2 hn_s.2) gX3_chunk_X0_isThere_n160 rfl (hY.nw nw_X3_160) (by decide +kernel) (by decide +kernel) (by decide +kernel) (by decide +kernel) dX3_chunk_103 rfl rfl rfl (vv_kR ?_)
            refine vv_ifB_eq (b := pc_there σ a.toNatClampNeg s.toNatClampNeg) (q := 109) (tgt := 113) hC dX3_chunk_106 (by decide) rfl (fun c_106 => ?_) (fun c_106 => ?_)
            · refine vv_iconst (q := 114) hC (nI 0) dX3_chunk_113 (by decide) rfl ?_
              refine vv_iret (v := nI (0)) hC dX3_chunk_114 ?_
              rw [hp]
              unfold pc_chunk
              rw [if_pos ⟨c_5, c_12⟩, if_neg (fun z => absurd z.2 (Int32.not_lt.mpr c_33)), if_neg s_50_8, if_neg s_50_9, if_pos s_50_10, if_neg c_106]
              exact ⟨rfl, rfl⟩
            · refine vv_iconst (q := 110) hC (nI 1) dX3_chunk_109 (by decide) rfl ?_
              refine vv_goto (tgt := 114) hC dX3_chunk_110 (by decide) ?_
              refine vv_iret (v := nI (1)) hC dX3_chunk_114 ?_
              rw [hp]
              unfold pc_chunk
              rw [if_pos ⟨c_5, c_12⟩, if_neg (fun z => absurd z.2 (Int32.not_lt.mpr c_33)), if_neg s_50_8, if_neg s_50_9, if_pos s_50_10, if_pos c_106]
              exact ⟨rfl, rfl⟩
          refine vv_tabOut (x := i) (tgt := 115) hC dX3_chunk_50 (vv_swOut 8 3 (fun j hj => by rcases (show j = 0 ∨ j = 1 ∨ j = 2 by omega) with rfl | rfl | rfl <;> first | exact vv_swNe s_50_8 (by decide) | exact vv_swNe s_50_9 (by decide) | exact vv_swNe s_50_10 (by decide)) rfl) (by decide) ?_
          refine vv_bipush (q := 117) hC ((-102)) dX3_chunk_115 (by decide) rfl ?_
          refine vv_iret (v := (-102)) hC dX3_chunk_117 ?_
          rw [hp]
          unfold pc_chunk
          rw [if_pos ⟨c_5, c_12⟩, if_neg (fun z => absurd z.2 (Int32.not_lt.mpr c_33)), if_neg s_50_8, if_neg s_50_9, if_neg s_50_10]
          exact ⟨rfl, rfl⟩
        · have hn_i := pc_nat (b := i) (N := 8) ⟨c_27, Int32.not_le.mp c_33⟩ (by omega)
          refine vv_loc (L' := [(0, .ref (Y.2.1 (0))), (1, .int (nI (a.toNatClampNeg))), (2, .int (nI (s.toNatClampNeg))), (3, .int (nI (i.toNatClampNeg))), (4, .ref (Y.2.1 (pc_d (a.toNatClampNeg))))]) (by rw [← hn_i.1]) ?_
          refine vv_aload (q := 38) hC dX3_chunk_36 (x := Y.2.1 (pc_d (a.toNatClampNeg))) rfl rfl ?_
          refine pc_gDN (q := 41) hY hC hn_a.2 0 hi_X0 nw_X3_141 (by decide) rfl (v := .ref (Y.2.1 (pc_d a.toNatClampNeg + 1))) rfl dX3_chunk_38 rfl ?_
          refine vv_iload_n (q := 42) hC dX3_chunk_41 (x := nI (s.toNatClampNeg)) rfl rfl ?_
          refine vv_bipush (q := 44) hC (nI 8) dX3_chunk_42 (by decide) rfl ?_
          refine vv_mulN (x := s.toNatClampNeg) (y := 8) (q := 45) hC dX3_chunk_44 rfl ?_
          refine vv_iload_n (q := 46) hC dX3_chunk_45 (x := nI (i.toNatClampNeg)) rfl rfl ?_
          refine vv_addN (x := s.toNatClampNeg * 8) (y := i.toNatClampNeg) (q := 47) hC dX3_chunk_46 rfl ?_
          refine pc_ld_dw (q := 48) hY hC hn_a.2 (i := (s.toNatClampNeg * 8) + i.toNatClampNeg) (by omega) dX3_chunk_47 rfl ?_
          refine vv_iret (v := σ (pc_d a.toNatClampNeg + 1) ((s.toNatClampNeg * 8) + i.toNatClampNeg)) hC dX3_chunk_48 ?_
          rw [hp]
          unfold pc_chunk
          rw [if_pos ⟨c_5, c_12⟩, if_pos ⟨c_27, Int32.not_le.mp c_33⟩]
          exact ⟨rfl, rfl⟩
    · refine vv_bipush (q := 17) hC ((-101)) dX3_chunk_15 (by decide) rfl ?_
      refine vv_iret (v := (-101)) hC dX3_chunk_17 ?_
      rw [hp]
      unfold pc_chunk
      rw [if_neg (fun z => c_12 z.2)]
      exact ⟨rfl, rfl⟩
set_option maxRecDepth 100000 in
set_option maxHeartbeats 4000000 in
theorem cm_X3_member (l : Launch) (Y : vv_Y) (n : Nat) (hY : pc_sys Y n) (σ : vv_S) (a : Int32) (x : Int32) : vv_M l Y yX3_member wsX3_member { frames := 1, cells := 0, slots := 0, locals := 21 } [.ref (Y.2.1 (0)), .int (a), .int (x)] σ (vv_R (.int (pc_member σ n a x)) σ) := by
  refine vv_M.of (cc := cX3_member) (maxL := 3) (ret := (some .int)) hY.ok (by decide) rfl (Nat.le_of_ble_eq_true rfl) ?_
  intro Z hl hp hC
  subst hl
  have hi_X0 : ∀ w ∈ u_ws RX0 TX0 6, w ∈ wsX3_member := by decide +kernel
  have hi_X3 : ∀ w ∈ u_ws RX3 TX3 10, w ∈ wsX3_member := by decide +kernel
  have hf_disks : Cond.fieldLink RX3 44 "ParityRow" (TX3 2).2.1 (TX3 2).2.2.1 ∈ wsX3_member := by decide +kernel
  have hlo := hY.lo
  have hhi := hY.hi
  refine vv_loc (L' := [(0, .ref (Y.2.1 (0))), (1, .int (a)), (2, .int (x))]) rfl ?_
  refine vv_aload_n (q := 1) hC dX3_member_0 (x := Y.2.1 (0)) rfl rfl ?_
  refine vv_iload_n (q := 2) hC dX3_member_1 (x := a) rfl rfl ?_
  refine vv_callV (n := 1) (k := 0) (As := [.int (a)]) (st := []) (q := 5) hC (hY.k (by decide)) (hY.P _) (by rw [hY.cl]; rfl) (cm_X3_isMember _ Y n hY σ a ) gX3_member_X3_isMember rfl (by decide +kernel) dX3_member_2 rfl rfl rfl (vv_kR ?_)
  refine vv_ifB_ne (b := ¬ a < 0 ∧ a < nI n) (q := 8) (tgt := 11) hC dX3_member_5 (by decide) rfl (fun c_5 => ?_) (fun c_5 => ?_)
  · have hn_a := pc_nat (b := a) (N := n) c_5 (by omega)
    refine vv_loc (L' := [(0, .ref (Y.2.1 (0))), (1, .int (nI (a.toNatClampNeg))), (2, .int (x))]) (by rw [← hn_a.1]) ?_
    refine vv_iload_n (q := 12) hC dX3_member_11 (x := x) rfl rfl ?_
    by_cases s_12_0 : x = 0
    · refine vv_tabIn (x := x) (tgt := 40) hC dX3_member_12 (by rw [s_12_0]; decide) (by rw [s_12_0]; decide) (by rw [s_12_0]; rfl) (by decide) ?_
      refine vv_aload_n (q := 41) hC dX3_member_40 (x := Y.2.1 (0)) rfl rfl ?_
      refine pc_gP (q := 44) hY hC 2 hi_X3 hf_disks (by decide) rfl (v := .ref (Y.2.1 (1))) rfl dX3_member_41 rfl ?_
      refine vv_iload_n (q := 45) hC dX3_member_44 (x := nI (a.toNatClampNeg)) rfl rfl ?_
      refine pc_ld_disks (q := 46) (m := a.toNatClampNeg) hY hC hn_a.2 dX3_member_45 rfl ?_
      refine pc_gDN (q := 49) hY hC hn_a.2 3 hi_X0 nw_X3_120 (by decide) rfl (v := .int (σ (pc_d a.toNatClampNeg) 3)) rfl dX3_member_46 rfl ?_
      refine vv_iret (v := σ (pc_d a.toNatClampNeg) 3) hC dX3_member_49 ?_
      rw [hp]
      unfold pc_member
      rw [if_pos c_5, if_pos s_12_0]
      exact ⟨rfl, rfl⟩
    by_cases s_12_1 : x = 1
    · refine vv_tabIn (x := x) (tgt := 50) hC dX3_member_12 (by rw [s_12_1]; decide) (by rw [s_12_1]; decide) (by rw [s_12_1]; rfl) (by decide) ?_
      refine vv_aload_n (q := 51) hC dX3_member_50 (x := Y.2.1 (0)) rfl rfl ?_
      refine pc_gP (q := 54) hY hC 2 hi_X3 hf_disks (by decide) rfl (v := .ref (Y.2.1 (1))) rfl dX3_member_51 rfl ?_
      refine vv_iload_n (q := 55) hC dX3_member_54 (x := nI (a.toNatClampNeg)) rfl rfl ?_
      refine pc_ld_disks (q := 56) (m := a.toNatClampNeg) hY hC hn_a.2 dX3_member_55 rfl ?_
      refine pc_gDN (q := 59) hY hC hn_a.2 4 hi_X0 nw_X3_123 (by decide) rfl (v := .int (σ (pc_d a.toNatClampNeg) 4)) rfl dX3_member_56 rfl ?_
      refine vv_iret (v := σ (pc_d a.toNatClampNeg) 4) hC dX3_member_59 ?_
      rw [hp]
      unfold pc_member
      rw [if_pos c_5, if_neg s_12_0, if_pos s_12_1]
      exact ⟨rfl, rfl⟩
    by_cases s_12_2 : x = 2
    · refine vv_tabIn (x := x) (tgt := 60) hC dX3_member_12 (by rw [s_12_2]; decide) (by rw [s_12_2]; decide) (by rw [s_12_2]; rfl) (by decide) ?_
      refine vv_aload_n (q := 61) hC dX3_member_60 (x := Y.2.1 (0)) rfl rfl ?_
      refine pc_gP (q := 64) hY hC 2 hi_X3 hf_disks (by decide) rfl (v := .ref (Y.2.1 (1))) rfl dX3_member_61 rfl ?_
      refine vv_iload_n (q := 65) hC dX3_member_64 (x := nI (a.toNatClampNeg)) rfl rfl ?_
      refine pc_ld_disks (q := 66) (m := a.toNatClampNeg) hY hC hn_a.2 dX3_member_65 rfl ?_
      refine pc_gDN (q := 69) hY hC hn_a.2 5 hi_X0 nw_X3_163 (by decide) rfl (v := .int (σ (pc_d a.toNatClampNeg) 5)) rfl dX3_member_66 rfl ?_
      refine vv_iret (v := σ (pc_d a.toNatClampNeg) 5) hC dX3_member_69 ?_
      rw [hp]
      unfold pc_member
      rw [if_pos c_5, if_neg s_12_0, if_neg s_12_1, if_pos s_12_2]
      exact ⟨rfl, rfl⟩
    refine vv_tabOut (x := x) (tgt := 70) hC dX3_member_12 (vv_swOut 0 3 (fun j hj => by rcases (show j = 0 ∨ j = 1 ∨ j = 2 by omega) with rfl | rfl | rfl <;> first | exact vv_swNe s_12_0 (by decide) | exact vv_swNe s_12_1 (by decide) | exact vv_swNe s_12_2 (by decide)) rfl) (by decide) ?_
    refine vv_bipush (q := 72) hC ((-102)) dX3_member_70 (by decide) rfl ?_
    refine vv_iret (v := (-102)) hC dX3_member_72 ?_
    rw [hp]
    unfold pc_member
    rw [if_pos c_5, if_neg s_12_0, if_neg s_12_1, if_neg s_12_2]
    exact ⟨rfl, rfl⟩
  · refine vv_bipush (q := 10) hC ((-101)) dX3_member_8 (by decide) rfl ?_
    refine vv_iret (v := (-101)) hC dX3_member_10 ?_
    rw [hp]
    unfold pc_member
    rw [if_neg c_5]
    exact ⟨rfl, rfl⟩
set_option maxRecDepth 100000 in
set_option maxHeartbeats 4000000 in
theorem cm_X3_journal (l : Launch) (Y : vv_Y) (n : Nat) (hY : pc_sys Y n) (σ : vv_S) (x : Int32) : vv_M l Y yX3_journal wsX3_journal { frames := 1, cells := 0, slots := 0, locals := 20 } [.ref (Y.2.1 (0)), .int (x)] σ (vv_R (.int (pc_journal σ x)) σ) := by
  refine vv_M.of (cc := cX3_journal) (maxL := 2) (ret := (some .int)) hY.ok (by decide) rfl (Nat.le_of_ble_eq_true rfl) ?_
  intro Z hl hp hC
  subst hl
  have hi_X2 : ∀ w ∈ u_ws RX2 TX2 6, w ∈ wsX3_journal := by decide +kernel
  have hi_X3 : ∀ w ∈ u_ws RX3 TX3 10, w ∈ wsX3_journal := by decide +kernel
  have hf_down : Cond.fieldLink RX3 16 "ParityRow" (TX3 6).2.1 (TX3 6).2.2.1 ∈ wsX3_journal := by decide +kernel
  have hf_log : Cond.fieldLink RX3 54 "ParityRow" (TX3 3).2.1 (TX3 3).2.2.1 ∈ wsX3_journal := by decide +kernel
  have hlo := hY.lo
  have hhi := hY.hi
  refine vv_loc (L' := [(0, .ref (Y.2.1 (0))), (1, .int (x))]) rfl ?_
  refine vv_iload_n (q := 1) hC dX3_journal_0 (x := x) rfl rfl ?_
  by_cases s_1_0 : x = 0
  · refine vv_tabIn (x := x) (tgt := 36) hC dX3_journal_1 (by rw [s_1_0]; decide) (by rw [s_1_0]; decide) (by rw [s_1_0]; rfl) (by decide) ?_
    refine vv_aload_n (q := 37) hC dX3_journal_36 (x := Y.2.1 (0)) rfl rfl ?_
    refine pc_gP (q := 40) hY hC 6 hi_X3 hf_down (by decide) rfl (v := .int (σ 0 6)) rfl dX3_journal_37 rfl ?_
    refine vv_if_eq (x := σ 0 6) (q := 43) (tgt := 48) hC dX3_journal_40 (by decide) rfl (fun c_40 => ?_) (fun c_40 => ?_)
    · refine vv_aload_n (q := 49) hC dX3_journal_48 (x := Y.2.1 (0)) rfl rfl ?_
      refine pc_gP (q := 52) hY hC 3 hi_X3 hf_log (by decide) rfl (v := .ref (Y.2.1 (2))) rfl dX3_journal_49 rfl ?_
      refine vv_callVN (n := 0) (k := 2) (As := []) (st := []) (q := 55) hC (hY.k (by decide)) (hY.J _) (by rw [hY.cl]; rfl) (cm_X2_freeCells _ Y n hY σ  ) gX3_journal_X2_freeCells_n166 rfl (hY.nw nw_X3_166) (by decide +kernel) (by decide +kernel) (by decide +kernel) (by decide +kernel) dX3_journal_52 rfl rfl rfl (vv_kR ?_)
      refine vv_iret (v := nI 32 - σ 2 3) hC dX3_journal_55 ?_
      rw [hp]
      unfold pc_journal
      rw [if_pos s_1_0, if_pos c_40]
      exact ⟨rfl, rfl⟩
    · refine vv_bipush (q := 45) hC (nI 32) dX3_journal_43 (by decide) rfl ?_
      refine vv_goto (tgt := 55) hC dX3_journal_45 (by decide) ?_
      refine vv_iret (v := nI (32)) hC dX3_journal_55 ?_
      rw [hp]
      unfold pc_journal
      rw [if_pos s_1_0, if_neg c_40]
      exact ⟨rfl, rfl⟩
  by_cases s_1_1 : x = 1
  · refine vv_tabIn (x := x) (tgt := 56) hC dX3_journal_1 (by rw [s_1_1]; decide) (by rw [s_1_1]; decide) (by rw [s_1_1]; rfl) (by decide) ?_
    refine vv_aload_n (q := 57) hC dX3_journal_56 (x := Y.2.1 (0)) rfl rfl ?_
    refine vv_callV (n := 0) (k := 0) (As := []) (st := []) (q := 60) hC (hY.k (by decide)) (hY.P _) (by rw [hY.cl]; rfl) (cm_X3_recordsKnown _ Y n hY σ  ) gX3_journal_X3_recordsKnown rfl (by decide +kernel) dX3_journal_57 rfl rfl rfl (vv_kR ?_)
    refine vv_iret (v := if σ 0 6 = 0 then σ 2 2 else nI 0) hC dX3_journal_60 ?_
    rw [hp]
    unfold pc_journal
    rw [if_neg s_1_0, if_pos s_1_1]
    exact ⟨rfl, rfl⟩
  by_cases s_1_2 : x = 2
  · refine vv_tabIn (x := x) (tgt := 61) hC dX3_journal_1 (by rw [s_1_2]; decide) (by rw [s_1_2]; decide) (by rw [s_1_2]; rfl) (by decide) ?_
    refine vv_aload_n (q := 62) hC dX3_journal_61 (x := Y.2.1 (0)) rfl rfl ?_
    refine pc_gP (q := 65) hY hC 6 hi_X3 hf_down (by decide) rfl (v := .int (σ 0 6)) rfl dX3_journal_62 rfl ?_
    refine vv_if_eq (x := σ 0 6) (q := 68) (tgt := 72) hC dX3_journal_65 (by decide) rfl (fun c_65 => ?_) (fun c_65 => ?_)
    · refine vv_aload_n (q := 73) hC dX3_journal_72 (x := Y.2.1 (0)) rfl rfl ?_
      refine pc_gP (q := 76) hY hC 3 hi_X3 hf_log (by decide) rfl (v := .ref (Y.2.1 (2))) rfl dX3_journal_73 rfl ?_
      refine vv_callVN (n := 0) (k := 2) (As := []) (st := []) (q := 79) hC (hY.k (by decide)) (hY.J _) (by rw [hY.cl]; rfl) (cm_X2_nextSerial _ Y n hY σ  ) gX3_journal_X2_nextSerial_n173 rfl (hY.nw nw_X3_173) (by decide +kernel) (by decide +kernel) (by decide +kernel) (by decide +kernel) dX3_journal_76 rfl rfl rfl (vv_kR ?_)
      refine vv_iret (v := σ 2 5 + σ 2 2) hC dX3_journal_79 ?_
      rw [hp]
      unfold pc_journal
      rw [if_neg s_1_0, if_neg s_1_1, if_pos s_1_2, if_pos c_65]
      exact ⟨rfl, rfl⟩
    · refine vv_iconst (q := 69) hC (nI 0) dX3_journal_68 (by decide) rfl ?_
      refine vv_goto (tgt := 79) hC dX3_journal_69 (by decide) ?_
      refine vv_iret (v := nI (0)) hC dX3_journal_79 ?_
      rw [hp]
      unfold pc_journal
      rw [if_neg s_1_0, if_neg s_1_1, if_pos s_1_2, if_neg c_65]
      exact ⟨rfl, rfl⟩
  by_cases s_1_3 : x = 3
  · refine vv_tabIn (x := x) (tgt := 80) hC dX3_journal_1 (by rw [s_1_3]; decide) (by rw [s_1_3]; decide) (by rw [s_1_3]; rfl) (by decide) ?_
    refine vv_aload_n (q := 81) hC dX3_journal_80 (x := Y.2.1 (0)) rfl rfl ?_
    refine pc_gP (q := 84) hY hC 3 hi_X3 hf_log (by decide) rfl (v := .ref (Y.2.1 (2))) rfl dX3_journal_81 rfl ?_
    refine pc_gJN (q := 87) hY hC 4 hi_X2 nw_X3_176 (by decide) rfl (v := .int (σ 2 4)) rfl dX3_journal_84 rfl ?_
    refine vv_iret (v := σ 2 4) hC dX3_journal_87 ?_
    rw [hp]
    unfold pc_journal
    rw [if_neg s_1_0, if_neg s_1_1, if_neg s_1_2, if_pos s_1_3]
    exact ⟨rfl, rfl⟩
  by_cases s_1_4 : x = 4
  · refine vv_tabIn (x := x) (tgt := 88) hC dX3_journal_1 (by rw [s_1_4]; decide) (by rw [s_1_4]; decide) (by rw [s_1_4]; rfl) (by decide) ?_
    refine vv_aload_n (q := 89) hC dX3_journal_88 (x := Y.2.1 (0)) rfl rfl ?_
    refine pc_gP (q := 92) hY hC 3 hi_X3 hf_log (by decide) rfl (v := .ref (Y.2.1 (2))) rfl dX3_journal_89 rfl ?_
    refine pc_gJN (q := 95) hY hC 5 hi_X2 nw_X3_179 (by decide) rfl (v := .int (σ 2 5)) rfl dX3_journal_92 rfl ?_
    refine vv_iret (v := σ 2 5) hC dX3_journal_95 ?_
    rw [hp]
    unfold pc_journal
    rw [if_neg s_1_0, if_neg s_1_1, if_neg s_1_2, if_neg s_1_3, if_pos s_1_4]
    exact ⟨rfl, rfl⟩
  refine vv_tabOut (x := x) (tgt := 96) hC dX3_journal_1 (vv_swOut 0 5 (fun j hj => by rcases (show j = 0 ∨ j = 1 ∨ j = 2 ∨ j = 3 ∨ j = 4 by omega) with rfl | rfl | rfl | rfl | rfl <;> first | exact vv_swNe s_1_0 (by decide) | exact vv_swNe s_1_1 (by decide) | exact vv_swNe s_1_2 (by decide) | exact vv_swNe s_1_3 (by decide) | exact vv_swNe s_1_4 (by decide)) rfl) (by decide) ?_
  refine vv_bipush (q := 98) hC ((-102)) dX3_journal_96 (by decide) rfl ?_
  refine vv_iret (v := (-102)) hC dX3_journal_98 ?_
  rw [hp]
  unfold pc_journal
  rw [if_neg s_1_0, if_neg s_1_1, if_neg s_1_2, if_neg s_1_3, if_neg s_1_4]
  exact ⟨rfl, rfl⟩
set_option maxRecDepth 100000 in
set_option maxHeartbeats 4000000 in
theorem cm_X3_record (l : Launch) (Y : vv_Y) (n : Nat) (hY : pc_sys Y n) (σ : vv_S) (k : Int32) (x : Int32) (hJ : pc_J σ) : vv_M l Y yX3_record wsX3_record { frames := 1, cells := 0, slots := 0, locals := 21 } [.ref (Y.2.1 (0)), .int (k), .int (x)] σ (vv_R (.int (pc_record σ n k x)) σ) := by
  refine vv_M.of (cc := cX3_record) (maxL := 4) (ret := (some .int)) hY.ok (by decide) rfl (Nat.le_of_ble_eq_true rfl) ?_
  intro Z hl hp hC
  subst hl
  have hi_X1 : ∀ w ∈ u_ws RX1 TX1 4, w ∈ wsX3_record := by decide +kernel
  have hi_X2 : ∀ w ∈ u_ws RX2 TX2 6, w ∈ wsX3_record := by decide +kernel
  have hi_X3 : ∀ w ∈ u_ws RX3 TX3 10, w ∈ wsX3_record := by decide +kernel
  have hf_log : Cond.fieldLink RX3 54 "ParityRow" (TX3 3).2.1 (TX3 3).2.2.1 ∈ wsX3_record := by decide +kernel
  have hf_data : Cond.fieldLink RX3 39 "ParityRow" (TX3 1).2.1 (TX3 1).2.2.1 ∈ wsX3_record := by decide +kernel
  have hlo := hY.lo
  have hhi := hY.hi
  refine vv_loc (L' := [(0, .ref (Y.2.1 (0))), (1, .int (k)), (2, .int (x))]) rfl ?_
  refine vv_iload_n (q := 1) hC dX3_record_0 (x := k) rfl rfl ?_
  refine vv_if_lt (x := k) (q := 4) (tgt := 12) hC dX3_record_1 (by decide) rfl (fun c_1 => ?_) (fun c_1 => ?_)
  · refine vv_bipush (q := 14) hC ((-101)) dX3_record_12 (by decide) rfl ?_
    refine vv_iret (v := (-101)) hC dX3_record_14 ?_
    rw [hp]
    unfold pc_record
    rw [if_neg (fun z => z.1 c_1)]
    exact ⟨rfl, rfl⟩
  · refine vv_iload_n (q := 5) hC dX3_record_4 (x := k) rfl rfl ?_
    refine vv_aload_n (q := 6) hC dX3_record_5 (x := Y.2.1 (0)) rfl rfl ?_
    refine vv_callV (n := 0) (k := 0) (As := []) (st := [.int (k)]) (q := 9) hC (hY.k (by decide)) (hY.P _) (by rw [hY.cl]; rfl) (cm_X3_recordsKnown _ Y n hY σ  ) gX3_record_X3_recordsKnown rfl (by decide +kernel) dX3_record_6 rfl rfl rfl (vv_kR ?_)
    refine vv_icmp_lt (x := k) (y := if σ 0 6 = 0 then σ 2 2 else nI 0) (q := 12) (tgt := 15) hC dX3_record_9 (by decide) rfl (fun c_9 => ?_) (fun c_9 => ?_)
    · have hd0 : σ 0 6 = 0 := by
        by_cases z : σ 0 6 = 0
        · exact z
        · exact absurd (show k < nI 0 by rw [if_neg z] at c_9; exact c_9) c_1
      have hr10 := hJ.2.2.2.1
      have hn_k := pc_nat (b := k) (N := pc_r σ) ⟨c_1, by rw [if_pos hd0, hJ.2.2.1] at c_9; exact c_9⟩ (by omega)
      refine vv_loc (L' := [(0, .ref (Y.2.1 (0))), (1, .int (nI (k.toNatClampNeg))), (2, .int (x))]) (by rw [← hn_k.1]) ?_
      refine vv_aload_n (q := 16) hC dX3_record_15 (x := Y.2.1 (0)) rfl rfl ?_
      refine pc_gP (q := 19) hY hC 3 hi_X3 hf_log (by decide) rfl (v := .ref (Y.2.1 (2))) rfl dX3_record_16 rfl ?_
      refine vv_iload_n (q := 20) hC dX3_record_19 (x := nI (k.toNatClampNeg)) rfl rfl ?_
      refine vv_callVN (n := 1) (k := 2) (As := [.int (nI (k.toNatClampNeg))]) (st := []) (q := 23) hC (hY.k (by decide)) (hY.J _) (by rw [hY.cl]; rfl) (cm_X2_entry _ Y n hY σ (pc_o σ) k.toNatClampNeg hJ.1 hJ.2.1 (by have := hn_k.2; omega)) gX3_record_X2_entry_n182 rfl (hY.nw nw_X3_182) (by decide +kernel) (by decide +kernel) (by decide +kernel) (by decide +kernel) dX3_record_20 rfl rfl rfl (vv_kR ?_)
      refine vv_astore_n (L' := [(0, .ref (Y.2.1 (0))), (1, .int (nI (k.toNatClampNeg))), (2, .int (x)), (3, .ref (Y.2.1 (pc_e (pc_re (pc_o σ) k.toNatClampNeg))))]) (q := 24) hC dX3_record_23 (by decide) rfl rfl rfl ?_
      refine vv_iload_n (q := 25) hC dX3_record_24 (x := x) rfl rfl ?_
      by_cases s_25_0 : x = 0
      · refine vv_tabIn (x := x) (tgt := 60) hC dX3_record_25 (by rw [s_25_0]; decide) (by rw [s_25_0]; decide) (by rw [s_25_0]; rfl) (by decide) ?_
        refine vv_aload_n (q := 61) hC dX3_record_60 (x := Y.2.1 (pc_e (pc_re (pc_o σ) k.toNatClampNeg))) rfl rfl ?_
        refine pc_gEN (q := 64) hY hC (Nat.mod_lt _ (by decide)) 1 hi_X1 nw_X3_186 (by decide) rfl (v := .int (σ (pc_e (pc_re (pc_o σ) k.toNatClampNeg)) 1)) rfl dX3_record_61 rfl ?_
        refine vv_iret (v := σ (pc_e (pc_re (pc_o σ) k.toNatClampNeg)) 1) hC dX3_record_64 ?_
        rw [hp]
        unfold pc_record
        rw [if_pos ⟨c_1, c_9⟩, if_pos s_25_0]
        exact ⟨rfl, rfl⟩
      by_cases s_25_1 : x = 1
      · refine vv_tabIn (x := x) (tgt := 65) hC dX3_record_25 (by rw [s_25_1]; decide) (by rw [s_25_1]; decide) (by rw [s_25_1]; rfl) (by decide) ?_
        refine vv_aload_n (q := 66) hC dX3_record_65 (x := Y.2.1 (pc_e (pc_re (pc_o σ) k.toNatClampNeg))) rfl rfl ?_
        refine pc_gEN (q := 69) hY hC (Nat.mod_lt _ (by decide)) 2 hi_X1 nw_X3_191 (by decide) rfl (v := .int (σ (pc_e (pc_re (pc_o σ) k.toNatClampNeg)) 2)) rfl dX3_record_66 rfl ?_
        refine vv_aload_n (q := 70) hC dX3_record_69 (x := Y.2.1 (0)) rfl rfl ?_
        refine vv_callV (n := 0) (k := 0) (As := []) (st := [.int (σ (pc_e (pc_re (pc_o σ) k.toNatClampNeg)) 2)]) (q := 73) hC (hY.k (by decide)) (hY.P _) (by rw [hY.cl]; rfl) (cm_X3_allData _ Y n hY σ  ) gX3_record_X3_allData rfl (by decide +kernel) dX3_record_70 rfl rfl rfl (vv_kR ?_)
        refine vv_iand (x := σ (pc_e (pc_re (pc_o σ) k.toNatClampNeg)) 2) (y := pc_all n) (q := 74) hC dX3_record_73 rfl ?_
        refine vv_iret (v := (σ (pc_e (pc_re (pc_o σ) k.toNatClampNeg)) 2) &&& (pc_all n)) hC dX3_record_74 ?_
        rw [hp]
        unfold pc_record
        rw [if_pos ⟨c_1, c_9⟩, if_neg s_25_0, if_pos s_25_1]
        exact ⟨rfl, rfl⟩
      by_cases s_25_2 : x = 2
      · refine vv_tabIn (x := x) (tgt := 75) hC dX3_record_25 (by rw [s_25_2]; decide) (by rw [s_25_2]; decide) (by rw [s_25_2]; rfl) (by decide) ?_
        refine vv_aload_n (q := 76) hC dX3_record_75 (x := Y.2.1 (pc_e (pc_re (pc_o σ) k.toNatClampNeg))) rfl rfl ?_
        refine vv_aload_n (q := 77) hC dX3_record_76 (x := Y.2.1 (0)) rfl rfl ?_
        refine pc_gP (q := 80) hY hC 1 hi_X3 hf_data (by decide) rfl (v := .int (nI (n - 1))) rfl dX3_record_77 rfl ?_
        refine vv_callVN (n := 1) (k := pc_e (pc_re (pc_o σ) k.toNatClampNeg)) (As := [.int (nI (n - 1))]) (st := []) (q := 83) hC (hY.ke (j := 0) (Nat.mod_lt _ (by decide)) (by decide)) (hY.E (Nat.mod_lt _ (by decide)) _) (by rw [hY.cl]; rfl) (cm_X1_has _ Y n hY σ (pc_re (pc_o σ) k.toNatClampNeg) (n - 1) (Nat.mod_lt _ (by decide))) gX3_record_X1_has_n197 rfl (hY.nw nw_X3_197) (by decide +kernel) (by decide +kernel) (by decide +kernel) (by decide +kernel) dX3_record_80 rfl rfl rfl (vv_kR ?_)
        refine vv_ifB_eq (b := pc_bit (σ (pc_e (pc_re (pc_o σ) k.toNatClampNeg)) 2) (n - 1)) (q := 86) (tgt := 90) hC dX3_record_83 (by decide) rfl (fun c_83 => ?_) (fun c_83 => ?_)
        · refine vv_iconst (q := 91) hC (nI 0) dX3_record_90 (by decide) rfl ?_
          refine vv_iret (v := nI (0)) hC dX3_record_91 ?_
          rw [hp]
          unfold pc_record
          rw [if_pos ⟨c_1, c_9⟩, if_neg s_25_0, if_neg s_25_1, if_pos s_25_2, if_neg c_83]
          exact ⟨rfl, rfl⟩
        · refine vv_iconst (q := 87) hC (nI 1) dX3_record_86 (by decide) rfl ?_
          refine vv_goto (tgt := 91) hC dX3_record_87 (by decide) ?_
          refine vv_iret (v := nI (1)) hC dX3_record_91 ?_
          rw [hp]
          unfold pc_record
          rw [if_pos ⟨c_1, c_9⟩, if_neg s_25_0, if_neg s_25_1, if_pos s_25_2, if_pos c_83]
          exact ⟨rfl, rfl⟩
      by_cases s_25_3 : x = 3
      · refine vv_tabIn (x := x) (tgt := 92) hC dX3_record_25 (by rw [s_25_3]; decide) (by rw [s_25_3]; decide) (by rw [s_25_3]; rfl) (by decide) ?_
        refine vv_aload_n (q := 93) hC dX3_record_92 (x := Y.2.1 (0)) rfl rfl ?_
        refine pc_gP (q := 96) hY hC 3 hi_X3 hf_log (by decide) rfl (v := .ref (Y.2.1 (2))) rfl dX3_record_93 rfl ?_
        refine pc_gJN (q := 99) hY hC 5 hi_X2 nw_X3_179 (by decide) rfl (v := .int (σ 2 5)) rfl dX3_record_96 rfl ?_
        refine vv_iload_n (q := 100) hC dX3_record_99 (x := nI (k.toNatClampNeg)) rfl rfl ?_
        refine vv_iadd (x := σ 2 5) (y := nI (k.toNatClampNeg)) (q := 101) hC dX3_record_100 rfl ?_
        refine vv_iret (v := (σ 2 5) + (nI (k.toNatClampNeg))) hC dX3_record_101 ?_
        rw [hp]
        unfold pc_record
        rw [if_pos ⟨c_1, c_9⟩, if_neg s_25_0, if_neg s_25_1, if_neg s_25_2, if_pos s_25_3]
        exact ⟨rfl, rfl⟩
      by_cases s_25_4 : x = 4
      · refine vv_tabIn (x := x) (tgt := 102) hC dX3_record_25 (by rw [s_25_4]; decide) (by rw [s_25_4]; decide) (by rw [s_25_4]; rfl) (by decide) ?_
        refine vv_aload_n (q := 103) hC dX3_record_102 (x := Y.2.1 (pc_e (pc_re (pc_o σ) k.toNatClampNeg))) rfl rfl ?_
        refine pc_gEN (q := 106) hY hC (Nat.mod_lt _ (by decide)) 3 hi_X1 nw_X3_200 (by decide) rfl (v := .int (σ (pc_e (pc_re (pc_o σ) k.toNatClampNeg)) 3)) rfl dX3_record_103 rfl ?_
        refine vv_iret (v := σ (pc_e (pc_re (pc_o σ) k.toNatClampNeg)) 3) hC dX3_record_106 ?_
        rw [hp]
        unfold pc_record
        rw [if_pos ⟨c_1, c_9⟩, if_neg s_25_0, if_neg s_25_1, if_neg s_25_2, if_neg s_25_3, if_pos s_25_4]
        exact ⟨rfl, rfl⟩
      refine vv_tabOut (x := x) (tgt := 107) hC dX3_record_25 (vv_swOut 0 5 (fun j hj => by rcases (show j = 0 ∨ j = 1 ∨ j = 2 ∨ j = 3 ∨ j = 4 by omega) with rfl | rfl | rfl | rfl | rfl <;> first | exact vv_swNe s_25_0 (by decide) | exact vv_swNe s_25_1 (by decide) | exact vv_swNe s_25_2 (by decide) | exact vv_swNe s_25_3 (by decide) | exact vv_swNe s_25_4 (by decide)) rfl) (by decide) ?_
      refine vv_bipush (q := 109) hC ((-102)) dX3_record_107 (by decide) rfl ?_
      refine vv_iret (v := (-102)) hC dX3_record_109 ?_
      rw [hp]
      unfold pc_record
      rw [if_pos ⟨c_1, c_9⟩, if_neg s_25_0, if_neg s_25_1, if_neg s_25_2, if_neg s_25_3, if_neg s_25_4]
      exact ⟨rfl, rfl⟩
    · refine vv_bipush (q := 14) hC ((-101)) dX3_record_12 (by decide) rfl ?_
      refine vv_iret (v := (-101)) hC dX3_record_14 ?_
      rw [hp]
      unfold pc_record
      rw [if_neg (fun z => c_9 z.2)]
      exact ⟨rfl, rfl⟩
set_option maxRecDepth 100000 in
set_option maxHeartbeats 4000000 in
theorem cm_X3_count (l : Launch) (Y : vv_Y) (n : Nat) (hY : pc_sys Y n) (σ : vv_S) (x : Int32) : vv_M l Y yX3_count wsX3_count { frames := 0, cells := 0, slots := 0, locals := 0 } [.ref (Y.2.1 (0)), .int (x)] σ (vv_R (.int (pc_count σ x)) σ) := by
  refine vv_M.of (cc := cX3_count) (maxL := 2) (ret := (some .int)) hY.ok (by decide) rfl (Nat.le_of_ble_eq_true rfl) ?_
  intro Z hl hp hC
  subst hl
  have hi_X3 : ∀ w ∈ u_ws RX3 TX3 10, w ∈ wsX3_count := by decide +kernel
  have hf_tally : Cond.fieldLink RX3 9 "ParityRow" (TX3 4).2.1 (TX3 4).2.2.1 ∈ wsX3_count := by decide +kernel
  have hlo := hY.lo
  have hhi := hY.hi
  refine vv_loc (L' := [(0, .ref (Y.2.1 (0))), (1, .int (x))]) rfl ?_
  refine vv_iload_n (q := 1) hC dX3_count_0 (x := x) rfl rfl ?_
  refine vv_if_lt (x := x) (q := 4) (tgt := 10) hC dX3_count_1 (by decide) rfl (fun c_1 => ?_) (fun c_1 => ?_)
  · refine vv_bipush (q := 12) hC ((-102)) dX3_count_10 (by decide) rfl ?_
    refine vv_goto (tgt := 21) hC dX3_count_12 (by decide) ?_
    refine vv_iret (v := (-102)) hC dX3_count_21 ?_
    rw [hp]
    unfold pc_count
    rw [if_neg (fun z => z.1 c_1)]
    exact ⟨rfl, rfl⟩
  · refine vv_iload_n (q := 5) hC dX3_count_4 (x := x) rfl rfl ?_
    refine vv_bipush (q := 7) hC (nI 13) dX3_count_5 (by decide) rfl ?_
    refine vv_icmp_lt (x := x) (y := nI (13)) (q := 10) (tgt := 15) hC dX3_count_7 (by decide) rfl (fun c_7 => ?_) (fun c_7 => ?_)
    · have hn_x := pc_nat (b := x) (N := 13) ⟨c_1, c_7⟩ (by omega)
      refine vv_loc (L' := [(0, .ref (Y.2.1 (0))), (1, .int (nI (x.toNatClampNeg)))]) (by rw [← hn_x.1]) ?_
      refine vv_aload_n (q := 16) hC dX3_count_15 (x := Y.2.1 (0)) rfl rfl ?_
      refine pc_gP (q := 19) hY hC 4 hi_X3 hf_tally (by decide) rfl (v := .ref (Y.2.1 (4))) rfl dX3_count_16 rfl ?_
      refine vv_iload_n (q := 20) hC dX3_count_19 (x := nI (x.toNatClampNeg)) rfl rfl ?_
      refine pc_ld_tally (q := 21) hY hC (i := x.toNatClampNeg) hn_x.2 dX3_count_20 rfl ?_
      refine vv_iret (v := σ 4 x.toNatClampNeg) hC dX3_count_21 ?_
      rw [hp]
      unfold pc_count
      rw [if_pos ⟨c_1, c_7⟩]
      exact ⟨rfl, rfl⟩
    · refine vv_bipush (q := 12) hC ((-102)) dX3_count_10 (by decide) rfl ?_
      refine vv_goto (tgt := 21) hC dX3_count_12 (by decide) ?_
      refine vv_iret (v := (-102)) hC dX3_count_21 ?_
      rw [hp]
      unfold pc_count
      rw [if_neg (fun z => c_7 z.2)]
      exact ⟨rfl, rfl⟩
set_option maxRecDepth 100000 in
set_option maxHeartbeats 4000000 in
theorem cm_X3_audit (l : Launch) (Y : vv_Y) (n : Nat) (hY : pc_sys Y n) (σ : vv_S) : vv_M l Y yX3_audit wsX3_audit { frames := 3, cells := 0, slots := 0, locals := 68 } [.ref (Y.2.1 (0))] σ (vv_R (.int (nI ((pc_aud n 24 0 0 σ).1))) ((pc_aud n 24 0 0 σ).2)) := by
  refine vv_M.of (cc := cX3_audit) (maxL := 3) (ret := (some .int)) hY.ok (by decide) rfl (Nat.le_of_ble_eq_true rfl) ?_
  intro Z hl hp hC
  subst hl
  have hlo := hY.lo
  have hhi := hY.hi
  refine vv_loc (L' := [(0, .ref (Y.2.1 (0)))]) rfl ?_
  refine vv_iconst (q := 1) hC (nI 0) dX3_audit_0 (by decide) rfl ?_
  refine vv_istore_n (L' := [(0, .ref (Y.2.1 (0))), (1, .int (nI (0)))]) (q := 2) hC dX3_audit_1 (by decide) rfl rfl rfl ?_
  refine vv_iconst (q := 3) hC (nI 0) dX3_audit_2 (by decide) rfl ?_
  refine vv_istore_n (L' := [(0, .ref (Y.2.1 (0))), (1, .int (nI (0))), (2, .int (nI (0)))]) (q := 4) hC dX3_audit_3 (by decide) rfl rfl rfl ?_
  have lp_4 : ∀ s : Nat, ∀ c : Nat, ∀ τ : vv_S, (s ≤ 24) → (pc_aud n 24 0 0 σ = pc_aud n (24 - s) s c τ) → vv_V Y 3 Z τ 4 [(0, .ref (Y.2.1 (0))), (1, .int (nI (c))), (2, .int (nI (s)))] [] := by
    refine vv_ind (fun s => 24 - s) (fun s ih_4 => ?_)
    intro c τ hs hv
    have hcn : pc_cnt τ s n ≤ n := pc_cnt_le
    refine vv_iload_n (q := 5) hC dX3_audit_4 (x := nI (s)) rfl rfl ?_
    refine vv_bipush (q := 7) hC (nI 24) dX3_audit_5 (by decide) rfl ?_
    refine vv_icmpN_ge (x := s) (y := 24) (q := 10) (tgt := 35) hC dX3_audit_7 (by decide) (by omega) (by omega) rfl (fun c_7 => ?_) (fun c_7 => ?_)
    · refine vv_iload_n (q := 36) hC dX3_audit_35 (x := nI (c)) rfl rfl ?_
      refine vv_iret (v := nI (c)) hC dX3_audit_36 ?_
      rw [hp]
      rw [hv, show 24 - s = 0 by omega]
      exact ⟨rfl, rfl⟩
    · refine vv_aload_n (q := 11) hC dX3_audit_10 (x := Y.2.1 (0)) rfl rfl ?_
      refine vv_iload_n (q := 12) hC dX3_audit_11 (x := nI (s)) rfl rfl ?_
      refine vv_callV (n := 1) (k := 0) (As := [.int (nI (s))]) (st := []) (q := 15) hC (hY.k (by decide)) (hY.P _) (by rw [hY.cl]; rfl) (cm_X3_countNotThere _ Y n hY τ s (by omega)) gX3_audit_X3_countNotThere rfl (by decide +kernel) dX3_audit_12 rfl rfl rfl (vv_kR ?_)
      refine vv_if_ne (x := nI (pc_cnt τ s n)) (q := 18) (tgt := 29) hC dX3_audit_15 (by decide) rfl (fun c_15 => ?_) (fun c_15 => ?_)
      · refine vv_iincN (x := s) (L' := [(0, .ref (Y.2.1 (0))), (1, .int (nI (c))), (2, .int (nI (s + 1)))]) (q := 32) hC dX3_audit_29 rfl (by decide) rfl rfl rfl ?_
        refine vv_goto (tgt := 4) hC dX3_audit_32 (by decide) ?_
        exact ih_4 (s + 1) (by first | omega | (dsimp only; omega)) c τ (by omega) (by rw [hv, show 24 - s = (24 - (s + 1)) + 1 by omega]; exact if_neg (fun z => c_15 (by rw [z]; rfl)))
      · refine vv_aload_n (q := 19) hC dX3_audit_18 (x := Y.2.1 (0)) rfl rfl ?_
        refine vv_iload_n (q := 20) hC dX3_audit_19 (x := nI (s)) rfl rfl ?_
        refine vv_callV (n := 1) (k := 0) (As := [.int (nI (s))]) (st := []) (q := 23) hC (hY.k (by decide)) (hY.P _) (by rw [hY.cl]; rfl) (cm_X3_xorIsZero _ Y n hY τ s (by omega)) gX3_audit_X3_xorIsZero rfl (by decide +kernel) dX3_audit_20 rfl rfl rfl (vv_kR ?_)
        refine vv_ifB_ne (b := pc_z8 (pc_xst τ n (-1) s 5) = true) (q := 26) (tgt := 29) hC dX3_audit_23 (by decide) rfl (fun c_23 => ?_) (fun c_23 => ?_)
        · refine vv_iincN (x := s) (L' := [(0, .ref (Y.2.1 (0))), (1, .int (nI (c))), (2, .int (nI (s + 1)))]) (q := 32) hC dX3_audit_29 rfl (by decide) rfl rfl rfl ?_
          refine vv_goto (tgt := 4) hC dX3_audit_32 (by decide) ?_
          exact ih_4 (s + 1) (by first | omega | (dsimp only; omega)) c (pc_xst τ n (-1) s) (by omega) (by rw [hv, show 24 - s = (24 - (s + 1)) + 1 by omega]; exact (if_pos ((nI_eq (b := 0) (by omega) (by decide)).mp c_15)).trans (if_pos c_23))
        · refine vv_iincN (x := c) (L' := [(0, .ref (Y.2.1 (0))), (1, .int (nI (c + 1))), (2, .int (nI (s)))]) (q := 29) hC dX3_audit_26 rfl (by decide) rfl rfl rfl ?_
          refine vv_iincN (x := s) (L' := [(0, .ref (Y.2.1 (0))), (1, .int (nI (c + 1))), (2, .int (nI (s + 1)))]) (q := 32) hC dX3_audit_29 rfl (by decide) rfl rfl rfl ?_
          refine vv_goto (tgt := 4) hC dX3_audit_32 (by decide) ?_
          exact ih_4 (s + 1) (by first | omega | (dsimp only; omega)) (c + 1) (pc_xst τ n (-1) s) (by omega) (by rw [hv, show 24 - s = (24 - (s + 1)) + 1 by omega]; exact (if_pos ((nI_eq (b := 0) (by omega) (by decide)).mp c_15)).trans (if_neg c_23))
  exact lp_4 0 0 σ (by omega) rfl
