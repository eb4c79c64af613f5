set_option maxRecDepth 100000 in
set_option maxHeartbeats 4000000 in
theorem cm_X4_latest (l : Launch) (Y : vv_Y) (n : Nat) (hY : pm_sys Y n) (σ : vv_S) (r : Nat) (s : Nat) (p : Nat) (hr : σ 0 8 = nI r) (hr10 : r ≤ 15) (hp6 : p < 6) : vv_M l Y yX4_latest wsX4_latest { frames := 0, cells := 0, slots := 0, locals := 0 } [.ref (Y.2.1 (0)), .int (nI (s)), .int (nI (p))] σ (vv_R (.int (pm_li (pm_lat σ s p r))) σ) := by
  refine vv_M.of (cc := cX4_latest) (maxL := 5) (ret := (some .int)) hY.ok (by decide) rfl (Nat.le_of_ble_eq_true rfl) ?_
  intro Z hl hp hC
  subst hl
  have hi_X4 : ∀ w ∈ u_ws RX4 TX4 25, w ∈ wsX4_latest := by decide +kernel
  have hf_records : Cond.fieldLink RX4 120 "ParityRowModel" (TX4 8).2.1 (TX4 8).2.2.1 ∈ wsX4_latest := by decide +kernel
  have hf_bits : Cond.fieldLink RX4 39 "ParityRowModel" (TX4 11).2.1 (TX4 11).2.2.1 ∈ wsX4_latest := by decide +kernel
  have hf_stripes : Cond.fieldLink RX4 33 "ParityRowModel" (TX4 9).2.1 (TX4 9).2.2.1 ∈ wsX4_latest := by decide +kernel
  have hf_hasParity : Cond.fieldLink RX4 42 "ParityRowModel" (TX4 12).2.1 (TX4 12).2.2.1 ∈ wsX4_latest := by decide +kernel
  have hlo := hY.lo
  have hhi := hY.hi
  refine vv_loc (L' := [(0, .ref (Y.2.1 (0))), (1, .int (nI (s))), (2, .int (nI (p)))]) rfl ?_
  refine vv_aload_n (q := 1) hC dX4_latest_0 (x := Y.2.1 (0)) rfl rfl ?_
  refine pm_gM (q := 4) hY hC 8 hi_X4 hf_records (by decide) rfl (v := .int (σ 0 8)) rfl dX4_latest_1 rfl ?_
  refine vv_top (y := nI (r)) (hr) ?_
  refine vv_iconst (q := 5) hC (nI 1) dX4_latest_4 (by decide) rfl ?_
  refine vv_isub (x := nI (r)) (y := nI (1)) (q := 6) hC dX4_latest_5 rfl ?_
  refine vv_istore_n (L' := [(0, .ref (Y.2.1 (0))), (1, .int (nI (s))), (2, .int (nI (p))), (3, .int ((nI (r)) - (nI (1))))]) (q := 7) hC dX4_latest_6 (by decide) rfl rfl rfl ?_
  have lp_7 : ∀ j : Nat, (j ≤ r) → (pm_lat σ s p r = pm_lat σ s p j) → vv_V Y 5 Z σ 7 [(0, .ref (Y.2.1 (0))), (1, .int (nI (s))), (2, .int (nI (p))), (3, .int (nI j - nI 1))] [] := by
    refine vv_ind (fun j => j) (fun j ih_7 => ?_)
    intro hj hv
    refine vv_iload_n (q := 8) hC dX4_latest_7 (x := nI j - nI 1) rfl rfl ?_
    refine vv_if_lt (x := nI j - nI 1) (q := 11) (tgt := 69) hC dX4_latest_8 (by decide) rfl (fun c_8 => ?_) (fun c_8 => ?_)
    · refine vv_iconst (q := 70) hC ((-1)) dX4_latest_69 (by decide) rfl ?_
      refine vv_iret (v := (-1)) hC dX4_latest_70 ?_
      rw [hp]
      rw [hv, (pc_jm1 (by omega)).mp c_8]
      exact ⟨rfl, rfl⟩
    · have hj0 : 0 < j := Nat.pos_of_ne_zero (fun z => c_8 ((pc_jm1 (by omega)).mpr z))
      refine vv_loc (L' := [(0, .ref (Y.2.1 (0))), (1, .int (nI (s))), (2, .int (nI (p))), (3, .int (nI (j - 1)))]) (by rw [pk_sub (by omega)]) ?_
      refine vv_iload_n (q := 12) hC dX4_latest_11 (x := nI (p)) rfl rfl ?_
      refine vv_iconst (q := 13) hC (nI 5) dX4_latest_12 (by decide) rfl ?_
      refine vv_icmpN_ne (x := p) (y := 5) (q := 16) (tgt := 25) hC dX4_latest_13 (by decide) (by omega) (by omega) rfl (fun c_13 => ?_) (fun c_13 => ?_)
      · refine vv_aload_n (q := 26) hC dX4_latest_25 (x := Y.2.1 (0)) rfl rfl ?_
        refine pm_gM (q := 29) hY hC 11 hi_X4 hf_bits (by decide) rfl (v := .ref (Y.2.1 (9))) rfl dX4_latest_26 rfl ?_
        refine vv_iload_n (q := 30) hC dX4_latest_29 (x := nI (j - 1)) rfl rfl ?_
        refine pm_ld_bits (q := 31) hY hC (i := j - 1) (by omega) dX4_latest_30 rfl ?_
        refine vv_iload_n (q := 32) hC dX4_latest_31 (x := nI (p)) rfl rfl ?_
        refine vv_ishr (x := σ 9 (j - 1)) (y := nI (p)) (q := 33) hC dX4_latest_32 rfl ?_
        refine vv_iconst (q := 34) hC (nI 1) dX4_latest_33 (by decide) rfl ?_
        refine vv_iand (x := (σ 9 (j - 1)) >>> ((nI (p)) &&& 31)) (y := nI (1)) (q := 35) hC dX4_latest_34 rfl ?_
        refine vv_iconst (q := 36) hC (nI 1) dX4_latest_35 (by decide) rfl ?_
        refine vv_icmp_ne (x := ((σ 9 (j - 1)) >>> ((nI (p)) &&& 31)) &&& (nI (1))) (y := nI (1)) (q := 39) (tgt := 43) hC dX4_latest_36 (by decide) rfl (fun c_36 => ?_) (fun c_36 => ?_)
        · refine vv_iconst (q := 44) hC (nI 0) dX4_latest_43 (by decide) rfl ?_
          refine vv_istore (L' := [(0, .ref (Y.2.1 (0))), (1, .int (nI (s))), (2, .int (nI (p))), (3, .int (nI (j - 1))), (4, .int (nI (0)))]) (q := 46) hC dX4_latest_44 (by decide) rfl rfl rfl ?_
          refine vv_aload_n (q := 47) hC dX4_latest_46 (x := Y.2.1 (0)) rfl rfl ?_
          refine pm_gM (q := 50) hY hC 9 hi_X4 hf_stripes (by decide) rfl (v := .ref (Y.2.1 (7))) rfl dX4_latest_47 rfl ?_
          refine vv_iload_n (q := 51) hC dX4_latest_50 (x := nI (j - 1)) rfl rfl ?_
          refine pm_ld_stripes (q := 52) hY hC (i := j - 1) (by omega) dX4_latest_51 rfl ?_
          refine vv_iload_n (q := 53) hC dX4_latest_52 (x := nI (s)) rfl rfl ?_
          refine vv_icmp_ne (x := σ 7 (j - 1)) (y := nI (s)) (q := 56) (tgt := 63) hC dX4_latest_53 (by decide) rfl (fun c_53 => ?_) (fun c_53 => ?_)
          · refine vv_iinc (L' := [(0, .ref (Y.2.1 (0))), (1, .int (nI (s))), (2, .int (nI (p))), (3, .int (nI (j - 1) - nI 1)), (4, .int (nI (0)))]) (q := 66) hC (nI (j - 1) - nI 1) dX4_latest_63 rfl (pc_jdec) (by decide) rfl rfl rfl ?_
            refine vv_goto (tgt := 7) hC dX4_latest_66 (by decide) ?_
            refine vv_sub (L' := [(0, .ref (Y.2.1 (0))), (1, .int (nI (s))), (2, .int (nI (p))), (3, .int (nI (j - 1) - nI 1))]) (by simp) ?_
            exact ih_7 (j - 1) (by first | omega | (dsimp only; omega))  (by omega) (by rw [hv]; obtain ⟨j, rfl⟩ : ∃ i, j = i + 1 := ⟨j - 1, by omega⟩; exact if_neg (fun z => c_53 z.1))
          · refine vv_iload (q := 58) hC dX4_latest_56 (x := nI (0)) rfl rfl ?_
            refine vv_if_eq (x := nI (0)) (q := 61) (tgt := 63) hC dX4_latest_58 (by decide) rfl (fun c_58 => ?_) (fun c_58 => absurd c_58 (by decide))
            refine vv_iinc (L' := [(0, .ref (Y.2.1 (0))), (1, .int (nI (s))), (2, .int (nI (p))), (3, .int (nI (j - 1) - nI 1)), (4, .int (nI (0)))]) (q := 66) hC (nI (j - 1) - nI 1) dX4_latest_63 rfl (pc_jdec) (by decide) rfl rfl rfl ?_
            refine vv_goto (tgt := 7) hC dX4_latest_66 (by decide) ?_
            refine vv_sub (L' := [(0, .ref (Y.2.1 (0))), (1, .int (nI (s))), (2, .int (nI (p))), (3, .int (nI (j - 1) - nI 1))]) (by simp) ?_
            exact ih_7 (j - 1) (by first | omega | (dsimp only; omega))  (by omega) (by rw [hv]; obtain ⟨j, rfl⟩ : ∃ i, j = i + 1 := ⟨j - 1, by omega⟩; exact if_neg (fun z => by have h := z.2; unfold pm_has at h; rw [if_neg c_13] at h; exact c_36 h))
        · refine vv_iconst (q := 40) hC (nI 1) dX4_latest_39 (by decide) rfl ?_
          refine vv_goto (tgt := 44) hC dX4_latest_40 (by decide) ?_
          refine vv_istore (L' := [(0, .ref (Y.2.1 (0))), (1, .int (nI (s))), (2, .int (nI (p))), (3, .int (nI (j - 1))), (4, .int (nI (1)))]) (q := 46) hC dX4_latest_44 (by decide) rfl rfl rfl ?_
          refine vv_aload_n (q := 47) hC dX4_latest_46 (x := Y.2.1 (0)) rfl rfl ?_
          refine pm_gM (q := 50) hY hC 9 hi_X4 hf_stripes (by decide) rfl (v := .ref (Y.2.1 (7))) rfl dX4_latest_47 rfl ?_
          refine vv_iload_n (q := 51) hC dX4_latest_50 (x := nI (j - 1)) rfl rfl ?_
          refine pm_ld_stripes (q := 52) hY hC (i := j - 1) (by omega) dX4_latest_51 rfl ?_
          refine vv_iload_n (q := 53) hC dX4_latest_52 (x := nI (s)) rfl rfl ?_
          refine vv_icmp_ne (x := σ 7 (j - 1)) (y := nI (s)) (q := 56) (tgt := 63) hC dX4_latest_53 (by decide) rfl (fun c_53 => ?_) (fun c_53 => ?_)
          · refine vv_iinc (L' := [(0, .ref (Y.2.1 (0))), (1, .int (nI (s))), (2, .int (nI (p))), (3, .int (nI (j - 1) - nI 1)), (4, .int (nI (1)))]) (q := 66) hC (nI (j - 1) - nI 1) dX4_latest_63 rfl (pc_jdec) (by decide) rfl rfl rfl ?_
            refine vv_goto (tgt := 7) hC dX4_latest_66 (by decide) ?_
            refine vv_sub (L' := [(0, .ref (Y.2.1 (0))), (1, .int (nI (s))), (2, .int (nI (p))), (3, .int (nI (j - 1) - nI 1))]) (by simp) ?_
            exact ih_7 (j - 1) (by first | omega | (dsimp only; omega))  (by omega) (by rw [hv]; obtain ⟨j, rfl⟩ : ∃ i, j = i + 1 := ⟨j - 1, by omega⟩; exact if_neg (fun z => c_53 z.1))
          · refine vv_iload (q := 58) hC dX4_latest_56 (x := nI (1)) rfl rfl ?_
            refine vv_if_eq (x := nI (1)) (q := 61) (tgt := 63) hC dX4_latest_58 (by decide) rfl (fun c_58 => absurd c_58 (by decide)) (fun c_58 => ?_)
            refine vv_iload_n (q := 62) hC dX4_latest_61 (x := nI (j - 1)) rfl rfl ?_
            refine vv_iret (v := nI (j - 1)) hC dX4_latest_62 ?_
            rw [hp]
            rw [hv]
            obtain ⟨j, rfl⟩ : ∃ i, j = i + 1 := ⟨j - 1, by omega⟩
            have hz : pm_lat σ s p (j + 1) = some j := if_pos ⟨c_53, by unfold pm_has; rw [if_neg c_13]; exact c_36⟩
            rw [hz]
            exact ⟨rfl, rfl⟩
      · refine vv_aload_n (q := 17) hC dX4_latest_16 (x := Y.2.1 (0)) rfl rfl ?_
        refine pm_gM (q := 20) hY hC 12 hi_X4 hf_hasParity (by decide) rfl (v := .ref (Y.2.1 (10))) rfl dX4_latest_17 rfl ?_
        refine vv_iload_n (q := 21) hC dX4_latest_20 (x := nI (j - 1)) rfl rfl ?_
        refine pm_ld_hasParity (q := 22) hY hC (i := j - 1) (by omega) dX4_latest_21 rfl ?_
        refine vv_goto (tgt := 44) hC dX4_latest_22 (by decide) ?_
        refine vv_istore (L' := [(0, .ref (Y.2.1 (0))), (1, .int (nI (s))), (2, .int (nI (p))), (3, .int (nI (j - 1))), (4, .int (σ 10 (j - 1)))]) (q := 46) hC dX4_latest_44 (by decide) rfl rfl rfl ?_
        refine vv_aload_n (q := 47) hC dX4_latest_46 (x := Y.2.1 (0)) rfl rfl ?_
        refine pm_gM (q := 50) hY hC 9 hi_X4 hf_stripes (by decide) rfl (v := .ref (Y.2.1 (7))) rfl dX4_latest_47 rfl ?_
        refine vv_iload_n (q := 51) hC dX4_latest_50 (x := nI (j - 1)) rfl rfl ?_
        refine pm_ld_stripes (q := 52) hY hC (i := j - 1) (by omega) dX4_latest_51 rfl ?_
        refine vv_iload_n (q := 53) hC dX4_latest_52 (x := nI (s)) rfl rfl ?_
        refine vv_icmp_ne (x := σ 7 (j - 1)) (y := nI (s)) (q := 56) (tgt := 63) hC dX4_latest_53 (by decide) rfl (fun c_53 => ?_) (fun c_53 => ?_)
        · refine vv_iinc (L' := [(0, .ref (Y.2.1 (0))), (1, .int (nI (s))), (2, .int (nI (p))), (3, .int (nI (j - 1) - nI 1)), (4, .int (σ 10 (j - 1)))]) (q := 66) hC (nI (j - 1) - nI 1) dX4_latest_63 rfl (pc_jdec) (by decide) rfl rfl rfl ?_
          refine vv_goto (tgt := 7) hC dX4_latest_66 (by decide) ?_
          refine vv_sub (L' := [(0, .ref (Y.2.1 (0))), (1, .int (nI (s))), (2, .int (nI (p))), (3, .int (nI (j - 1) - nI 1))]) (by simp) ?_
          exact ih_7 (j - 1) (by first | omega | (dsimp only; omega))  (by omega) (by rw [hv]; obtain ⟨j, rfl⟩ : ∃ i, j = i + 1 := ⟨j - 1, by omega⟩; exact if_neg (fun z => c_53 z.1))
        · refine vv_iload (q := 58) hC dX4_latest_56 (x := σ 10 (j - 1)) rfl rfl ?_
          refine vv_if_eq (x := σ 10 (j - 1)) (q := 61) (tgt := 63) hC dX4_latest_58 (by decide) rfl (fun c_58 => ?_) (fun c_58 => ?_)
          · refine vv_iinc (L' := [(0, .ref (Y.2.1 (0))), (1, .int (nI (s))), (2, .int (nI (p))), (3, .int (nI (j - 1) - nI 1)), (4, .int (σ 10 (j - 1)))]) (q := 66) hC (nI (j - 1) - nI 1) dX4_latest_63 rfl (pc_jdec) (by decide) rfl rfl rfl ?_
            refine vv_goto (tgt := 7) hC dX4_latest_66 (by decide) ?_
            refine vv_sub (L' := [(0, .ref (Y.2.1 (0))), (1, .int (nI (s))), (2, .int (nI (p))), (3, .int (nI (j - 1) - nI 1))]) (by simp) ?_
            exact ih_7 (j - 1) (by first | omega | (dsimp only; omega))  (by omega) (by rw [hv]; obtain ⟨j, rfl⟩ : ∃ i, j = i + 1 := ⟨j - 1, by omega⟩; exact if_neg (fun z => by have h := z.2; unfold pm_has at h; rw [if_pos c_13] at h; exact h c_58))
          · refine vv_iload_n (q := 62) hC dX4_latest_61 (x := nI (j - 1)) rfl rfl ?_
            refine vv_iret (v := nI (j - 1)) hC dX4_latest_62 ?_
            rw [hp]
            rw [hv]
            obtain ⟨j, rfl⟩ : ∃ i, j = i + 1 := ⟨j - 1, by omega⟩
            have hz : pm_lat σ s p (j + 1) = some j := if_pos ⟨c_53, by unfold pm_has; rw [if_pos c_13]; exact c_58⟩
            rw [hz]
            exact ⟨rfl, rfl⟩
  exact lp_7 r (by omega) rfl
set_option maxRecDepth 100000 in
set_option maxHeartbeats 4000000 in
theorem cm_X4_memberOfRow (l : Launch) (Y : vv_Y) (n : Nat) (hY : pm_sys Y n) (σ : vv_S) (s : Nat) (p : Nat) (hs : s < 24) (hp9 : p = 5 ∨ p < n) : vv_M l Y yX4_memberOfRow wsX4_memberOfRow { frames := 2, cells := 0, slots := 0, locals := 43 } [.ref (Y.2.1 (0)), .int (nI (s)), .int (nI (p))] σ (vv_R (.int (nI (pm_mr n s p))) σ) := by
  refine vv_M.of (cc := cX4_memberOfRow) (maxL := 3) (ret := (some .int)) hY.ok (by decide) rfl (Nat.le_of_ble_eq_true rfl) ?_
  intro Z hl hp hC
  subst hl
  have hlo := hY.lo
  have hhi := hY.hi
  have hp6 : p < 6 := by omega
  refine vv_loc (L' := [(0, .ref (Y.2.1 (0))), (1, .int (nI (s))), (2, .int (nI (p)))]) rfl ?_
  refine vv_iload_n (q := 1) hC dX4_memberOfRow_0 (x := nI (p)) rfl rfl ?_
  refine vv_iconst (q := 2) hC (nI 5) dX4_memberOfRow_1 (by decide) rfl ?_
  refine vv_icmpN_ne (x := p) (y := 5) (q := 5) (tgt := 13) hC dX4_memberOfRow_2 (by decide) (by omega) (by omega) rfl (fun c_2 => ?_) (fun c_2 => ?_)
  · refine vv_aload_n (q := 14) hC dX4_memberOfRow_13 (x := Y.2.1 (0)) rfl rfl ?_
    refine vv_iload_n (q := 15) hC dX4_memberOfRow_14 (x := nI (s)) rfl rfl ?_
    refine vv_iload_n (q := 16) hC dX4_memberOfRow_15 (x := nI (p)) rfl rfl ?_
    refine vv_callV (n := 2) (k := 0) (As := [.int (nI (s)), .int (nI (p))]) (st := []) (q := 19) hC (hY.k (by decide)) (hY.M _) (by rw [hY.cl]; rfl) (cm_X4_memberOf _ Y n hY σ s p (by omega) (by omega)) gX4_memberOfRow_X4_memberOf rfl (by decide +kernel) dX4_memberOfRow_16 rfl rfl rfl (vv_kR ?_)
    refine vv_iret (v := nI (pc_mo n s p)) hC dX4_memberOfRow_19 ?_
    rw [hp]
    unfold pm_mr
    rw [if_neg c_2]
    exact ⟨rfl, rfl⟩
  · refine vv_aload_n (q := 6) hC dX4_memberOfRow_5 (x := Y.2.1 (0)) rfl rfl ?_
    refine vv_iload_n (q := 7) hC dX4_memberOfRow_6 (x := nI (s)) rfl rfl ?_
    refine vv_callV (n := 1) (k := 0) (As := [.int (nI (s))]) (st := []) (q := 10) hC (hY.k (by decide)) (hY.M _) (by rw [hY.cl]; rfl) (cm_X4_parityOf _ Y n hY σ s (by omega)) gX4_memberOfRow_X4_parityOf rfl (by decide +kernel) dX4_memberOfRow_7 rfl rfl rfl (vv_kR ?_)
    refine vv_goto (tgt := 19) hC dX4_memberOfRow_10 (by decide) ?_
    refine vv_iret (v := nI (pc_pm n s)) hC dX4_memberOfRow_19 ?_
    rw [hp]
    unfold pm_mr
    rw [if_pos c_2]
    exact ⟨rfl, rfl⟩
set_option maxRecDepth 100000 in
set_option maxHeartbeats 4000000 in
theorem cm_X4_hasNewest (l : Launch) (Y : vv_Y) (n : Nat) (hY : pm_sys Y n) (σ : vv_S) (r : Nat) (s : Nat) (p : Nat) (hr : σ 0 8 = nI r) (hr10 : r ≤ 15) (hs : s < 24) (hp9 : p = 5 ∨ p < n) : vv_M l Y yX4_hasNewest wsX4_hasNewest { frames := 3, cells := 0, slots := 0, locals := 65 } [.ref (Y.2.1 (0)), .int (nI (s)), .int (nI (p))] σ (vv_R (.int (vv_B (pm_hn σ n r s p))) σ) := by
  refine vv_M.of (cc := cX4_hasNewest) (maxL := 3) (ret := (some .boolean)) hY.ok (by decide) rfl (Nat.le_of_ble_eq_true rfl) ?_
  intro Z hl hp hC
  subst hl
  have hlo := hY.lo
  have hhi := hY.hi
  refine vv_loc (L' := [(0, .ref (Y.2.1 (0))), (1, .int (nI (s))), (2, .int (nI (p)))]) rfl ?_
  refine vv_aload_n (q := 1) hC dX4_hasNewest_0 (x := Y.2.1 (0)) rfl rfl ?_
  refine vv_iload_n (q := 2) hC dX4_hasNewest_1 (x := nI (s)) rfl rfl ?_
  refine vv_iload_n (q := 3) hC dX4_hasNewest_2 (x := nI (p)) rfl rfl ?_
  refine vv_callV (n := 2) (k := 0) (As := [.int (nI (s)), .int (nI (p))]) (st := []) (q := 6) hC (hY.k (by decide)) (hY.M _) (by rw [hY.cl]; rfl) (cm_X4_latest _ Y n hY σ r s p hr hr10 (by omega)) gX4_hasNewest_X4_latest rfl (by decide +kernel) dX4_hasNewest_3 rfl rfl rfl (vv_kR ?_)
  rcases hlat_3 : pm_lat σ s p r with _ | k
  · refine vv_stk (st' := [.int (-1)]) rfl ?_
    refine vv_iconst (q := 7) hC ((-1)) dX4_hasNewest_6 (by decide) rfl ?_
    refine vv_icmp_ne (x := (-1)) (y := (-1)) (q := 10) (tgt := 24) hC dX4_hasNewest_7 (by decide) rfl (fun c_7 => absurd rfl c_7) (fun c_7 => ?_)
    refine vv_aload_n (q := 11) hC dX4_hasNewest_10 (x := Y.2.1 (0)) rfl rfl ?_
    refine vv_aload_n (q := 12) hC dX4_hasNewest_11 (x := Y.2.1 (0)) rfl rfl ?_
    refine vv_iload_n (q := 13) hC dX4_hasNewest_12 (x := nI (s)) rfl rfl ?_
    refine vv_iload_n (q := 14) hC dX4_hasNewest_13 (x := nI (p)) rfl rfl ?_
    refine vv_callV (n := 2) (k := 0) (As := [.int (nI (s)), .int (nI (p))]) (st := [.ref (Y.2.1 (0))]) (q := 17) hC (hY.k (by decide)) (hY.M _) (by rw [hY.cl]; rfl) (cm_X4_memberOfRow _ Y n hY σ s p (by omega) hp9) gX4_hasNewest_X4_memberOfRow rfl (by decide +kernel) dX4_hasNewest_14 rfl rfl rfl (vv_kR ?_)
    refine vv_iload_n (q := 18) hC dX4_hasNewest_17 (x := nI (s)) rfl rfl ?_
    refine vv_callV (n := 2) (k := 0) (As := [.int (nI (pm_mr n s p)), .int (nI (s))]) (st := []) (q := 21) hC (hY.k (by decide)) (hY.M _) (by rw [hY.cl]; rfl) (cm_X4_isThere _ Y n hY σ (pm_mr n s p) s (pm_mr_lt hlo) (by omega)) gX4_hasNewest_X4_isThere rfl (by decide +kernel) dX4_hasNewest_18 rfl rfl rfl (vv_kR ?_)
    refine vv_ifB_eq (b := pm_there σ (pm_mr n s p) s) (q := 24) (tgt := 28) hC dX4_hasNewest_21 (by decide) rfl (fun c_21 => ?_) (fun c_21 => ?_)
    · refine vv_iconst (q := 29) hC (nI 0) dX4_hasNewest_28 (by decide) rfl ?_
      refine vv_zret (v := nI (0)) hC (by first | rfl | decide) dX4_hasNewest_29 ?_
      rw [hp]
      exact ⟨congrArg (fun z => some (Value.int z)) (vv_B0 (fun h => h.elim (fun z => z hlat_3) c_21)).symm, rfl⟩
    · refine vv_iconst (q := 25) hC (nI 1) dX4_hasNewest_24 (by decide) rfl ?_
      refine vv_goto (tgt := 29) hC dX4_hasNewest_25 (by decide) ?_
      refine vv_zret (v := nI (1)) hC (by first | rfl | decide) dX4_hasNewest_29 ?_
      rw [hp]
      exact ⟨congrArg (fun z => some (Value.int z)) (vv_B1 (Or.inr c_21)).symm, rfl⟩
  · have hl_k := pm_lat_lt hlat_3
    refine vv_stk (st' := [.int (nI (k))]) rfl ?_
    refine vv_iconst (q := 7) hC ((-1)) dX4_hasNewest_6 (by decide) rfl ?_
    refine vv_icmp_ne (x := nI (k)) (y := (-1)) (q := 10) (tgt := 24) hC dX4_hasNewest_7 (by decide) rfl (fun c_7 => ?_) (fun c_7 => absurd c_7 (pm_ne1 (by omega)))
    refine vv_iconst (q := 25) hC (nI 1) dX4_hasNewest_24 (by decide) rfl ?_
    refine vv_goto (tgt := 29) hC dX4_hasNewest_25 (by decide) ?_
    refine vv_zret (v := nI (1)) hC (by first | rfl | decide) dX4_hasNewest_29 ?_
    rw [hp]
    exact ⟨congrArg (fun z => some (Value.int z)) (vv_B1 (Or.inl (by rw [hlat_3]; exact fun z => by cases z))).symm, rfl⟩
set_option maxRecDepth 100000 in
set_option maxHeartbeats 4000000 in
theorem cm_X4_newest (l : Launch) (Y : vv_Y) (n : Nat) (hY : pm_sys Y n) (σ : vv_S) (r : Nat) (s : Nat) (p : Nat) (i : Nat) (hr : σ 0 8 = nI r) (hr10 : r ≤ 15) (hs : s < 24) (hp9 : p = 5 ∨ p < n) (hi : i < 8) : vv_M l Y yX4_newest wsX4_newest { frames := 3, cells := 0, slots := 0, locals := 65 } [.ref (Y.2.1 (0)), .int (nI (s)), .int (nI (p)), .int (nI (i))] σ (vv_R (.int (pm_nw σ n r s p i)) σ) := by
  refine vv_M.of (cc := cX4_newest) (maxL := 5) (ret := (some .int)) hY.ok (by decide) rfl (Nat.le_of_ble_eq_true rfl) ?_
  intro Z hl hp hC
  subst hl
  have hi_X4 : ∀ w ∈ u_ws RX4 TX4 25, w ∈ wsX4_newest := by decide +kernel
  have hf_words : Cond.fieldLink RX4 13 "ParityRowModel" (TX4 2).2.1 (TX4 2).2.2.1 ∈ wsX4_newest := by decide +kernel
  have hf_kept : Cond.fieldLink RX4 48 "ParityRowModel" (TX4 14).2.1 (TX4 14).2.2.1 ∈ wsX4_newest := by decide +kernel
  have hlo := hY.lo
  have hhi := hY.hi
  have hmr := pm_mr_lt (s := s) (p := p) hlo
  refine vv_loc (L' := [(0, .ref (Y.2.1 (0))), (1, .int (nI (s))), (2, .int (nI (p))), (3, .int (nI (i)))]) rfl ?_
  refine vv_aload_n (q := 1) hC dX4_newest_0 (x := Y.2.1 (0)) rfl rfl ?_
  refine vv_iload_n (q := 2) hC dX4_newest_1 (x := nI (s)) rfl rfl ?_
  refine vv_iload_n (q := 3) hC dX4_newest_2 (x := nI (p)) rfl rfl ?_
  refine vv_callV (n := 2) (k := 0) (As := [.int (nI (s)), .int (nI (p))]) (st := []) (q := 6) hC (hY.k (by decide)) (hY.M _) (by rw [hY.cl]; rfl) (cm_X4_latest _ Y n hY σ r s p hr hr10 (by omega)) gX4_newest_X4_latest rfl (by decide +kernel) dX4_newest_3 rfl rfl rfl (vv_kR ?_)
  rcases hlat_3 : pm_lat σ s p r with _ | k
  · refine vv_stk (st' := [.int (-1)]) rfl ?_
    refine vv_istore (L' := [(0, .ref (Y.2.1 (0))), (1, .int (nI (s))), (2, .int (nI (p))), (3, .int (nI (i))), (4, .int ((-1)))]) (q := 8) hC dX4_newest_6 (by decide) rfl rfl rfl ?_
    refine vv_iload (q := 10) hC dX4_newest_8 (x := (-1)) rfl rfl ?_
    refine vv_iconst (q := 11) hC ((-1)) dX4_newest_10 (by decide) rfl ?_
    refine vv_icmp_eq (x := (-1)) (y := (-1)) (q := 14) (tgt := 34) hC dX4_newest_11 (by decide) rfl (fun c_11 => ?_) (fun c_11 => absurd rfl c_11)
    refine vv_aload_n (q := 35) hC dX4_newest_34 (x := Y.2.1 (0)) rfl rfl ?_
    refine pm_gM (q := 38) hY hC 2 hi_X4 hf_words (by decide) rfl (v := .ref (Y.2.1 (1))) rfl dX4_newest_35 rfl ?_
    refine vv_bipush (q := 40) hC (nI 8) dX4_newest_38 (by decide) rfl ?_
    refine vv_aload_n (q := 41) hC dX4_newest_40 (x := Y.2.1 (0)) rfl rfl ?_
    refine vv_aload_n (q := 42) hC dX4_newest_41 (x := Y.2.1 (0)) rfl rfl ?_
    refine vv_iload_n (q := 43) hC dX4_newest_42 (x := nI (s)) rfl rfl ?_
    refine vv_iload_n (q := 44) hC dX4_newest_43 (x := nI (p)) rfl rfl ?_
    refine vv_callV (n := 2) (k := 0) (As := [.int (nI (s)), .int (nI (p))]) (st := [.ref (Y.2.1 (0)), .int (nI (8)), .ref (Y.2.1 (1))]) (q := 47) hC (hY.k (by decide)) (hY.M _) (by rw [hY.cl]; rfl) (cm_X4_memberOfRow _ Y n hY σ s p (by omega) hp9) gX4_newest_X4_memberOfRow rfl (by decide +kernel) dX4_newest_44 rfl rfl rfl (vv_kR ?_)
    refine vv_iload_n (q := 48) hC dX4_newest_47 (x := nI (s)) rfl rfl ?_
    refine vv_callV (n := 2) (k := 0) (As := [.int (nI (pm_mr n s p)), .int (nI (s))]) (st := [.int (nI (8)), .ref (Y.2.1 (1))]) (q := 51) hC (hY.k (by decide)) (hY.M _) (by rw [hY.cl]; rfl) (cm_X4_at _ Y n hY σ (pm_mr n s p) s ) gX4_newest_X4_at rfl (by decide +kernel) dX4_newest_48 rfl rfl rfl (vv_kR ?_)
    refine vv_mulN (x := 8) (y := 24 * (pm_mr n s p) + s) (q := 52) hC dX4_newest_51 rfl ?_
    refine vv_iload_n (q := 53) hC dX4_newest_52 (x := nI (i)) rfl rfl ?_
    refine vv_addN (x := 8 * (24 * (pm_mr n s p) + s)) (y := i) (q := 54) hC dX4_newest_53 rfl ?_
    refine pm_ld_words (q := 55) hY hC (i := (8 * (24 * (pm_mr n s p) + s)) + i) (by omega) dX4_newest_54 rfl ?_
    refine vv_iret (v := σ 1 ((8 * (24 * (pm_mr n s p) + s)) + i)) hC dX4_newest_55 ?_
    rw [hp]
    unfold pm_nw
    rw [hlat_3]
    exact ⟨rfl, rfl⟩
  · have hl_k := pm_lat_lt hlat_3
    refine vv_stk (st' := [.int (nI (k))]) rfl ?_
    refine vv_istore (L' := [(0, .ref (Y.2.1 (0))), (1, .int (nI (s))), (2, .int (nI (p))), (3, .int (nI (i))), (4, .int (nI (k)))]) (q := 8) hC dX4_newest_6 (by decide) rfl rfl rfl ?_
    refine vv_iload (q := 10) hC dX4_newest_8 (x := nI (k)) rfl rfl ?_
    refine vv_iconst (q := 11) hC ((-1)) dX4_newest_10 (by decide) rfl ?_
    refine vv_icmp_eq (x := nI (k)) (y := (-1)) (q := 14) (tgt := 34) hC dX4_newest_11 (by decide) rfl (fun c_11 => absurd c_11 (pm_ne1 (by omega))) (fun c_11 => ?_)
    refine vv_aload_n (q := 15) hC dX4_newest_14 (x := Y.2.1 (0)) rfl rfl ?_
    refine pm_gM (q := 18) hY hC 14 hi_X4 hf_kept (by decide) rfl (v := .ref (Y.2.1 (12))) rfl dX4_newest_15 rfl ?_
    refine vv_bipush (q := 20) hC (nI 8) dX4_newest_18 (by decide) rfl ?_
    refine vv_bipush (q := 22) hC (nI 6) dX4_newest_20 (by decide) rfl ?_
    refine vv_iload (q := 24) hC dX4_newest_22 (x := nI (k)) rfl rfl ?_
    refine vv_mulN (x := 6) (y := k) (q := 25) hC dX4_newest_24 rfl ?_
    refine vv_iload_n (q := 26) hC dX4_newest_25 (x := nI (p)) rfl rfl ?_
    refine vv_addN (x := 6 * k) (y := p) (q := 27) hC dX4_newest_26 rfl ?_
    refine vv_mulN (x := 8) (y := (6 * k) + p) (q := 28) hC dX4_newest_27 rfl ?_
    refine vv_iload_n (q := 29) hC dX4_newest_28 (x := nI (i)) rfl rfl ?_
    refine vv_addN (x := 8 * ((6 * k) + p)) (y := i) (q := 30) hC dX4_newest_29 rfl ?_
    refine pm_ld_kept (q := 31) hY hC (i := (8 * ((6 * k) + p)) + i) (by omega) dX4_newest_30 rfl ?_
    refine vv_goto (tgt := 55) hC dX4_newest_31 (by decide) ?_
    refine vv_iret (v := σ 12 ((8 * ((6 * k) + p)) + i)) hC dX4_newest_55 ?_
    rw [hp]
    unfold pm_nw
    rw [hlat_3]
    exact ⟨rfl, rfl⟩
set_option maxRecDepth 100000 in
set_option maxHeartbeats 4000000 in
theorem cm_X4_can (l : Launch) (Y : vv_Y) (n : Nat) (hY : pm_sys Y n) (σ : vv_S) (r : Nat) (s : Nat) (x : Int32) (w : Nat) (hr : σ 0 8 = nI r) (hr10 : r ≤ 15) (hs : s < 24) (hw : w = 2 ∨ w = 3) : vv_M l Y yX4_can wsX4_can { frames := 4, cells := 0, slots := 0, locals := 87 } [.ref (Y.2.1 (0)), .int (nI (s)), .int (x), .int (nI (w))] σ (vv_R (.int (vv_B (pm_can σ n r s x w))) σ) := by
  refine vv_M.of (cc := cX4_can) (maxL := 7) (ret := (some .boolean)) hY.ok (by decide) rfl (Nat.le_of_ble_eq_true rfl) ?_
  intro Z hl hp hC
  subst hl
  have hi_X4 : ∀ w ∈ u_ws RX4 TX4 25, w ∈ wsX4_can := by decide +kernel
  have hf_many : Cond.fieldLink RX4 69 "ParityRowModel" (TX4 1).2.1 (TX4 1).2.2.1 ∈ wsX4_can := by decide +kernel
  have hlo := hY.lo
  have hhi := hY.hi
  refine vv_loc (L' := [(0, .ref (Y.2.1 (0))), (1, .int (nI (s))), (2, .int (x)), (3, .int (nI (w)))]) rfl ?_
  refine vv_iload_n (q := 1) hC dX4_can_0 (x := nI (w)) rfl rfl ?_
  refine vv_iconst (q := 2) hC (nI 3) dX4_can_1 (by decide) rfl ?_
  refine vv_icmpN_eq (x := w) (y := 3) (q := 5) (tgt := 14) hC dX4_can_2 (by decide) (by omega) (by omega) rfl (fun c_2 => ?_) (fun c_2 => ?_)
  · refine vv_iconst (q := 15) hC (nI 1) dX4_can_14 (by decide) rfl ?_
    refine vv_goto (tgt := 19) hC dX4_can_15 (by decide) ?_
    refine vv_istore (L' := [(0, .ref (Y.2.1 (0))), (1, .int (nI (s))), (2, .int (x)), (3, .int (nI (w))), (4, .int (nI (1)))]) (q := 21) hC dX4_can_19 (by decide) rfl rfl rfl ?_
    refine vv_iconst (q := 22) hC (nI 0) dX4_can_21 (by decide) rfl ?_
    refine vv_istore (L' := [(0, .ref (Y.2.1 (0))), (1, .int (nI (s))), (2, .int (x)), (3, .int (nI (w))), (4, .int (nI (1))), (5, .int (nI (0)))]) (q := 24) hC dX4_can_22 (by decide) rfl rfl rfl ?_
    have lp_24 : ∀ d : Nat, (d ≤ n - 1) → vv_V Y 7 Z σ 24 [(0, .ref (Y.2.1 (0))), (1, .int (nI (s))), (2, .int (x)), (3, .int (nI (w))), (4, .int (vv_B ((w = 3 ∨ pm_hn σ n r s 5) ∧ vv_all (fun j0 => ¬ (pc_bit x j0 ↔ w = 2) ∨ pm_hn σ n r s j0) d = true))), (5, .int (nI (d)))] [] := by
      refine vv_ind (fun d => n - d) (fun d ih_24 => ?_)
      intro hd
      refine vv_iload (q := 26) hC dX4_can_24 (x := nI (d)) rfl rfl ?_
      refine vv_aload_n (q := 27) hC dX4_can_26 (x := Y.2.1 (0)) rfl rfl ?_
      refine pm_gM (q := 30) hY hC 1 hi_X4 hf_many (by decide) rfl (v := .int (nI (n))) rfl dX4_can_27 rfl ?_
      refine vv_iconst (q := 31) hC (nI 1) dX4_can_30 (by decide) rfl ?_
      refine vv_subN (x := n) (y := 1) (q := 32) hC dX4_can_31 (by omega) rfl ?_
      refine vv_icmpN_ge (x := d) (y := n - 1) (q := 35) (tgt := 95) hC dX4_can_32 (by decide) (by omega) (by omega) rfl (fun c_32 => ?_) (fun c_32 => ?_)
      · refine vv_iload (q := 97) hC dX4_can_95 (x := vv_B ((w = 3 ∨ pm_hn σ n r s 5) ∧ vv_all (fun j0 => ¬ (pc_bit x j0 ↔ w = 2) ∨ pm_hn σ n r s j0) d = true)) rfl rfl ?_
        refine vv_zret (v := vv_B ((w = 3 ∨ pm_hn σ n r s 5) ∧ vv_all (fun j0 => ¬ (pc_bit x j0 ↔ w = 2) ∨ pm_hn σ n r s j0) d = true)) hC vv_narB dX4_can_97 ?_
        rw [hp]
        have ed : d = n - 1 := by omega
        subst ed
        exact ⟨rfl, rfl⟩
      · refine vv_iload_n (q := 36) hC dX4_can_35 (x := x) rfl rfl ?_
        refine vv_iload (q := 38) hC dX4_can_36 (x := nI (d)) rfl rfl ?_
        refine vv_ishr (x := x) (y := nI (d)) (q := 39) hC dX4_can_38 rfl ?_
        refine vv_iconst (q := 40) hC (nI 1) dX4_can_39 (by decide) rfl ?_
        refine vv_iand (x := x >>> ((nI (d)) &&& 31)) (y := nI (1)) (q := 41) hC dX4_can_40 rfl ?_
        refine vv_iconst (q := 42) hC (nI 1) dX4_can_41 (by decide) rfl ?_
        refine vv_icmp_ne (x := (x >>> ((nI (d)) &&& 31)) &&& (nI (1))) (y := nI (1)) (q := 45) (tgt := 49) hC dX4_can_42 (by decide) rfl (fun c_42 => ?_) (fun c_42 => ?_)
        · refine vv_iconst (q := 50) hC (nI 0) dX4_can_49 (by decide) rfl ?_
          refine vv_istore (L' := [(0, .ref (Y.2.1 (0))), (1, .int (nI (s))), (2, .int (x)), (3, .int (nI (w))), (4, .int (vv_B ((w = 3 ∨ pm_hn σ n r s 5) ∧ vv_all (fun j0 => ¬ (pc_bit x j0 ↔ w = 2) ∨ pm_hn σ n r s j0) d = true))), (5, .int (nI (d))), (6, .int (nI (0)))]) (q := 52) hC dX4_can_50 (by decide) rfl rfl rfl ?_
          refine vv_iload (q := 54) hC dX4_can_52 (x := vv_B ((w = 3 ∨ pm_hn σ n r s 5) ∧ vv_all (fun j0 => ¬ (pc_bit x j0 ↔ w = 2) ∨ pm_hn σ n r s j0) d = true)) rfl rfl ?_
          refine vv_ifB_eq (b := (w = 3 ∨ pm_hn σ n r s 5) ∧ vv_all (fun j0 => ¬ (pc_bit x j0 ↔ w = 2) ∨ pm_hn σ n r s j0) d = true) (q := 57) (tgt := 86) hC dX4_can_54 (by decide) rfl (fun c_54 => ?_) (fun c_54 => ?_)
          · refine vv_iconst (q := 87) hC (nI 0) dX4_can_86 (by decide) rfl ?_
            refine vv_istore (L' := [(0, .ref (Y.2.1 (0))), (1, .int (nI (s))), (2, .int (x)), (3, .int (nI (w))), (4, .int (nI (0))), (5, .int (nI (d))), (6, .int (nI (0)))]) (q := 89) hC dX4_can_87 (by decide) rfl rfl rfl ?_
            refine vv_iincN (x := d) (L' := [(0, .ref (Y.2.1 (0))), (1, .int (nI (s))), (2, .int (x)), (3, .int (nI (w))), (4, .int (nI (0))), (5, .int (nI (d + 1))), (6, .int (nI (0)))]) (q := 92) hC dX4_can_89 rfl (by decide) rfl rfl rfl ?_
            refine vv_goto (tgt := 24) hC dX4_can_92 (by decide) ?_
            refine vv_sub (L' := [(0, .ref (Y.2.1 (0))), (1, .int (nI (s))), (2, .int (x)), (3, .int (nI (w))), (4, .int (nI (0))), (5, .int (nI (d + 1)))]) (by simp) ?_
            refine vv_loc (L' := [(0, .ref (Y.2.1 (0))), (1, .int (nI (s))), (2, .int (x)), (3, .int (nI (w))), (4, .int (vv_B ((w = 3 ∨ pm_hn σ n r s 5) ∧ vv_all (fun j0 => ¬ (pc_bit x j0 ↔ w = 2) ∨ pm_hn σ n r s j0) (d + 1) = true))), (5, .int (nI ((d + 1))))]) (by rw [vv_B0 (fun h => c_54 ⟨h.1, vv_all_iff.mpr (fun j hj => vv_all_iff.mp h.2 j (by omega))⟩)]; rfl) ?_
            exact ih_24 (d + 1) (by first | omega | (dsimp only; omega))  (by omega)
          · refine vv_iload (q := 59) hC dX4_can_57 (x := nI (0)) rfl rfl ?_
            refine vv_iload_n (q := 60) hC dX4_can_59 (x := nI (w)) rfl rfl ?_
            refine vv_iconst (q := 61) hC (nI 2) dX4_can_60 (by decide) rfl ?_
            refine vv_icmpN_ne (x := w) (y := 2) (q := 64) (tgt := 68) hC dX4_can_61 (by decide) (by omega) (by omega) rfl (fun c_61 => ?_) (fun c_61 => ?_)
            · refine vv_iconst (q := 69) hC (nI 0) dX4_can_68 (by decide) rfl ?_
              refine vv_icmpN_ne (x := 0) (y := 0) (q := 72) (tgt := 82) hC dX4_can_69 (by decide) (by omega) (by omega) rfl (fun c_69 => absurd c_69 (by decide)) (fun c_69 => ?_)
              refine vv_aload_n (q := 73) hC dX4_can_72 (x := Y.2.1 (0)) rfl rfl ?_
              refine vv_iload_n (q := 74) hC dX4_can_73 (x := nI (s)) rfl rfl ?_
              refine vv_iload (q := 76) hC dX4_can_74 (x := nI (d)) rfl rfl ?_
              refine vv_callV (n := 2) (k := 0) (As := [.int (nI (s)), .int (nI (d))]) (st := []) (q := 79) hC (hY.k (by decide)) (hY.M _) (by rw [hY.cl]; rfl) (cm_X4_hasNewest _ Y n hY σ r s d hr hr10 (by omega) (by omega)) gX4_can_X4_hasNewest rfl (by decide +kernel) dX4_can_76 rfl rfl rfl (vv_kR ?_)
              refine vv_ifB_eq (b := pm_hn σ n r s d) (q := 82) (tgt := 86) hC dX4_can_79 (by decide) rfl (fun c_79 => ?_) (fun c_79 => ?_)
              · refine vv_iconst (q := 87) hC (nI 0) dX4_can_86 (by decide) rfl ?_
                refine vv_istore (L' := [(0, .ref (Y.2.1 (0))), (1, .int (nI (s))), (2, .int (x)), (3, .int (nI (w))), (4, .int (nI (0))), (5, .int (nI (d))), (6, .int (nI (0)))]) (q := 89) hC dX4_can_87 (by decide) rfl rfl rfl ?_
                refine vv_iincN (x := d) (L' := [(0, .ref (Y.2.1 (0))), (1, .int (nI (s))), (2, .int (x)), (3, .int (nI (w))), (4, .int (nI (0))), (5, .int (nI (d + 1))), (6, .int (nI (0)))]) (q := 92) hC dX4_can_89 rfl (by decide) rfl rfl rfl ?_
                refine vv_goto (tgt := 24) hC dX4_can_92 (by decide) ?_
                refine vv_sub (L' := [(0, .ref (Y.2.1 (0))), (1, .int (nI (s))), (2, .int (x)), (3, .int (nI (w))), (4, .int (nI (0))), (5, .int (nI (d + 1)))]) (by simp) ?_
                refine vv_loc (L' := [(0, .ref (Y.2.1 (0))), (1, .int (nI (s))), (2, .int (x)), (3, .int (nI (w))), (4, .int (vv_B ((w = 3 ∨ pm_hn σ n r s 5) ∧ vv_all (fun j0 => ¬ (pc_bit x j0 ↔ w = 2) ∨ pm_hn σ n r s j0) (d + 1) = true))), (5, .int (nI ((d + 1))))]) (by rw [vv_B0 (fun h => vv_all_m (fun z => z.elim (fun y => y (iff_of_false c_42 c_61)) c_79) h.2)]; rfl) ?_
                exact ih_24 (d + 1) (by first | omega | (dsimp only; omega))  (by omega)
              · refine vv_iconst (q := 83) hC (nI 1) dX4_can_82 (by decide) rfl ?_
                refine vv_goto (tgt := 87) hC dX4_can_83 (by decide) ?_
                refine vv_istore (L' := [(0, .ref (Y.2.1 (0))), (1, .int (nI (s))), (2, .int (x)), (3, .int (nI (w))), (4, .int (nI (1))), (5, .int (nI (d))), (6, .int (nI (0)))]) (q := 89) hC dX4_can_87 (by decide) rfl rfl rfl ?_
                refine vv_iincN (x := d) (L' := [(0, .ref (Y.2.1 (0))), (1, .int (nI (s))), (2, .int (x)), (3, .int (nI (w))), (4, .int (nI (1))), (5, .int (nI (d + 1))), (6, .int (nI (0)))]) (q := 92) hC dX4_can_89 rfl (by decide) rfl rfl rfl ?_
                refine vv_goto (tgt := 24) hC dX4_can_92 (by decide) ?_
                refine vv_sub (L' := [(0, .ref (Y.2.1 (0))), (1, .int (nI (s))), (2, .int (x)), (3, .int (nI (w))), (4, .int (nI (1))), (5, .int (nI (d + 1)))]) (by simp) ?_
                refine vv_loc (L' := [(0, .ref (Y.2.1 (0))), (1, .int (nI (s))), (2, .int (x)), (3, .int (nI (w))), (4, .int (vv_B ((w = 3 ∨ pm_hn σ n r s 5) ∧ vv_all (fun j0 => ¬ (pc_bit x j0 ↔ w = 2) ∨ pm_hn σ n r s j0) (d + 1) = true))), (5, .int (nI ((d + 1))))]) (by rw [vv_B1 ⟨c_54.1, vv_all_s c_54.2 (Or.inr c_79)⟩]; rfl) ?_
                exact ih_24 (d + 1) (by first | omega | (dsimp only; omega))  (by omega)
            · refine vv_iconst (q := 65) hC (nI 1) dX4_can_64 (by decide) rfl ?_
              refine vv_goto (tgt := 69) hC dX4_can_65 (by decide) ?_
              refine vv_icmpN_ne (x := 0) (y := 1) (q := 72) (tgt := 82) hC dX4_can_69 (by decide) (by omega) (by omega) rfl (fun c_69 => ?_) (fun c_69 => absurd c_69 (by decide))
              refine vv_iconst (q := 83) hC (nI 1) dX4_can_82 (by decide) rfl ?_
              refine vv_goto (tgt := 87) hC dX4_can_83 (by decide) ?_
              refine vv_istore (L' := [(0, .ref (Y.2.1 (0))), (1, .int (nI (s))), (2, .int (x)), (3, .int (nI (w))), (4, .int (nI (1))), (5, .int (nI (d))), (6, .int (nI (0)))]) (q := 89) hC dX4_can_87 (by decide) rfl rfl rfl ?_
              refine vv_iincN (x := d) (L' := [(0, .ref (Y.2.1 (0))), (1, .int (nI (s))), (2, .int (x)), (3, .int (nI (w))), (4, .int (nI (1))), (5, .int (nI (d + 1))), (6, .int (nI (0)))]) (q := 92) hC dX4_can_89 rfl (by decide) rfl rfl rfl ?_
              refine vv_goto (tgt := 24) hC dX4_can_92 (by decide) ?_
              refine vv_sub (L' := [(0, .ref (Y.2.1 (0))), (1, .int (nI (s))), (2, .int (x)), (3, .int (nI (w))), (4, .int (nI (1))), (5, .int (nI (d + 1)))]) (by simp) ?_
              refine vv_loc (L' := [(0, .ref (Y.2.1 (0))), (1, .int (nI (s))), (2, .int (x)), (3, .int (nI (w))), (4, .int (vv_B ((w = 3 ∨ pm_hn σ n r s 5) ∧ vv_all (fun j0 => ¬ (pc_bit x j0 ↔ w = 2) ∨ pm_hn σ n r s j0) (d + 1) = true))), (5, .int (nI ((d + 1))))]) (by rw [vv_B1 ⟨c_54.1, vv_all_s c_54.2 (Or.inl (fun z => c_42 (z.mpr c_61)))⟩]; rfl) ?_
              exact ih_24 (d + 1) (by first | omega | (dsimp only; omega))  (by omega)
        · refine vv_iconst (q := 46) hC (nI 1) dX4_can_45 (by decide) rfl ?_
          refine vv_goto (tgt := 50) hC dX4_can_46 (by decide) ?_
          refine vv_istore (L' := [(0, .ref (Y.2.1 (0))), (1, .int (nI (s))), (2, .int (x)), (3, .int (nI (w))), (4, .int (vv_B ((w = 3 ∨ pm_hn σ n r s 5) ∧ vv_all (fun j0 => ¬ (pc_bit x j0 ↔ w = 2) ∨ pm_hn σ n r s j0) d = true))), (5, .int (nI (d))), (6, .int (nI (1)))]) (q := 52) hC dX4_can_50 (by decide) rfl rfl rfl ?_
          refine vv_iload (q := 54) hC dX4_can_52 (x := vv_B ((w = 3 ∨ pm_hn σ n r s 5) ∧ vv_all (fun j0 => ¬ (pc_bit x j0 ↔ w = 2) ∨ pm_hn σ n r s j0) d = true)) rfl rfl ?_
          refine vv_ifB_eq (b := (w = 3 ∨ pm_hn σ n r s 5) ∧ vv_all (fun j0 => ¬ (pc_bit x j0 ↔ w = 2) ∨ pm_hn σ n r s j0) d = true) (q := 57) (tgt := 86) hC dX4_can_54 (by decide) rfl (fun c_54 => ?_) (fun c_54 => ?_)
          · refine vv_iconst (q := 87) hC (nI 0) dX4_can_86 (by decide) rfl ?_
            refine vv_istore (L' := [(0, .ref (Y.2.1 (0))), (1, .int (nI (s))), (2, .int (x)), (3, .int (nI (w))), (4, .int (nI (0))), (5, .int (nI (d))), (6, .int (nI (1)))]) (q := 89) hC dX4_can_87 (by decide) rfl rfl rfl ?_
            refine vv_iincN (x := d) (L' := [(0, .ref (Y.2.1 (0))), (1, .int (nI (s))), (2, .int (x)), (3, .int (nI (w))), (4, .int (nI (0))), (5, .int (nI (d + 1))), (6, .int (nI (1)))]) (q := 92) hC dX4_can_89 rfl (by decide) rfl rfl rfl ?_
            refine vv_goto (tgt := 24) hC dX4_can_92 (by decide) ?_
            refine vv_sub (L' := [(0, .ref (Y.2.1 (0))), (1, .int (nI (s))), (2, .int (x)), (3, .int (nI (w))), (4, .int (nI (0))), (5, .int (nI (d + 1)))]) (by simp) ?_
            refine vv_loc (L' := [(0, .ref (Y.2.1 (0))), (1, .int (nI (s))), (2, .int (x)), (3, .int (nI (w))), (4, .int (vv_B ((w = 3 ∨ pm_hn σ n r s 5) ∧ vv_all (fun j0 => ¬ (pc_bit x j0 ↔ w = 2) ∨ pm_hn σ n r s j0) (d + 1) = true))), (5, .int (nI ((d + 1))))]) (by rw [vv_B0 (fun h => c_54 ⟨h.1, vv_all_iff.mpr (fun j hj => vv_all_iff.mp h.2 j (by omega))⟩)]; rfl) ?_
            exact ih_24 (d + 1) (by first | omega | (dsimp only; omega))  (by omega)
          · refine vv_iload (q := 59) hC dX4_can_57 (x := nI (1)) rfl rfl ?_
            refine vv_iload_n (q := 60) hC dX4_can_59 (x := nI (w)) rfl rfl ?_
            refine vv_iconst (q := 61) hC (nI 2) dX4_can_60 (by decide) rfl ?_
            refine vv_icmpN_ne (x := w) (y := 2) (q := 64) (tgt := 68) hC dX4_can_61 (by decide) (by omega) (by omega) rfl (fun c_61 => ?_) (fun c_61 => ?_)
            · refine vv_iconst (q := 69) hC (nI 0) dX4_can_68 (by decide) rfl ?_
              refine vv_icmpN_ne (x := 1) (y := 0) (q := 72) (tgt := 82) hC dX4_can_69 (by decide) (by omega) (by omega) rfl (fun c_69 => ?_) (fun c_69 => absurd c_69 (by decide))
              refine vv_iconst (q := 83) hC (nI 1) dX4_can_82 (by decide) rfl ?_
              refine vv_goto (tgt := 87) hC dX4_can_83 (by decide) ?_
              refine vv_istore (L' := [(0, .ref (Y.2.1 (0))), (1, .int (nI (s))), (2, .int (x)), (3, .int (nI (w))), (4, .int (nI (1))), (5, .int (nI (d))), (6, .int (nI (1)))]) (q := 89) hC dX4_can_87 (by decide) rfl rfl rfl ?_
              refine vv_iincN (x := d) (L' := [(0, .ref (Y.2.1 (0))), (1, .int (nI (s))), (2, .int (x)), (3, .int (nI (w))), (4, .int (nI (1))), (5, .int (nI (d + 1))), (6, .int (nI (1)))]) (q := 92) hC dX4_can_89 rfl (by decide) rfl rfl rfl ?_
              refine vv_goto (tgt := 24) hC dX4_can_92 (by decide) ?_
              refine vv_sub (L' := [(0, .ref (Y.2.1 (0))), (1, .int (nI (s))), (2, .int (x)), (3, .int (nI (w))), (4, .int (nI (1))), (5, .int (nI (d + 1)))]) (by simp) ?_
              refine vv_loc (L' := [(0, .ref (Y.2.1 (0))), (1, .int (nI (s))), (2, .int (x)), (3, .int (nI (w))), (4, .int (vv_B ((w = 3 ∨ pm_hn σ n r s 5) ∧ vv_all (fun j0 => ¬ (pc_bit x j0 ↔ w = 2) ∨ pm_hn σ n r s j0) (d + 1) = true))), (5, .int (nI ((d + 1))))]) (by rw [vv_B1 ⟨c_54.1, vv_all_s c_54.2 (Or.inl (fun z => c_61 (z.mp c_42)))⟩]; rfl) ?_
              exact ih_24 (d + 1) (by first | omega | (dsimp only; omega))  (by omega)
            · refine vv_iconst (q := 65) hC (nI 1) dX4_can_64 (by decide) rfl ?_
              refine vv_goto (tgt := 69) hC dX4_can_65 (by decide) ?_
              refine vv_icmpN_ne (x := 1) (y := 1) (q := 72) (tgt := 82) hC dX4_can_69 (by decide) (by omega) (by omega) rfl (fun c_69 => absurd c_69 (by decide)) (fun c_69 => ?_)
              refine vv_aload_n (q := 73) hC dX4_can_72 (x := Y.2.1 (0)) rfl rfl ?_
              refine vv_iload_n (q := 74) hC dX4_can_73 (x := nI (s)) rfl rfl ?_
              refine vv_iload (q := 76) hC dX4_can_74 (x := nI (d)) rfl rfl ?_
              refine vv_callV (n := 2) (k := 0) (As := [.int (nI (s)), .int (nI (d))]) (st := []) (q := 79) hC (hY.k (by decide)) (hY.M _) (by rw [hY.cl]; rfl) (cm_X4_hasNewest _ Y n hY σ r s d hr hr10 (by omega) (by omega)) gX4_can_X4_hasNewest rfl (by decide +kernel) dX4_can_76 rfl rfl rfl (vv_kR ?_)
              refine vv_ifB_eq (b := pm_hn σ n r s d) (q := 82) (tgt := 86) hC dX4_can_79 (by decide) rfl (fun c_79 => ?_) (fun c_79 => ?_)
              · refine vv_iconst (q := 87) hC (nI 0) dX4_can_86 (by decide) rfl ?_
                refine vv_istore (L' := [(0, .ref (Y.2.1 (0))), (1, .int (nI (s))), (2, .int (x)), (3, .int (nI (w))), (4, .int (nI (0))), (5, .int (nI (d))), (6, .int (nI (1)))]) (q := 89) hC dX4_can_87 (by decide) rfl rfl rfl ?_
                refine vv_iincN (x := d) (L' := [(0, .ref (Y.2.1 (0))), (1, .int (nI (s))), (2, .int (x)), (3, .int (nI (w))), (4, .int (nI (0))), (5, .int (nI (d + 1))), (6, .int (nI (1)))]) (q := 92) hC dX4_can_89 rfl (by decide) rfl rfl rfl ?_
                refine vv_goto (tgt := 24) hC dX4_can_92 (by decide) ?_
                refine vv_sub (L' := [(0, .ref (Y.2.1 (0))), (1, .int (nI (s))), (2, .int (x)), (3, .int (nI (w))), (4, .int (nI (0))), (5, .int (nI (d + 1)))]) (by simp) ?_
                refine vv_loc (L' := [(0, .ref (Y.2.1 (0))), (1, .int (nI (s))), (2, .int (x)), (3, .int (nI (w))), (4, .int (vv_B ((w = 3 ∨ pm_hn σ n r s 5) ∧ vv_all (fun j0 => ¬ (pc_bit x j0 ↔ w = 2) ∨ pm_hn σ n r s j0) (d + 1) = true))), (5, .int (nI ((d + 1))))]) (by rw [vv_B0 (fun h => vv_all_m (fun z => z.elim (fun y => y (iff_of_true c_42 c_61)) c_79) h.2)]; rfl) ?_
                exact ih_24 (d + 1) (by first | omega | (dsimp only; omega))  (by omega)
              · refine vv_iconst (q := 83) hC (nI 1) dX4_can_82 (by decide) rfl ?_
                refine vv_goto (tgt := 87) hC dX4_can_83 (by decide) ?_
                refine vv_istore (L' := [(0, .ref (Y.2.1 (0))), (1, .int (nI (s))), (2, .int (x)), (3, .int (nI (w))), (4, .int (nI (1))), (5, .int (nI (d))), (6, .int (nI (1)))]) (q := 89) hC dX4_can_87 (by decide) rfl rfl rfl ?_
                refine vv_iincN (x := d) (L' := [(0, .ref (Y.2.1 (0))), (1, .int (nI (s))), (2, .int (x)), (3, .int (nI (w))), (4, .int (nI (1))), (5, .int (nI (d + 1))), (6, .int (nI (1)))]) (q := 92) hC dX4_can_89 rfl (by decide) rfl rfl rfl ?_
                refine vv_goto (tgt := 24) hC dX4_can_92 (by decide) ?_
                refine vv_sub (L' := [(0, .ref (Y.2.1 (0))), (1, .int (nI (s))), (2, .int (x)), (3, .int (nI (w))), (4, .int (nI (1))), (5, .int (nI (d + 1)))]) (by simp) ?_
                refine vv_loc (L' := [(0, .ref (Y.2.1 (0))), (1, .int (nI (s))), (2, .int (x)), (3, .int (nI (w))), (4, .int (vv_B ((w = 3 ∨ pm_hn σ n r s 5) ∧ vv_all (fun j0 => ¬ (pc_bit x j0 ↔ w = 2) ∨ pm_hn σ n r s j0) (d + 1) = true))), (5, .int (nI ((d + 1))))]) (by rw [vv_B1 ⟨c_54.1, vv_all_s c_54.2 (Or.inr c_79)⟩]; rfl) ?_
                exact ih_24 (d + 1) (by first | omega | (dsimp only; omega))  (by omega)
    refine vv_loc (L' := [(0, .ref (Y.2.1 (0))), (1, .int (nI (s))), (2, .int (x)), (3, .int (nI (w))), (4, .int (vv_B ((w = 3 ∨ pm_hn σ n r s 5) ∧ vv_all (fun j0 => ¬ (pc_bit x j0 ↔ w = 2) ∨ pm_hn σ n r s j0) 0 = true))), (5, .int (nI (0)))]) (by rw [vv_B1 ⟨Or.inl c_2, rfl⟩]; rfl) ?_
    exact lp_24 0 (by omega)
  · refine vv_aload_n (q := 6) hC dX4_can_5 (x := Y.2.1 (0)) rfl rfl ?_
    refine vv_iload_n (q := 7) hC dX4_can_6 (x := nI (s)) rfl rfl ?_
    refine vv_iconst (q := 8) hC (nI 5) dX4_can_7 (by decide) rfl ?_
    refine vv_callV (n := 2) (k := 0) (As := [.int (nI (s)), .int (nI (5))]) (st := []) (q := 11) hC (hY.k (by decide)) (hY.M _) (by rw [hY.cl]; rfl) (cm_X4_hasNewest _ Y n hY σ r s 5 hr hr10 (by omega) (by omega)) gX4_can_X4_hasNewest rfl (by decide +kernel) dX4_can_8 rfl rfl rfl (vv_kR ?_)
    refine vv_ifB_eq (b := pm_hn σ n r s 5) (q := 14) (tgt := 18) hC dX4_can_11 (by decide) rfl (fun c_11 => ?_) (fun c_11 => ?_)
    · refine vv_iconst (q := 19) hC (nI 0) dX4_can_18 (by decide) rfl ?_
      refine vv_istore (L' := [(0, .ref (Y.2.1 (0))), (1, .int (nI (s))), (2, .int (x)), (3, .int (nI (w))), (4, .int (nI (0)))]) (q := 21) hC dX4_can_19 (by decide) rfl rfl rfl ?_
      refine vv_iconst (q := 22) hC (nI 0) dX4_can_21 (by decide) rfl ?_
      refine vv_istore (L' := [(0, .ref (Y.2.1 (0))), (1, .int (nI (s))), (2, .int (x)), (3, .int (nI (w))), (4, .int (nI (0))), (5, .int (nI (0)))]) (q := 24) hC dX4_can_22 (by decide) rfl rfl rfl ?_
      have lp_24 : ∀ d : Nat, (d ≤ n - 1) → vv_V Y 7 Z σ 24 [(0, .ref (Y.2.1 (0))), (1, .int (nI (s))), (2, .int (x)), (3, .int (nI (w))), (4, .int (vv_B ((w = 3 ∨ pm_hn σ n r s 5) ∧ vv_all (fun j0 => ¬ (pc_bit x j0 ↔ w = 2) ∨ pm_hn σ n r s j0) d = true))), (5, .int (nI (d)))] [] := by
        refine vv_ind (fun d => n - d) (fun d ih_24 => ?_)
        intro hd
        refine vv_iload (q := 26) hC dX4_can_24 (x := nI (d)) rfl rfl ?_
        refine vv_aload_n (q := 27) hC dX4_can_26 (x := Y.2.1 (0)) rfl rfl ?_
        refine pm_gM (q := 30) hY hC 1 hi_X4 hf_many (by decide) rfl (v := .int (nI (n))) rfl dX4_can_27 rfl ?_
        refine vv_iconst (q := 31) hC (nI 1) dX4_can_30 (by decide) rfl ?_
        refine vv_subN (x := n) (y := 1) (q := 32) hC dX4_can_31 (by omega) rfl ?_
        refine vv_icmpN_ge (x := d) (y := n - 1) (q := 35) (tgt := 95) hC dX4_can_32 (by decide) (by omega) (by omega) rfl (fun c_32 => ?_) (fun c_32 => ?_)
        · refine vv_iload (q := 97) hC dX4_can_95 (x := vv_B ((w = 3 ∨ pm_hn σ n r s 5) ∧ vv_all (fun j0 => ¬ (pc_bit x j0 ↔ w = 2) ∨ pm_hn σ n r s j0) d = true)) rfl rfl ?_
          refine vv_zret (v := vv_B ((w = 3 ∨ pm_hn σ n r s 5) ∧ vv_all (fun j0 => ¬ (pc_bit x j0 ↔ w = 2) ∨ pm_hn σ n r s j0) d = true)) hC vv_narB dX4_can_97 ?_
          rw [hp]
          have ed : d = n - 1 := by omega
          subst ed
          exact ⟨rfl, rfl⟩
        · refine vv_iload_n (q := 36) hC dX4_can_35 (x := x) rfl rfl ?_
          refine vv_iload (q := 38) hC dX4_can_36 (x := nI (d)) rfl rfl ?_
          refine vv_ishr (x := x) (y := nI (d)) (q := 39) hC dX4_can_38 rfl ?_
          refine vv_iconst (q := 40) hC (nI 1) dX4_can_39 (by decide) rfl ?_
          refine vv_iand (x := x >>> ((nI (d)) &&& 31)) (y := nI (1)) (q := 41) hC dX4_can_40 rfl ?_
          refine vv_iconst (q := 42) hC (nI 1) dX4_can_41 (by decide) rfl ?_
          refine vv_icmp_ne (x := (x >>> ((nI (d)) &&& 31)) &&& (nI (1))) (y := nI (1)) (q := 45) (tgt := 49) hC dX4_can_42 (by decide) rfl (fun c_42 => ?_) (fun c_42 => ?_)
          · refine vv_iconst (q := 50) hC (nI 0) dX4_can_49 (by decide) rfl ?_
            refine vv_istore (L' := [(0, .ref (Y.2.1 (0))), (1, .int (nI (s))), (2, .int (x)), (3, .int (nI (w))), (4, .int (vv_B ((w = 3 ∨ pm_hn σ n r s 5) ∧ vv_all (fun j0 => ¬ (pc_bit x j0 ↔ w = 2) ∨ pm_hn σ n r s j0) d = true))), (5, .int (nI (d))), (6, .int (nI (0)))]) (q := 52) hC dX4_can_50 (by decide) rfl rfl rfl ?_
            refine vv_iload (q := 54) hC dX4_can_52 (x := vv_B ((w = 3 ∨ pm_hn σ n r s 5) ∧ vv_all (fun j0 => ¬ (pc_bit x j0 ↔ w = 2) ∨ pm_hn σ n r s j0) d = true)) rfl rfl ?_
            refine vv_ifB_eq (b := (w = 3 ∨ pm_hn σ n r s 5) ∧ vv_all (fun j0 => ¬ (pc_bit x j0 ↔ w = 2) ∨ pm_hn σ n r s j0) d = true) (q := 57) (tgt := 86) hC dX4_can_54 (by decide) rfl (fun c_54 => ?_) (fun c_54 => ?_)
            · refine vv_iconst (q := 87) hC (nI 0) dX4_can_86 (by decide) rfl ?_
              refine vv_istore (L' := [(0, .ref (Y.2.1 (0))), (1, .int (nI (s))), (2, .int (x)), (3, .int (nI (w))), (4, .int (nI (0))), (5, .int (nI (d))), (6, .int (nI (0)))]) (q := 89) hC dX4_can_87 (by decide) rfl rfl rfl ?_
              refine vv_iincN (x := d) (L' := [(0, .ref (Y.2.1 (0))), (1, .int (nI (s))), (2, .int (x)), (3, .int (nI (w))), (4, .int (nI (0))), (5, .int (nI (d + 1))), (6, .int (nI (0)))]) (q := 92) hC dX4_can_89 rfl (by decide) rfl rfl rfl ?_
              refine vv_goto (tgt := 24) hC dX4_can_92 (by decide) ?_
              refine vv_sub (L' := [(0, .ref (Y.2.1 (0))), (1, .int (nI (s))), (2, .int (x)), (3, .int (nI (w))), (4, .int (nI (0))), (5, .int (nI (d + 1)))]) (by simp) ?_
              refine vv_loc (L' := [(0, .ref (Y.2.1 (0))), (1, .int (nI (s))), (2, .int (x)), (3, .int (nI (w))), (4, .int (vv_B ((w = 3 ∨ pm_hn σ n r s 5) ∧ vv_all (fun j0 => ¬ (pc_bit x j0 ↔ w = 2) ∨ pm_hn σ n r s j0) (d + 1) = true))), (5, .int (nI ((d + 1))))]) (by rw [vv_B0 (fun h => c_54 ⟨h.1, vv_all_iff.mpr (fun j hj => vv_all_iff.mp h.2 j (by omega))⟩)]; rfl) ?_
              exact ih_24 (d + 1) (by first | omega | (dsimp only; omega))  (by omega)
            · refine vv_iload (q := 59) hC dX4_can_57 (x := nI (0)) rfl rfl ?_
              refine vv_iload_n (q := 60) hC dX4_can_59 (x := nI (w)) rfl rfl ?_
              refine vv_iconst (q := 61) hC (nI 2) dX4_can_60 (by decide) rfl ?_
              refine vv_icmpN_ne (x := w) (y := 2) (q := 64) (tgt := 68) hC dX4_can_61 (by decide) (by omega) (by omega) rfl (fun c_61 => ?_) (fun c_61 => ?_)
              · refine vv_iconst (q := 69) hC (nI 0) dX4_can_68 (by decide) rfl ?_
                refine vv_icmpN_ne (x := 0) (y := 0) (q := 72) (tgt := 82) hC dX4_can_69 (by decide) (by omega) (by omega) rfl (fun c_69 => absurd c_69 (by decide)) (fun c_69 => ?_)
                refine vv_aload_n (q := 73) hC dX4_can_72 (x := Y.2.1 (0)) rfl rfl ?_
                refine vv_iload_n (q := 74) hC dX4_can_73 (x := nI (s)) rfl rfl ?_
                refine vv_iload (q := 76) hC dX4_can_74 (x := nI (d)) rfl rfl ?_
                refine vv_callV (n := 2) (k := 0) (As := [.int (nI (s)), .int (nI (d))]) (st := []) (q := 79) hC (hY.k (by decide)) (hY.M _) (by rw [hY.cl]; rfl) (cm_X4_hasNewest _ Y n hY σ r s d hr hr10 (by omega) (by omega)) gX4_can_X4_hasNewest rfl (by decide +kernel) dX4_can_76 rfl rfl rfl (vv_kR ?_)
                refine vv_ifB_eq (b := pm_hn σ n r s d) (q := 82) (tgt := 86) hC dX4_can_79 (by decide) rfl (fun c_79 => ?_) (fun c_79 => ?_)
                · refine vv_iconst (q := 87) hC (nI 0) dX4_can_86 (by decide) rfl ?_
                  refine vv_istore (L' := [(0, .ref (Y.2.1 (0))), (1, .int (nI (s))), (2, .int (x)), (3, .int (nI (w))), (4, .int (nI (0))), (5, .int (nI (d))), (6, .int (nI (0)))]) (q := 89) hC dX4_can_87 (by decide) rfl rfl rfl ?_
                  refine vv_iincN (x := d) (L' := [(0, .ref (Y.2.1 (0))), (1, .int (nI (s))), (2, .int (x)), (3, .int (nI (w))), (4, .int (nI (0))), (5, .int (nI (d + 1))), (6, .int (nI (0)))]) (q := 92) hC dX4_can_89 rfl (by decide) rfl rfl rfl ?_
                  refine vv_goto (tgt := 24) hC dX4_can_92 (by decide) ?_
                  refine vv_sub (L' := [(0, .ref (Y.2.1 (0))), (1, .int (nI (s))), (2, .int (x)), (3, .int (nI (w))), (4, .int (nI (0))), (5, .int (nI (d + 1)))]) (by simp) ?_
                  refine vv_loc (L' := [(0, .ref (Y.2.1 (0))), (1, .int (nI (s))), (2, .int (x)), (3, .int (nI (w))), (4, .int (vv_B ((w = 3 ∨ pm_hn σ n r s 5) ∧ vv_all (fun j0 => ¬ (pc_bit x j0 ↔ w = 2) ∨ pm_hn σ n r s j0) (d + 1) = true))), (5, .int (nI ((d + 1))))]) (by rw [vv_B0 (fun h => vv_all_m (fun z => z.elim (fun y => y (iff_of_false c_42 c_61)) c_79) h.2)]; rfl) ?_
                  exact ih_24 (d + 1) (by first | omega | (dsimp only; omega))  (by omega)
                · refine vv_iconst (q := 83) hC (nI 1) dX4_can_82 (by decide) rfl ?_
                  refine vv_goto (tgt := 87) hC dX4_can_83 (by decide) ?_
                  refine vv_istore (L' := [(0, .ref (Y.2.1 (0))), (1, .int (nI (s))), (2, .int (x)), (3, .int (nI (w))), (4, .int (nI (1))), (5, .int (nI (d))), (6, .int (nI (0)))]) (q := 89) hC dX4_can_87 (by decide) rfl rfl rfl ?_
                  refine vv_iincN (x := d) (L' := [(0, .ref (Y.2.1 (0))), (1, .int (nI (s))), (2, .int (x)), (3, .int (nI (w))), (4, .int (nI (1))), (5, .int (nI (d + 1))), (6, .int (nI (0)))]) (q := 92) hC dX4_can_89 rfl (by decide) rfl rfl rfl ?_
                  refine vv_goto (tgt := 24) hC dX4_can_92 (by decide) ?_
                  refine vv_sub (L' := [(0, .ref (Y.2.1 (0))), (1, .int (nI (s))), (2, .int (x)), (3, .int (nI (w))), (4, .int (nI (1))), (5, .int (nI (d + 1)))]) (by simp) ?_
                  refine vv_loc (L' := [(0, .ref (Y.2.1 (0))), (1, .int (nI (s))), (2, .int (x)), (3, .int (nI (w))), (4, .int (vv_B ((w = 3 ∨ pm_hn σ n r s 5) ∧ vv_all (fun j0 => ¬ (pc_bit x j0 ↔ w = 2) ∨ pm_hn σ n r s j0) (d + 1) = true))), (5, .int (nI ((d + 1))))]) (by rw [vv_B1 ⟨c_54.1, vv_all_s c_54.2 (Or.inr c_79)⟩]; rfl) ?_
                  exact ih_24 (d + 1) (by first | omega | (dsimp only; omega))  (by omega)
              · refine vv_iconst (q := 65) hC (nI 1) dX4_can_64 (by decide) rfl ?_
                refine vv_goto (tgt := 69) hC dX4_can_65 (by decide) ?_
                refine vv_icmpN_ne (x := 0) (y := 1) (q := 72) (tgt := 82) hC dX4_can_69 (by decide) (by omega) (by omega) rfl (fun c_69 => ?_) (fun c_69 => absurd c_69 (by decide))
                refine vv_iconst (q := 83) hC (nI 1) dX4_can_82 (by decide) rfl ?_
                refine vv_goto (tgt := 87) hC dX4_can_83 (by decide) ?_
                refine vv_istore (L' := [(0, .ref (Y.2.1 (0))), (1, .int (nI (s))), (2, .int (x)), (3, .int (nI (w))), (4, .int (nI (1))), (5, .int (nI (d))), (6, .int (nI (0)))]) (q := 89) hC dX4_can_87 (by decide) rfl rfl rfl ?_
                refine vv_iincN (x := d) (L' := [(0, .ref (Y.2.1 (0))), (1, .int (nI (s))), (2, .int (x)), (3, .int (nI (w))), (4, .int (nI (1))), (5, .int (nI (d + 1))), (6, .int (nI (0)))]) (q := 92) hC dX4_can_89 rfl (by decide) rfl rfl rfl ?_
                refine vv_goto (tgt := 24) hC dX4_can_92 (by decide) ?_
                refine vv_sub (L' := [(0, .ref (Y.2.1 (0))), (1, .int (nI (s))), (2, .int (x)), (3, .int (nI (w))), (4, .int (nI (1))), (5, .int (nI (d + 1)))]) (by simp) ?_
                refine vv_loc (L' := [(0, .ref (Y.2.1 (0))), (1, .int (nI (s))), (2, .int (x)), (3, .int (nI (w))), (4, .int (vv_B ((w = 3 ∨ pm_hn σ n r s 5) ∧ vv_all (fun j0 => ¬ (pc_bit x j0 ↔ w = 2) ∨ pm_hn σ n r s j0) (d + 1) = true))), (5, .int (nI ((d + 1))))]) (by rw [vv_B1 ⟨c_54.1, vv_all_s c_54.2 (Or.inl (fun z => c_42 (z.mpr c_61)))⟩]; rfl) ?_
                exact ih_24 (d + 1) (by first | omega | (dsimp only; omega))  (by omega)
          · refine vv_iconst (q := 46) hC (nI 1) dX4_can_45 (by decide) rfl ?_
            refine vv_goto (tgt := 50) hC dX4_can_46 (by decide) ?_
            refine vv_istore (L' := [(0, .ref (Y.2.1 (0))), (1, .int (nI (s))), (2, .int (x)), (3, .int (nI (w))), (4, .int (vv_B ((w = 3 ∨ pm_hn σ n r s 5) ∧ vv_all (fun j0 => ¬ (pc_bit x j0 ↔ w = 2) ∨ pm_hn σ n r s j0) d = true))), (5, .int (nI (d))), (6, .int (nI (1)))]) (q := 52) hC dX4_can_50 (by decide) rfl rfl rfl ?_
            refine vv_iload (q := 54) hC dX4_can_52 (x := vv_B ((w = 3 ∨ pm_hn σ n r s 5) ∧ vv_all (fun j0 => ¬ (pc_bit x j0 ↔ w = 2) ∨ pm_hn σ n r s j0) d = true)) rfl rfl ?_
            refine vv_ifB_eq (b := (w = 3 ∨ pm_hn σ n r s 5) ∧ vv_all (fun j0 => ¬ (pc_bit x j0 ↔ w = 2) ∨ pm_hn σ n r s j0) d = true) (q := 57) (tgt := 86) hC dX4_can_54 (by decide) rfl (fun c_54 => ?_) (fun c_54 => ?_)
            · refine vv_iconst (q := 87) hC (nI 0) dX4_can_86 (by decide) rfl ?_
              refine vv_istore (L' := [(0, .ref (Y.2.1 (0))), (1, .int (nI (s))), (2, .int (x)), (3, .int (nI (w))), (4, .int (nI (0))), (5, .int (nI (d))), (6, .int (nI (1)))]) (q := 89) hC dX4_can_87 (by decide) rfl rfl rfl ?_
              refine vv_iincN (x := d) (L' := [(0, .ref (Y.2.1 (0))), (1, .int (nI (s))), (2, .int (x)), (3, .int (nI (w))), (4, .int (nI (0))), (5, .int (nI (d + 1))), (6, .int (nI (1)))]) (q := 92) hC dX4_can_89 rfl (by decide) rfl rfl rfl ?_
              refine vv_goto (tgt := 24) hC dX4_can_92 (by decide) ?_
              refine vv_sub (L' := [(0, .ref (Y.2.1 (0))), (1, .int (nI (s))), (2, .int (x)), (3, .int (nI (w))), (4, .int (nI (0))), (5, .int (nI (d + 1)))]) (by simp) ?_
              refine vv_loc (L' := [(0, .ref (Y.2.1 (0))), (1, .int (nI (s))), (2, .int (x)), (3, .int (nI (w))), (4, .int (vv_B ((w = 3 ∨ pm_hn σ n r s 5) ∧ vv_all (fun j0 => ¬ (pc_bit x j0 ↔ w = 2) ∨ pm_hn σ n r s j0) (d + 1) = true))), (5, .int (nI ((d + 1))))]) (by rw [vv_B0 (fun h => c_54 ⟨h.1, vv_all_iff.mpr (fun j hj => vv_all_iff.mp h.2 j (by omega))⟩)]; rfl) ?_
              exact ih_24 (d + 1) (by first | omega | (dsimp only; omega))  (by omega)
            · refine vv_iload (q := 59) hC dX4_can_57 (x := nI (1)) rfl rfl ?_
              refine vv_iload_n (q := 60) hC dX4_can_59 (x := nI (w)) rfl rfl ?_
              refine vv_iconst (q := 61) hC (nI 2) dX4_can_60 (by decide) rfl ?_
              refine vv_icmpN_ne (x := w) (y := 2) (q := 64) (tgt := 68) hC dX4_can_61 (by decide) (by omega) (by omega) rfl (fun c_61 => ?_) (fun c_61 => ?_)
              · refine vv_iconst (q := 69) hC (nI 0) dX4_can_68 (by decide) rfl ?_
                refine vv_icmpN_ne (x := 1) (y := 0) (q := 72) (tgt := 82) hC dX4_can_69 (by decide) (by omega) (by omega) rfl (fun c_69 => ?_) (fun c_69 => absurd c_69 (by decide))
                refine vv_iconst (q := 83) hC (nI 1) dX4_can_82 (by decide) rfl ?_
                refine vv_goto (tgt := 87) hC dX4_can_83 (by decide) ?_
                refine vv_istore (L' := [(0, .ref (Y.2.1 (0))), (1, .int (nI (s))), (2, .int (x)), (3, .int (nI (w))), (4, .int (nI (1))), (5, .int (nI (d))), (6, .int (nI (1)))]) (q := 89) hC dX4_can_87 (by decide) rfl rfl rfl ?_
                refine vv_iincN (x := d) (L' := [(0, .ref (Y.2.1 (0))), (1, .int (nI (s))), (2, .int (x)), (3, .int (nI (w))), (4, .int (nI (1))), (5, .int (nI (d + 1))), (6, .int (nI (1)))]) (q := 92) hC dX4_can_89 rfl (by decide) rfl rfl rfl ?_
                refine vv_goto (tgt := 24) hC dX4_can_92 (by decide) ?_
                refine vv_sub (L' := [(0, .ref (Y.2.1 (0))), (1, .int (nI (s))), (2, .int (x)), (3, .int (nI (w))), (4, .int (nI (1))), (5, .int (nI (d + 1)))]) (by simp) ?_
                refine vv_loc (L' := [(0, .ref (Y.2.1 (0))), (1, .int (nI (s))), (2, .int (x)), (3, .int (nI (w))), (4, .int (vv_B ((w = 3 ∨ pm_hn σ n r s 5) ∧ vv_all (fun j0 => ¬ (pc_bit x j0 ↔ w = 2) ∨ pm_hn σ n r s j0) (d + 1) = true))), (5, .int (nI ((d + 1))))]) (by rw [vv_B1 ⟨c_54.1, vv_all_s c_54.2 (Or.inl (fun z => c_61 (z.mp c_42)))⟩]; rfl) ?_
                exact ih_24 (d + 1) (by first | omega | (dsimp only; omega))  (by omega)
              · refine vv_iconst (q := 65) hC (nI 1) dX4_can_64 (by decide) rfl ?_
                refine vv_goto (tgt := 69) hC dX4_can_65 (by decide) ?_
                refine vv_icmpN_ne (x := 1) (y := 1) (q := 72) (tgt := 82) hC dX4_can_69 (by decide) (by omega) (by omega) rfl (fun c_69 => absurd c_69 (by decide)) (fun c_69 => ?_)
                refine vv_aload_n (q := 73) hC dX4_can_72 (x := Y.2.1 (0)) rfl rfl ?_
                refine vv_iload_n (q := 74) hC dX4_can_73 (x := nI (s)) rfl rfl ?_
                refine vv_iload (q := 76) hC dX4_can_74 (x := nI (d)) rfl rfl ?_
                refine vv_callV (n := 2) (k := 0) (As := [.int (nI (s)), .int (nI (d))]) (st := []) (q := 79) hC (hY.k (by decide)) (hY.M _) (by rw [hY.cl]; rfl) (cm_X4_hasNewest _ Y n hY σ r s d hr hr10 (by omega) (by omega)) gX4_can_X4_hasNewest rfl (by decide +kernel) dX4_can_76 rfl rfl rfl (vv_kR ?_)
                refine vv_ifB_eq (b := pm_hn σ n r s d) (q := 82) (tgt := 86) hC dX4_can_79 (by decide) rfl (fun c_79 => ?_) (fun c_79 => ?_)
                · refine vv_iconst (q := 87) hC (nI 0) dX4_can_86 (by decide) rfl ?_
                  refine vv_istore (L' := [(0, .ref (Y.2.1 (0))), (1, .int (nI (s))), (2, .int (x)), (3, .int (nI (w))), (4, .int (nI (0))), (5, .int (nI (d))), (6, .int (nI (1)))]) (q := 89) hC dX4_can_87 (by decide) rfl rfl rfl ?_
                  refine vv_iincN (x := d) (L' := [(0, .ref (Y.2.1 (0))), (1, .int (nI (s))), (2, .int (x)), (3, .int (nI (w))), (4, .int (nI (0))), (5, .int (nI (d + 1))), (6, .int (nI (1)))]) (q := 92) hC dX4_can_89 rfl (by decide) rfl rfl rfl ?_
                  refine vv_goto (tgt := 24) hC dX4_can_92 (by decide) ?_
                  refine vv_sub (L' := [(0, .ref (Y.2.1 (0))), (1, .int (nI (s))), (2, .int (x)), (3, .int (nI (w))), (4, .int (nI (0))), (5, .int (nI (d + 1)))]) (by simp) ?_
                  refine vv_loc (L' := [(0, .ref (Y.2.1 (0))), (1, .int (nI (s))), (2, .int (x)), (3, .int (nI (w))), (4, .int (vv_B ((w = 3 ∨ pm_hn σ n r s 5) ∧ vv_all (fun j0 => ¬ (pc_bit x j0 ↔ w = 2) ∨ pm_hn σ n r s j0) (d + 1) = true))), (5, .int (nI ((d + 1))))]) (by rw [vv_B0 (fun h => vv_all_m (fun z => z.elim (fun y => y (iff_of_true c_42 c_61)) c_79) h.2)]; rfl) ?_
                  exact ih_24 (d + 1) (by first | omega | (dsimp only; omega))  (by omega)
                · refine vv_iconst (q := 83) hC (nI 1) dX4_can_82 (by decide) rfl ?_
                  refine vv_goto (tgt := 87) hC dX4_can_83 (by decide) ?_
                  refine vv_istore (L' := [(0, .ref (Y.2.1 (0))), (1, .int (nI (s))), (2, .int (x)), (3, .int (nI (w))), (4, .int (nI (1))), (5, .int (nI (d))), (6, .int (nI (1)))]) (q := 89) hC dX4_can_87 (by decide) rfl rfl rfl ?_
                  refine vv_iincN (x := d) (L' := [(0, .ref (Y.2.1 (0))), (1, .int (nI (s))), (2, .int (x)), (3, .int (nI (w))), (4, .int (nI (1))), (5, .int (nI (d + 1))), (6, .int (nI (1)))]) (q := 92) hC dX4_can_89 rfl (by decide) rfl rfl rfl ?_
                  refine vv_goto (tgt := 24) hC dX4_can_92 (by decide) ?_
                  refine vv_sub (L' := [(0, .ref (Y.2.1 (0))), (1, .int (nI (s))), (2, .int (x)), (3, .int (nI (w))), (4, .int (nI (1))), (5, .int (nI (d + 1)))]) (by simp) ?_
                  refine vv_loc (L' := [(0, .ref (Y.2.1 (0))), (1, .int (nI (s))), (2, .int (x)), (3, .int (nI (w))), (4, .int (vv_B ((w = 3 ∨ pm_hn σ n r s 5) ∧ vv_all (fun j0 => ¬ (pc_bit x j0 ↔ w = 2) ∨ pm_hn σ n r s j0) (d + 1) = true))), (5, .int (nI ((d + 1))))]) (by rw [vv_B1 ⟨c_54.1, vv_all_s c_54.2 (Or.inr c_79)⟩]; rfl) ?_
                  exact ih_24 (d + 1) (by first | omega | (dsimp only; omega))  (by omega)
      refine vv_loc (L' := [(0, .ref (Y.2.1 (0))), (1, .int (nI (s))), (2, .int (x)), (3, .int (nI (w))), (4, .int (vv_B ((w = 3 ∨ pm_hn σ n r s 5) ∧ vv_all (fun j0 => ¬ (pc_bit x j0 ↔ w = 2) ∨ pm_hn σ n r s j0) 0 = true))), (5, .int (nI (0)))]) (by rw [vv_B0 (fun h => h.1.elim c_2 c_11)]; rfl) ?_
      exact lp_24 0 (by omega)
    · refine vv_iconst (q := 15) hC (nI 1) dX4_can_14 (by decide) rfl ?_
      refine vv_goto (tgt := 19) hC dX4_can_15 (by decide) ?_
      refine vv_istore (L' := [(0, .ref (Y.2.1 (0))), (1, .int (nI (s))), (2, .int (x)), (3, .int (nI (w))), (4, .int (nI (1)))]) (q := 21) hC dX4_can_19 (by decide) rfl rfl rfl ?_
      refine vv_iconst (q := 22) hC (nI 0) dX4_can_21 (by decide) rfl ?_
      refine vv_istore (L' := [(0, .ref (Y.2.1 (0))), (1, .int (nI (s))), (2, .int (x)), (3, .int (nI (w))), (4, .int (nI (1))), (5, .int (nI (0)))]) (q := 24) hC dX4_can_22 (by decide) rfl rfl rfl ?_
      have lp_24 : ∀ d : Nat, (d ≤ n - 1) → vv_V Y 7 Z σ 24 [(0, .ref (Y.2.1 (0))), (1, .int (nI (s))), (2, .int (x)), (3, .int (nI (w))), (4, .int (vv_B ((w = 3 ∨ pm_hn σ n r s 5) ∧ vv_all (fun j0 => ¬ (pc_bit x j0 ↔ w = 2) ∨ pm_hn σ n r s j0) d = true))), (5, .int (nI (d)))] [] := by
        refine vv_ind (fun d => n - d) (fun d ih_24 => ?_)
        intro hd
        refine vv_iload (q := 26) hC dX4_can_24 (x := nI (d)) rfl rfl ?_
        refine vv_aload_n (q := 27) hC dX4_can_26 (x := Y.2.1 (0)) rfl rfl ?_
        refine pm_gM (q := 30) hY hC 1 hi_X4 hf_many (by decide) rfl (v := .int (nI (n))) rfl dX4_can_27 rfl ?_
        refine vv_iconst (q := 31) hC (nI 1) dX4_can_30 (by decide) rfl ?_
        refine vv_subN (x := n) (y := 1) (q := 32) hC dX4_can_31 (by omega) rfl ?_
        refine vv_icmpN_ge (x := d) (y := n - 1) (q := 35) (tgt := 95) hC dX4_can_32 (by decide) (by omega) (by omega) rfl (fun c_32 => ?_) (fun c_32 => ?_)
        · refine vv_iload (q := 97) hC dX4_can_95 (x := vv_B ((w = 3 ∨ pm_hn σ n r s 5) ∧ vv_all (fun j0 => ¬ (pc_bit x j0 ↔ w = 2) ∨ pm_hn σ n r s j0) d = true)) rfl rfl ?_
          refine vv_zret (v := vv_B ((w = 3 ∨ pm_hn σ n r s 5) ∧ vv_all (fun j0 => ¬ (pc_bit x j0 ↔ w = 2) ∨ pm_hn σ n r s j0) d = true)) hC vv_narB dX4_can_97 ?_
          rw [hp]
          have ed : d = n - 1 := by omega
          subst ed
          exact ⟨rfl, rfl⟩
        · refine vv_iload_n (q := 36) hC dX4_can_35 (x := x) rfl rfl ?_
          refine vv_iload (q := 38) hC dX4_can_36 (x := nI (d)) rfl rfl ?_
          refine vv_ishr (x := x) (y := nI (d)) (q := 39) hC dX4_can_38 rfl ?_
          refine vv_iconst (q := 40) hC (nI 1) dX4_can_39 (by decide) rfl ?_
          refine vv_iand (x := x >>> ((nI (d)) &&& 31)) (y := nI (1)) (q := 41) hC dX4_can_40 rfl ?_
          refine vv_iconst (q := 42) hC (nI 1) dX4_can_41 (by decide) rfl ?_
          refine vv_icmp_ne (x := (x >>> ((nI (d)) &&& 31)) &&& (nI (1))) (y := nI (1)) (q := 45) (tgt := 49) hC dX4_can_42 (by decide) rfl (fun c_42 => ?_) (fun c_42 => ?_)
          · refine vv_iconst (q := 50) hC (nI 0) dX4_can_49 (by decide) rfl ?_
            refine vv_istore (L' := [(0, .ref (Y.2.1 (0))), (1, .int (nI (s))), (2, .int (x)), (3, .int (nI (w))), (4, .int (vv_B ((w = 3 ∨ pm_hn σ n r s 5) ∧ vv_all (fun j0 => ¬ (pc_bit x j0 ↔ w = 2) ∨ pm_hn σ n r s j0) d = true))), (5, .int (nI (d))), (6, .int (nI (0)))]) (q := 52) hC dX4_can_50 (by decide) rfl rfl rfl ?_
            refine vv_iload (q := 54) hC dX4_can_52 (x := vv_B ((w = 3 ∨ pm_hn σ n r s 5) ∧ vv_all (fun j0 => ¬ (pc_bit x j0 ↔ w = 2) ∨ pm_hn σ n r s j0) d = true)) rfl rfl ?_
            refine vv_ifB_eq (b := (w = 3 ∨ pm_hn σ n r s 5) ∧ vv_all (fun j0 => ¬ (pc_bit x j0 ↔ w = 2) ∨ pm_hn σ n r s j0) d = true) (q := 57) (tgt := 86) hC dX4_can_54 (by decide) rfl (fun c_54 => ?_) (fun c_54 => ?_)
            · refine vv_iconst (q := 87) hC (nI 0) dX4_can_86 (by decide) rfl ?_
              refine vv_istore (L' := [(0, .ref (Y.2.1 (0))), (1, .int (nI (s))), (2, .int (x)), (3, .int (nI (w))), (4, .int (nI (0))), (5, .int (nI (d))), (6, .int (nI (0)))]) (q := 89) hC dX4_can_87 (by decide) rfl rfl rfl ?_
              refine vv_iincN (x := d) (L' := [(0, .ref (Y.2.1 (0))), (1, .int (nI (s))), (2, .int (x)), (3, .int (nI (w))), (4, .int (nI (0))), (5, .int (nI (d + 1))), (6, .int (nI (0)))]) (q := 92) hC dX4_can_89 rfl (by decide) rfl rfl rfl ?_
              refine vv_goto (tgt := 24) hC dX4_can_92 (by decide) ?_
              refine vv_sub (L' := [(0, .ref (Y.2.1 (0))), (1, .int (nI (s))), (2, .int (x)), (3, .int (nI (w))), (4, .int (nI (0))), (5, .int (nI (d + 1)))]) (by simp) ?_
              refine vv_loc (L' := [(0, .ref (Y.2.1 (0))), (1, .int (nI (s))), (2, .int (x)), (3, .int (nI (w))), (4, .int (vv_B ((w = 3 ∨ pm_hn σ n r s 5) ∧ vv_all (fun j0 => ¬ (pc_bit x j0 ↔ w = 2) ∨ pm_hn σ n r s j0) (d + 1) = true))), (5, .int (nI ((d + 1))))]) (by rw [vv_B0 (fun h => c_54 ⟨h.1, vv_all_iff.mpr (fun j hj => vv_all_iff.mp h.2 j (by omega))⟩)]; rfl) ?_
              exact ih_24 (d + 1) (by first | omega | (dsimp only; omega))  (by omega)
            · refine vv_iload (q := 59) hC dX4_can_57 (x := nI (0)) rfl rfl ?_
              refine vv_iload_n (q := 60) hC dX4_can_59 (x := nI (w)) rfl rfl ?_
              refine vv_iconst (q := 61) hC (nI 2) dX4_can_60 (by decide) rfl ?_
              refine vv_icmpN_ne (x := w) (y := 2) (q := 64) (tgt := 68) hC dX4_can_61 (by decide) (by omega) (by omega) rfl (fun c_61 => ?_) (fun c_61 => ?_)
              · refine vv_iconst (q := 69) hC (nI 0) dX4_can_68 (by decide) rfl ?_
                refine vv_icmpN_ne (x := 0) (y := 0) (q := 72) (tgt := 82) hC dX4_can_69 (by decide) (by omega) (by omega) rfl (fun c_69 => absurd c_69 (by decide)) (fun c_69 => ?_)
                refine vv_aload_n (q := 73) hC dX4_can_72 (x := Y.2.1 (0)) rfl rfl ?_
                refine vv_iload_n (q := 74) hC dX4_can_73 (x := nI (s)) rfl rfl ?_
                refine vv_iload (q := 76) hC dX4_can_74 (x := nI (d)) rfl rfl ?_
                refine vv_callV (n := 2) (k := 0) (As := [.int (nI (s)), .int (nI (d))]) (st := []) (q := 79) hC (hY.k (by decide)) (hY.M _) (by rw [hY.cl]; rfl) (cm_X4_hasNewest _ Y n hY σ r s d hr hr10 (by omega) (by omega)) gX4_can_X4_hasNewest rfl (by decide +kernel) dX4_can_76 rfl rfl rfl (vv_kR ?_)
                refine vv_ifB_eq (b := pm_hn σ n r s d) (q := 82) (tgt := 86) hC dX4_can_79 (by decide) rfl (fun c_79 => ?_) (fun c_79 => ?_)
                · refine vv_iconst (q := 87) hC (nI 0) dX4_can_86 (by decide) rfl ?_
                  refine vv_istore (L' := [(0, .ref (Y.2.1 (0))), (1, .int (nI (s))), (2, .int (x)), (3, .int (nI (w))), (4, .int (nI (0))), (5, .int (nI (d))), (6, .int (nI (0)))]) (q := 89) hC dX4_can_87 (by decide) rfl rfl rfl ?_
                  refine vv_iincN (x := d) (L' := [(0, .ref (Y.2.1 (0))), (1, .int (nI (s))), (2, .int (x)), (3, .int (nI (w))), (4, .int (nI (0))), (5, .int (nI (d + 1))), (6, .int (nI (0)))]) (q := 92) hC dX4_can_89 rfl (by decide) rfl rfl rfl ?_
                  refine vv_goto (tgt := 24) hC dX4_can_92 (by decide) ?_
                  refine vv_sub (L' := [(0, .ref (Y.2.1 (0))), (1, .int (nI (s))), (2, .int (x)), (3, .int (nI (w))), (4, .int (nI (0))), (5, .int (nI (d + 1)))]) (by simp) ?_
                  refine vv_loc (L' := [(0, .ref (Y.2.1 (0))), (1, .int (nI (s))), (2, .int (x)), (3, .int (nI (w))), (4, .int (vv_B ((w = 3 ∨ pm_hn σ n r s 5) ∧ vv_all (fun j0 => ¬ (pc_bit x j0 ↔ w = 2) ∨ pm_hn σ n r s j0) (d + 1) = true))), (5, .int (nI ((d + 1))))]) (by rw [vv_B0 (fun h => vv_all_m (fun z => z.elim (fun y => y (iff_of_false c_42 c_61)) c_79) h.2)]; rfl) ?_
                  exact ih_24 (d + 1) (by first | omega | (dsimp only; omega))  (by omega)
                · refine vv_iconst (q := 83) hC (nI 1) dX4_can_82 (by decide) rfl ?_
                  refine vv_goto (tgt := 87) hC dX4_can_83 (by decide) ?_
                  refine vv_istore (L' := [(0, .ref (Y.2.1 (0))), (1, .int (nI (s))), (2, .int (x)), (3, .int (nI (w))), (4, .int (nI (1))), (5, .int (nI (d))), (6, .int (nI (0)))]) (q := 89) hC dX4_can_87 (by decide) rfl rfl rfl ?_
                  refine vv_iincN (x := d) (L' := [(0, .ref (Y.2.1 (0))), (1, .int (nI (s))), (2, .int (x)), (3, .int (nI (w))), (4, .int (nI (1))), (5, .int (nI (d + 1))), (6, .int (nI (0)))]) (q := 92) hC dX4_can_89 rfl (by decide) rfl rfl rfl ?_
                  refine vv_goto (tgt := 24) hC dX4_can_92 (by decide) ?_
                  refine vv_sub (L' := [(0, .ref (Y.2.1 (0))), (1, .int (nI (s))), (2, .int (x)), (3, .int (nI (w))), (4, .int (nI (1))), (5, .int (nI (d + 1)))]) (by simp) ?_
                  refine vv_loc (L' := [(0, .ref (Y.2.1 (0))), (1, .int (nI (s))), (2, .int (x)), (3, .int (nI (w))), (4, .int (vv_B ((w = 3 ∨ pm_hn σ n r s 5) ∧ vv_all (fun j0 => ¬ (pc_bit x j0 ↔ w = 2) ∨ pm_hn σ n r s j0) (d + 1) = true))), (5, .int (nI ((d + 1))))]) (by rw [vv_B1 ⟨c_54.1, vv_all_s c_54.2 (Or.inr c_79)⟩]; rfl) ?_
                  exact ih_24 (d + 1) (by first | omega | (dsimp only; omega))  (by omega)
              · refine vv_iconst (q := 65) hC (nI 1) dX4_can_64 (by decide) rfl ?_
                refine vv_goto (tgt := 69) hC dX4_can_65 (by decide) ?_
                refine vv_icmpN_ne (x := 0) (y := 1) (q := 72) (tgt := 82) hC dX4_can_69 (by decide) (by omega) (by omega) rfl (fun c_69 => ?_) (fun c_69 => absurd c_69 (by decide))
                refine vv_iconst (q := 83) hC (nI 1) dX4_can_82 (by decide) rfl ?_
                refine vv_goto (tgt := 87) hC dX4_can_83 (by decide) ?_
                refine vv_istore (L' := [(0, .ref (Y.2.1 (0))), (1, .int (nI (s))), (2, .int (x)), (3, .int (nI (w))), (4, .int (nI (1))), (5, .int (nI (d))), (6, .int (nI (0)))]) (q := 89) hC dX4_can_87 (by decide) rfl rfl rfl ?_
                refine vv_iincN (x := d) (L' := [(0, .ref (Y.2.1 (0))), (1, .int (nI (s))), (2, .int (x)), (3, .int (nI (w))), (4, .int (nI (1))), (5, .int (nI (d + 1))), (6, .int (nI (0)))]) (q := 92) hC dX4_can_89 rfl (by decide) rfl rfl rfl ?_
                refine vv_goto (tgt := 24) hC dX4_can_92 (by decide) ?_
                refine vv_sub (L' := [(0, .ref (Y.2.1 (0))), (1, .int (nI (s))), (2, .int (x)), (3, .int (nI (w))), (4, .int (nI (1))), (5, .int (nI (d + 1)))]) (by simp) ?_
                refine vv_loc (L' := [(0, .ref (Y.2.1 (0))), (1, .int (nI (s))), (2, .int (x)), (3, .int (nI (w))), (4, .int (vv_B ((w = 3 ∨ pm_hn σ n r s 5) ∧ vv_all (fun j0 => ¬ (pc_bit x j0 ↔ w = 2) ∨ pm_hn σ n r s j0) (d + 1) = true))), (5, .int (nI ((d + 1))))]) (by rw [vv_B1 ⟨c_54.1, vv_all_s c_54.2 (Or.inl (fun z => c_42 (z.mpr c_61)))⟩]; rfl) ?_
                exact ih_24 (d + 1) (by first | omega | (dsimp only; omega))  (by omega)
          · refine vv_iconst (q := 46) hC (nI 1) dX4_can_45 (by decide) rfl ?_
            refine vv_goto (tgt := 50) hC dX4_can_46 (by decide) ?_
            refine vv_istore (L' := [(0, .ref (Y.2.1 (0))), (1, .int (nI (s))), (2, .int (x)), (3, .int (nI (w))), (4, .int (vv_B ((w = 3 ∨ pm_hn σ n r s 5) ∧ vv_all (fun j0 => ¬ (pc_bit x j0 ↔ w = 2) ∨ pm_hn σ n r s j0) d = true))), (5, .int (nI (d))), (6, .int (nI (1)))]) (q := 52) hC dX4_can_50 (by decide) rfl rfl rfl ?_
            refine vv_iload (q := 54) hC dX4_can_52 (x := vv_B ((w = 3 ∨ pm_hn σ n r s 5) ∧ vv_all (fun j0 => ¬ (pc_bit x j0 ↔ w = 2) ∨ pm_hn σ n r s j0) d = true)) rfl rfl ?_
            refine vv_ifB_eq (b := (w = 3 ∨ pm_hn σ n r s 5) ∧ vv_all (fun j0 => ¬ (pc_bit x j0 ↔ w = 2) ∨ pm_hn σ n r s j0) d = true) (q := 57) (tgt := 86) hC dX4_can_54 (by decide) rfl (fun c_54 => ?_) (fun c_54 => ?_)
            · refine vv_iconst (q := 87) hC (nI 0) dX4_can_86 (by decide) rfl ?_
              refine vv_istore (L' := [(0, .ref (Y.2.1 (0))), (1, .int (nI (s))), (2, .int (x)), (3, .int (nI (w))), (4, .int (nI (0))), (5, .int (nI (d))), (6, .int (nI (1)))]) (q := 89) hC dX4_can_87 (by decide) rfl rfl rfl ?_
              refine vv_iincN (x := d) (L' := [(0, .ref (Y.2.1 (0))), (1, .int (nI (s))), (2, .int (x)), (3, .int (nI (w))), (4, .int (nI (0))), (5, .int (nI (d + 1))), (6, .int (nI (1)))]) (q := 92) hC dX4_can_89 rfl (by decide) rfl rfl rfl ?_
              refine vv_goto (tgt := 24) hC dX4_can_92 (by decide) ?_
              refine vv_sub (L' := [(0, .ref (Y.2.1 (0))), (1, .int (nI (s))), (2, .int (x)), (3, .int (nI (w))), (4, .int (nI (0))), (5, .int (nI (d + 1)))]) (by simp) ?_
              refine vv_loc (L' := [(0, .ref (Y.2.1 (0))), (1, .int (nI (s))), (2, .int (x)), (3, .int (nI (w))), (4, .int (vv_B ((w = 3 ∨ pm_hn σ n r s 5) ∧ vv_all (fun j0 => ¬ (pc_bit x j0 ↔ w = 2) ∨ pm_hn σ n r s j0) (d + 1) = true))), (5, .int (nI ((d + 1))))]) (by rw [vv_B0 (fun h => c_54 ⟨h.1, vv_all_iff.mpr (fun j hj => vv_all_iff.mp h.2 j (by omega))⟩)]; rfl) ?_
              exact ih_24 (d + 1) (by first | omega | (dsimp only; omega))  (by omega)
            · refine vv_iload (q := 59) hC dX4_can_57 (x := nI (1)) rfl rfl ?_
              refine vv_iload_n (q := 60) hC dX4_can_59 (x := nI (w)) rfl rfl ?_
              refine vv_iconst (q := 61) hC (nI 2) dX4_can_60 (by decide) rfl ?_
              refine vv_icmpN_ne (x := w) (y := 2) (q := 64) (tgt := 68) hC dX4_can_61 (by decide) (by omega) (by omega) rfl (fun c_61 => ?_) (fun c_61 => ?_)
              · refine vv_iconst (q := 69) hC (nI 0) dX4_can_68 (by decide) rfl ?_
                refine vv_icmpN_ne (x := 1) (y := 0) (q := 72) (tgt := 82) hC dX4_can_69 (by decide) (by omega) (by omega) rfl (fun c_69 => ?_) (fun c_69 => absurd c_69 (by decide))
                refine vv_iconst (q := 83) hC (nI 1) dX4_can_82 (by decide) rfl ?_
                refine vv_goto (tgt := 87) hC dX4_can_83 (by decide) ?_
                refine vv_istore (L' := [(0, .ref (Y.2.1 (0))), (1, .int (nI (s))), (2, .int (x)), (3, .int (nI (w))), (4, .int (nI (1))), (5, .int (nI (d))), (6, .int (nI (1)))]) (q := 89) hC dX4_can_87 (by decide) rfl rfl rfl ?_
                refine vv_iincN (x := d) (L' := [(0, .ref (Y.2.1 (0))), (1, .int (nI (s))), (2, .int (x)), (3, .int (nI (w))), (4, .int (nI (1))), (5, .int (nI (d + 1))), (6, .int (nI (1)))]) (q := 92) hC dX4_can_89 rfl (by decide) rfl rfl rfl ?_
                refine vv_goto (tgt := 24) hC dX4_can_92 (by decide) ?_
                refine vv_sub (L' := [(0, .ref (Y.2.1 (0))), (1, .int (nI (s))), (2, .int (x)), (3, .int (nI (w))), (4, .int (nI (1))), (5, .int (nI (d + 1)))]) (by simp) ?_
                refine vv_loc (L' := [(0, .ref (Y.2.1 (0))), (1, .int (nI (s))), (2, .int (x)), (3, .int (nI (w))), (4, .int (vv_B ((w = 3 ∨ pm_hn σ n r s 5) ∧ vv_all (fun j0 => ¬ (pc_bit x j0 ↔ w = 2) ∨ pm_hn σ n r s j0) (d + 1) = true))), (5, .int (nI ((d + 1))))]) (by rw [vv_B1 ⟨c_54.1, vv_all_s c_54.2 (Or.inl (fun z => c_61 (z.mp c_42)))⟩]; rfl) ?_
                exact ih_24 (d + 1) (by first | omega | (dsimp only; omega))  (by omega)
              · refine vv_iconst (q := 65) hC (nI 1) dX4_can_64 (by decide) rfl ?_
                refine vv_goto (tgt := 69) hC dX4_can_65 (by decide) ?_
                refine vv_icmpN_ne (x := 1) (y := 1) (q := 72) (tgt := 82) hC dX4_can_69 (by decide) (by omega) (by omega) rfl (fun c_69 => absurd c_69 (by decide)) (fun c_69 => ?_)
                refine vv_aload_n (q := 73) hC dX4_can_72 (x := Y.2.1 (0)) rfl rfl ?_
                refine vv_iload_n (q := 74) hC dX4_can_73 (x := nI (s)) rfl rfl ?_
                refine vv_iload (q := 76) hC dX4_can_74 (x := nI (d)) rfl rfl ?_
                refine vv_callV (n := 2) (k := 0) (As := [.int (nI (s)), .int (nI (d))]) (st := []) (q := 79) hC (hY.k (by decide)) (hY.M _) (by rw [hY.cl]; rfl) (cm_X4_hasNewest _ Y n hY σ r s d hr hr10 (by omega) (by omega)) gX4_can_X4_hasNewest rfl (by decide +kernel) dX4_can_76 rfl rfl rfl (vv_kR ?_)
                refine vv_ifB_eq (b := pm_hn σ n r s d) (q := 82) (tgt := 86) hC dX4_can_79 (by decide) rfl (fun c_79 => ?_) (fun c_79 => ?_)
                · refine vv_iconst (q := 87) hC (nI 0) dX4_can_86 (by decide) rfl ?_
                  refine vv_istore (L' := [(0, .ref (Y.2.1 (0))), (1, .int (nI (s))), (2, .int (x)), (3, .int (nI (w))), (4, .int (nI (0))), (5, .int (nI (d))), (6, .int (nI (1)))]) (q := 89) hC dX4_can_87 (by decide) rfl rfl rfl ?_
                  refine vv_iincN (x := d) (L' := [(0, .ref (Y.2.1 (0))), (1, .int (nI (s))), (2, .int (x)), (3, .int (nI (w))), (4, .int (nI (0))), (5, .int (nI (d + 1))), (6, .int (nI (1)))]) (q := 92) hC dX4_can_89 rfl (by decide) rfl rfl rfl ?_
                  refine vv_goto (tgt := 24) hC dX4_can_92 (by decide) ?_
                  refine vv_sub (L' := [(0, .ref (Y.2.1 (0))), (1, .int (nI (s))), (2, .int (x)), (3, .int (nI (w))), (4, .int (nI (0))), (5, .int (nI (d + 1)))]) (by simp) ?_
                  refine vv_loc (L' := [(0, .ref (Y.2.1 (0))), (1, .int (nI (s))), (2, .int (x)), (3, .int (nI (w))), (4, .int (vv_B ((w = 3 ∨ pm_hn σ n r s 5) ∧ vv_all (fun j0 => ¬ (pc_bit x j0 ↔ w = 2) ∨ pm_hn σ n r s j0) (d + 1) = true))), (5, .int (nI ((d + 1))))]) (by rw [vv_B0 (fun h => vv_all_m (fun z => z.elim (fun y => y (iff_of_true c_42 c_61)) c_79) h.2)]; rfl) ?_
                  exact ih_24 (d + 1) (by first | omega | (dsimp only; omega))  (by omega)
                · refine vv_iconst (q := 83) hC (nI 1) dX4_can_82 (by decide) rfl ?_
                  refine vv_goto (tgt := 87) hC dX4_can_83 (by decide) ?_
                  refine vv_istore (L' := [(0, .ref (Y.2.1 (0))), (1, .int (nI (s))), (2, .int (x)), (3, .int (nI (w))), (4, .int (nI (1))), (5, .int (nI (d))), (6, .int (nI (1)))]) (q := 89) hC dX4_can_87 (by decide) rfl rfl rfl ?_
                  refine vv_iincN (x := d) (L' := [(0, .ref (Y.2.1 (0))), (1, .int (nI (s))), (2, .int (x)), (3, .int (nI (w))), (4, .int (nI (1))), (5, .int (nI (d + 1))), (6, .int (nI (1)))]) (q := 92) hC dX4_can_89 rfl (by decide) rfl rfl rfl ?_
                  refine vv_goto (tgt := 24) hC dX4_can_92 (by decide) ?_
                  refine vv_sub (L' := [(0, .ref (Y.2.1 (0))), (1, .int (nI (s))), (2, .int (x)), (3, .int (nI (w))), (4, .int (nI (1))), (5, .int (nI (d + 1)))]) (by simp) ?_
                  refine vv_loc (L' := [(0, .ref (Y.2.1 (0))), (1, .int (nI (s))), (2, .int (x)), (3, .int (nI (w))), (4, .int (vv_B ((w = 3 ∨ pm_hn σ n r s 5) ∧ vv_all (fun j0 => ¬ (pc_bit x j0 ↔ w = 2) ∨ pm_hn σ n r s j0) (d + 1) = true))), (5, .int (nI ((d + 1))))]) (by rw [vv_B1 ⟨c_54.1, vv_all_s c_54.2 (Or.inr c_79)⟩]; rfl) ?_
                  exact ih_24 (d + 1) (by first | omega | (dsimp only; omega))  (by omega)
      refine vv_loc (L' := [(0, .ref (Y.2.1 (0))), (1, .int (nI (s))), (2, .int (x)), (3, .int (nI (w))), (4, .int (vv_B ((w = 3 ∨ pm_hn σ n r s 5) ∧ vv_all (fun j0 => ¬ (pc_bit x j0 ↔ w = 2) ∨ pm_hn σ n r s j0) 0 = true))), (5, .int (nI (0)))]) (by rw [vv_B1 ⟨Or.inr c_11, rfl⟩]; rfl) ?_
      exact lp_24 0 (by omega)
set_option maxRecDepth 100000 in
set_option maxHeartbeats 4000000 in
theorem cm_X4_wayOf (l : Launch) (Y : vv_Y) (n : Nat) (hY : pm_sys Y n) (σ : vv_S) (r : Nat) (s : Nat) (x : Int32) (hr : σ 0 8 = nI r) (hr10 : r ≤ 15) (hs : s < 24) : vv_M l Y yX4_wayOf wsX4_wayOf { frames := 5, cells := 0, slots := 0, locals := 113 } [.ref (Y.2.1 (0)), .int (nI (s)), .int (x)] σ (vv_R (.int (pm_way σ n r s x)) σ) := by
  refine vv_M.of (cc := cX4_wayOf) (maxL := 5) (ret := (some .int)) hY.ok (by decide) rfl (Nat.le_of_ble_eq_true rfl) ?_
  intro Z hl hp hC
  subst hl
  have hi_X4 : ∀ w ∈ u_ws RX4 TX4 25, w ∈ wsX4_wayOf := by decide +kernel
  have hf_many : Cond.fieldLink RX4 69 "ParityRowModel" (TX4 1).2.1 (TX4 1).2.2.1 ∈ wsX4_wayOf := by decide +kernel
  have hlo := hY.lo
  have hhi := hY.hi
  refine vv_loc (L' := [(0, .ref (Y.2.1 (0))), (1, .int (nI (s))), (2, .int (x))]) rfl ?_
  refine vv_iconst (q := 1) hC (nI 0) dX4_wayOf_0 (by decide) rfl ?_
  refine vv_istore_n (L' := [(0, .ref (Y.2.1 (0))), (1, .int (nI (s))), (2, .int (x)), (3, .int (nI (0)))]) (q := 2) hC dX4_wayOf_1 (by decide) rfl rfl rfl ?_
  refine vv_iconst (q := 3) hC (nI 0) dX4_wayOf_2 (by decide) rfl ?_
  refine vv_istore (L' := [(0, .ref (Y.2.1 (0))), (1, .int (nI (s))), (2, .int (x)), (3, .int (nI (0))), (4, .int (nI (0)))]) (q := 5) hC dX4_wayOf_3 (by decide) rfl rfl rfl ?_
  have lp_5 : ∀ d : Nat, (d ≤ n - 1) → vv_V Y 5 Z σ 5 [(0, .ref (Y.2.1 (0))), (1, .int (nI (s))), (2, .int (x)), (3, .int (nI (pm_nb x d))), (4, .int (nI (d)))] [] := by
    refine vv_ind (fun d => n - d) (fun d ih_5 => ?_)
    intro hd
    refine vv_iload (q := 7) hC dX4_wayOf_5 (x := nI (d)) rfl rfl ?_
    refine vv_aload_n (q := 8) hC dX4_wayOf_7 (x := Y.2.1 (0)) rfl rfl ?_
    refine pm_gM (q := 11) hY hC 1 hi_X4 hf_many (by decide) rfl (v := .int (nI (n))) rfl dX4_wayOf_8 rfl ?_
    refine vv_iconst (q := 12) hC (nI 1) dX4_wayOf_11 (by decide) rfl ?_
    refine vv_subN (x := n) (y := 1) (q := 13) hC dX4_wayOf_12 (by omega) rfl ?_
    refine vv_icmpN_ge (x := d) (y := n - 1) (q := 16) (tgt := 31) hC dX4_wayOf_13 (by decide) (by omega) (by omega) rfl (fun c_13 => ?_) (fun c_13 => ?_)
    · have ed : d = n - 1 := by omega
      have hnb := pm_nb_le (x := x) (d := n - 1)
      refine vv_loc (L' := [(0, .ref (Y.2.1 (0))), (1, .int (nI (s))), (2, .int (x)), (3, .int (nI (pm_nb x (n - 1)))), (4, .int (nI (n - 1)))]) (by rw [ed]) ?_
      refine vv_iload_n (q := 32) hC dX4_wayOf_31 (x := nI (pm_nb x (n - 1))) rfl rfl ?_
      refine vv_aload_n (q := 33) hC dX4_wayOf_32 (x := Y.2.1 (0)) rfl rfl ?_
      refine pm_gM (q := 36) hY hC 1 hi_X4 hf_many (by decide) rfl (v := .int (nI (n))) rfl dX4_wayOf_33 rfl ?_
      refine vv_iconst (q := 37) hC (nI 1) dX4_wayOf_36 (by decide) rfl ?_
      refine vv_subN (x := n) (y := 1) (q := 38) hC dX4_wayOf_37 (by omega) rfl ?_
      refine vv_icmpN_ne (x := pm_nb x (n - 1)) (y := n - 1) (q := 41) (tgt := 43) hC dX4_wayOf_38 (by decide) (by omega) (by omega) rfl (fun c_38 => ?_) (fun c_38 => ?_)
      · refine vv_aload_n (q := 44) hC dX4_wayOf_43 (x := Y.2.1 (0)) rfl rfl ?_
        refine vv_aload_n (q := 45) hC dX4_wayOf_44 (x := Y.2.1 (0)) rfl rfl ?_
        refine vv_iload_n (q := 46) hC dX4_wayOf_45 (x := nI (s)) rfl rfl ?_
        refine vv_callV (n := 1) (k := 0) (As := [.int (nI (s))]) (st := [.ref (Y.2.1 (0))]) (q := 49) hC (hY.k (by decide)) (hY.M _) (by rw [hY.cl]; rfl) (cm_X4_parityOf _ Y n hY σ s (by omega)) gX4_wayOf_X4_parityOf rfl (by decide +kernel) dX4_wayOf_46 rfl rfl rfl (vv_kR ?_)
        refine vv_iload_n (q := 50) hC dX4_wayOf_49 (x := nI (s)) rfl rfl ?_
        refine vv_callV (n := 2) (k := 0) (As := [.int (nI (pc_pm n s)), .int (nI (s))]) (st := []) (q := 53) hC (hY.k (by decide)) (hY.M _) (by rw [hY.cl]; rfl) (cm_X4_isOn _ Y n hY σ (pc_pm n s) s (pc_pm_lt hlo) (by omega)) gX4_wayOf_X4_isOn rfl (by decide +kernel) dX4_wayOf_50 rfl rfl rfl (vv_kR ?_)
        refine vv_ifB_ne (b := pm_on σ (pc_pm n s) s) (q := 56) (tgt := 58) hC dX4_wayOf_53 (by decide) rfl (fun c_53 => ?_) (fun c_53 => ?_)
        · refine vv_iload_n (q := 59) hC dX4_wayOf_58 (x := nI (pm_nb x (n - 1))) rfl rfl ?_
          refine vv_iconst (q := 60) hC (nI 1) dX4_wayOf_59 (by decide) rfl ?_
          refine vv_addN (x := pm_nb x (n - 1)) (y := 1) (q := 61) hC dX4_wayOf_60 rfl ?_
          refine vv_aload_n (q := 62) hC dX4_wayOf_61 (x := Y.2.1 (0)) rfl rfl ?_
          refine pm_gM (q := 65) hY hC 1 hi_X4 hf_many (by decide) rfl (v := .int (nI (n))) rfl dX4_wayOf_62 rfl ?_
          refine vv_iconst (q := 66) hC (nI 1) dX4_wayOf_65 (by decide) rfl ?_
          refine vv_subN (x := n) (y := 1) (q := 67) hC dX4_wayOf_66 (by omega) rfl ?_
          refine vv_iload_n (q := 68) hC dX4_wayOf_67 (x := nI (pm_nb x (n - 1))) rfl rfl ?_
          refine vv_subN (x := n - 1) (y := pm_nb x (n - 1)) (q := 69) hC dX4_wayOf_68 (by omega) rfl ?_
          refine vv_icmpN_gt (x := (pm_nb x (n - 1)) + 1) (y := (n - 1) - (pm_nb x (n - 1))) (q := 72) (tgt := 76) hC dX4_wayOf_69 (by decide) (by omega) (by omega) rfl (fun c_69 => ?_) (fun c_69 => ?_)
          · refine vv_iconst (q := 77) hC (nI 3) dX4_wayOf_76 (by decide) rfl ?_
            refine vv_istore (L' := [(0, .ref (Y.2.1 (0))), (1, .int (nI (s))), (2, .int (x)), (3, .int (nI (pm_nb x (n - 1)))), (4, .int (nI (3)))]) (q := 79) hC dX4_wayOf_77 (by decide) rfl rfl rfl ?_
            refine vv_aload_n (q := 80) hC dX4_wayOf_79 (x := Y.2.1 (0)) rfl rfl ?_
            refine vv_iload_n (q := 81) hC dX4_wayOf_80 (x := nI (s)) rfl rfl ?_
            refine vv_iload_n (q := 82) hC dX4_wayOf_81 (x := x) rfl rfl ?_
            refine vv_iload (q := 84) hC dX4_wayOf_82 (x := nI (3)) rfl rfl ?_
            refine vv_callV (n := 3) (k := 0) (As := [.int (nI (s)), .int (x), .int (nI (3))]) (st := []) (q := 87) hC (hY.k (by decide)) (hY.M _) (by rw [hY.cl]; rfl) (cm_X4_can _ Y n hY σ r s x 3 hr hr10 (by omega) (by omega)) gX4_wayOf_X4_can rfl (by decide +kernel) dX4_wayOf_84 rfl rfl rfl (vv_kR ?_)
            refine vv_ifB_eq (b := pm_can σ n r s x 3) (q := 90) (tgt := 95) hC dX4_wayOf_87 (by decide) rfl (fun c_87 => ?_) (fun c_87 => ?_)
            · refine vv_aload_n (q := 96) hC dX4_wayOf_95 (x := Y.2.1 (0)) rfl rfl ?_
              refine vv_iload_n (q := 97) hC dX4_wayOf_96 (x := nI (s)) rfl rfl ?_
              refine vv_iload_n (q := 98) hC dX4_wayOf_97 (x := x) rfl rfl ?_
              refine vv_iconst (q := 99) hC (nI 5) dX4_wayOf_98 (by decide) rfl ?_
              refine vv_iload (q := 101) hC dX4_wayOf_99 (x := nI (3)) rfl rfl ?_
              refine vv_subN (x := 5) (y := 3) (q := 102) hC dX4_wayOf_101 (by omega) rfl ?_
              refine vv_top (y := nI 2) rfl ?_
              refine vv_callV (n := 3) (k := 0) (As := [.int (nI (s)), .int (x), .int (nI (2))]) (st := []) (q := 105) hC (hY.k (by decide)) (hY.M _) (by rw [hY.cl]; rfl) (cm_X4_can _ Y n hY σ r s x 2 hr hr10 (by omega) (by omega)) gX4_wayOf_X4_can rfl (by decide +kernel) dX4_wayOf_102 rfl rfl rfl (vv_kR ?_)
              refine vv_ifB_eq (b := pm_can σ n r s x 2) (q := 108) (tgt := 115) hC dX4_wayOf_105 (by decide) rfl (fun c_105 => ?_) (fun c_105 => ?_)
              · refine vv_iconst (q := 116) hC ((-1)) dX4_wayOf_115 (by decide) rfl ?_
                refine vv_iret (v := (-1)) hC dX4_wayOf_116 ?_
                rw [hp]
                unfold pm_way
                rw [if_neg c_38, if_pos c_53, show pm_f1 n (pm_nb x (n - 1)) = 3 from if_pos c_69, if_neg c_87, if_neg c_105]
                exact ⟨rfl, rfl⟩
              · refine vv_iconst (q := 109) hC (nI 5) dX4_wayOf_108 (by decide) rfl ?_
                refine vv_iload (q := 111) hC dX4_wayOf_109 (x := nI (3)) rfl rfl ?_
                refine vv_subN (x := 5) (y := 3) (q := 112) hC dX4_wayOf_111 (by omega) rfl ?_
                refine vv_top (y := nI 2) rfl ?_
                refine vv_goto (tgt := 116) hC dX4_wayOf_112 (by decide) ?_
                refine vv_iret (v := nI (2)) hC dX4_wayOf_116 ?_
                rw [hp]
                unfold pm_way
                rw [if_neg c_38, if_pos c_53, show pm_f1 n (pm_nb x (n - 1)) = 3 from if_pos c_69, if_neg c_87, if_pos c_105]
                exact ⟨rfl, rfl⟩
            · refine vv_iload (q := 92) hC dX4_wayOf_90 (x := nI (3)) rfl rfl ?_
              refine vv_goto (tgt := 116) hC dX4_wayOf_92 (by decide) ?_
              refine vv_iret (v := nI (3)) hC dX4_wayOf_116 ?_
              rw [hp]
              unfold pm_way
              rw [if_neg c_38, if_pos c_53, show pm_f1 n (pm_nb x (n - 1)) = 3 from if_pos c_69, if_pos c_87]
              exact ⟨rfl, rfl⟩
          · refine vv_iconst (q := 73) hC (nI 2) dX4_wayOf_72 (by decide) rfl ?_
            refine vv_goto (tgt := 77) hC dX4_wayOf_73 (by decide) ?_
            refine vv_istore (L' := [(0, .ref (Y.2.1 (0))), (1, .int (nI (s))), (2, .int (x)), (3, .int (nI (pm_nb x (n - 1)))), (4, .int (nI (2)))]) (q := 79) hC dX4_wayOf_77 (by decide) rfl rfl rfl ?_
            refine vv_aload_n (q := 80) hC dX4_wayOf_79 (x := Y.2.1 (0)) rfl rfl ?_
            refine vv_iload_n (q := 81) hC dX4_wayOf_80 (x := nI (s)) rfl rfl ?_
            refine vv_iload_n (q := 82) hC dX4_wayOf_81 (x := x) rfl rfl ?_
            refine vv_iload (q := 84) hC dX4_wayOf_82 (x := nI (2)) rfl rfl ?_
            refine vv_callV (n := 3) (k := 0) (As := [.int (nI (s)), .int (x), .int (nI (2))]) (st := []) (q := 87) hC (hY.k (by decide)) (hY.M _) (by rw [hY.cl]; rfl) (cm_X4_can _ Y n hY σ r s x 2 hr hr10 (by omega) (by omega)) gX4_wayOf_X4_can rfl (by decide +kernel) dX4_wayOf_84 rfl rfl rfl (vv_kR ?_)
            refine vv_ifB_eq (b := pm_can σ n r s x 2) (q := 90) (tgt := 95) hC dX4_wayOf_87 (by decide) rfl (fun c_87 => ?_) (fun c_87 => ?_)
            · refine vv_aload_n (q := 96) hC dX4_wayOf_95 (x := Y.2.1 (0)) rfl rfl ?_
              refine vv_iload_n (q := 97) hC dX4_wayOf_96 (x := nI (s)) rfl rfl ?_
              refine vv_iload_n (q := 98) hC dX4_wayOf_97 (x := x) rfl rfl ?_
              refine vv_iconst (q := 99) hC (nI 5) dX4_wayOf_98 (by decide) rfl ?_
              refine vv_iload (q := 101) hC dX4_wayOf_99 (x := nI (2)) rfl rfl ?_
              refine vv_subN (x := 5) (y := 2) (q := 102) hC dX4_wayOf_101 (by omega) rfl ?_
              refine vv_top (y := nI 3) rfl ?_
              refine vv_callV (n := 3) (k := 0) (As := [.int (nI (s)), .int (x), .int (nI (3))]) (st := []) (q := 105) hC (hY.k (by decide)) (hY.M _) (by rw [hY.cl]; rfl) (cm_X4_can _ Y n hY σ r s x 3 hr hr10 (by omega) (by omega)) gX4_wayOf_X4_can rfl (by decide +kernel) dX4_wayOf_102 rfl rfl rfl (vv_kR ?_)
              refine vv_ifB_eq (b := pm_can σ n r s x 3) (q := 108) (tgt := 115) hC dX4_wayOf_105 (by decide) rfl (fun c_105 => ?_) (fun c_105 => ?_)
              · refine vv_iconst (q := 116) hC ((-1)) dX4_wayOf_115 (by decide) rfl ?_
                refine vv_iret (v := (-1)) hC dX4_wayOf_116 ?_
                rw [hp]
                unfold pm_way
                rw [if_neg c_38, if_pos c_53, show pm_f1 n (pm_nb x (n - 1)) = 2 from if_neg c_69, if_neg c_87, if_neg c_105]
                exact ⟨rfl, rfl⟩
              · refine vv_iconst (q := 109) hC (nI 5) dX4_wayOf_108 (by decide) rfl ?_
                refine vv_iload (q := 111) hC dX4_wayOf_109 (x := nI (2)) rfl rfl ?_
                refine vv_subN (x := 5) (y := 2) (q := 112) hC dX4_wayOf_111 (by omega) rfl ?_
                refine vv_top (y := nI 3) rfl ?_
                refine vv_goto (tgt := 116) hC dX4_wayOf_112 (by decide) ?_
                refine vv_iret (v := nI (3)) hC dX4_wayOf_116 ?_
                rw [hp]
                unfold pm_way
                rw [if_neg c_38, if_pos c_53, show pm_f1 n (pm_nb x (n - 1)) = 2 from if_neg c_69, if_neg c_87, if_pos c_105]
                exact ⟨rfl, rfl⟩
            · refine vv_iload (q := 92) hC dX4_wayOf_90 (x := nI (2)) rfl rfl ?_
              refine vv_goto (tgt := 116) hC dX4_wayOf_92 (by decide) ?_
              refine vv_iret (v := nI (2)) hC dX4_wayOf_116 ?_
              rw [hp]
              unfold pm_way
              rw [if_neg c_38, if_pos c_53, show pm_f1 n (pm_nb x (n - 1)) = 2 from if_neg c_69, if_pos c_87]
              exact ⟨rfl, rfl⟩
        · refine vv_iconst (q := 57) hC (nI 1) dX4_wayOf_56 (by decide) rfl ?_
          refine vv_iret (v := nI (1)) hC dX4_wayOf_57 ?_
          rw [hp]
          unfold pm_way
          rw [if_neg c_38, if_neg c_53]
          exact ⟨rfl, rfl⟩
      · refine vv_iconst (q := 42) hC (nI 0) dX4_wayOf_41 (by decide) rfl ?_
        refine vv_iret (v := nI (0)) hC dX4_wayOf_42 ?_
        rw [hp]
        unfold pm_way
        rw [if_pos c_38]
        exact ⟨rfl, rfl⟩
    · refine vv_iload_n (q := 17) hC dX4_wayOf_16 (x := nI (pm_nb x d)) rfl rfl ?_
      refine vv_iload_n (q := 18) hC dX4_wayOf_17 (x := x) rfl rfl ?_
      refine vv_iload (q := 20) hC dX4_wayOf_18 (x := nI (d)) rfl rfl ?_
      refine vv_ishr (x := x) (y := nI (d)) (q := 21) hC dX4_wayOf_20 rfl ?_
      refine vv_iconst (q := 22) hC (nI 1) dX4_wayOf_21 (by decide) rfl ?_
      refine vv_iand (x := x >>> ((nI (d)) &&& 31)) (y := nI (1)) (q := 23) hC dX4_wayOf_22 rfl ?_
      have hnb := pm_nb_le (x := x) (d := d)
      refine vv_top (y := nI (if pc_bit x d then 1 else 0)) (pm_bit01 _ _) ?_
      refine vv_addN (x := pm_nb x d) (y := if pc_bit x d then 1 else 0) (q := 24) hC dX4_wayOf_23 rfl ?_
      refine vv_istore_n (L' := [(0, .ref (Y.2.1 (0))), (1, .int (nI (s))), (2, .int (x)), (3, .int (nI ((pm_nb x d) + (if pc_bit x d then 1 else 0)))), (4, .int (nI (d)))]) (q := 25) hC dX4_wayOf_24 (by decide) rfl rfl rfl ?_
      refine vv_iincN (x := d) (L' := [(0, .ref (Y.2.1 (0))), (1, .int (nI (s))), (2, .int (x)), (3, .int (nI ((pm_nb x d) + (if pc_bit x d then 1 else 0)))), (4, .int (nI (d + 1)))]) (q := 28) hC dX4_wayOf_25 rfl (by decide) rfl rfl rfl ?_
      refine vv_goto (tgt := 5) hC dX4_wayOf_28 (by decide) ?_
      exact ih_5 (d + 1) (by first | omega | (dsimp only; omega))  (by omega)
  exact lp_5 0 (by omega)
