set_option maxRecDepth 100000 in
set_option maxHeartbeats 4000000 in
theorem cm_X3_writeStripe (l : Launch) (Y : vv_Y) (n : Nat) (hY : pc_sys Y n) (σ : vv_S) (o : Nat) (r : Nat) (s : Nat) (f : Nat) (t : Nat) (v : Int32) (ho : σ 2 1 = nI o) (ho11 : o < 11) (hr : σ 2 2 = nI r) (hr10 : r ≤ 10) (hJ0 : pc_J σ) (hs : s < 24) (hft : f ≤ t) (ht : t < 200) : vv_M l Y yX3_writeStripe wsX3_writeStripe { frames := 5, cells := 0, slots := 0, locals := 118 } [.ref (Y.2.1 (0)), .int (nI (s)), .int (nI (f)), .int (nI (t)), .int (v)] σ (vv_R (.int ((pc_wst σ n o r s f t v).1)) ((pc_wst σ n o r s f t v).2)) := by
  refine vv_M.of (cc := cX3_writeStripe) (maxL := 7) (ret := (some .int)) hY.ok (by decide) rfl (Nat.le_of_ble_eq_true rfl) ?_
  intro Z hl hp hC
  subst hl
  have hi_X1 : ∀ w ∈ u_ws RX1 TX1 4, w ∈ wsX3_writeStripe := by decide +kernel
  have hi_X3 : ∀ w ∈ u_ws RX3 TX3 10, w ∈ wsX3_writeStripe := by decide +kernel
  have hf_log : Cond.fieldLink RX3 54 "ParityRow" (TX3 3).2.1 (TX3 3).2.2.1 ∈ wsX3_writeStripe := by decide +kernel
  have hf_tally : Cond.fieldLink RX3 9 "ParityRow" (TX3 4).2.1 (TX3 4).2.2.1 ∈ wsX3_writeStripe := by decide +kernel
  have hf_data : Cond.fieldLink RX3 39 "ParityRow" (TX3 1).2.1 (TX3 1).2.2.1 ∈ wsX3_writeStripe := by decide +kernel
  have hlo := hY.lo
  have hhi := hY.hi
  have er : pc_r σ = r := pc_r_eq hr hr10
  obtain ⟨w, hw⟩ : ∃ w, w = pc_wsw σ n o r s f t v := ⟨_, rfl⟩
  obtain ⟨τ1, hτ1⟩ : ∃ τ, τ = pc_ws1 σ n o r s f t v := ⟨_, rfl⟩
  obtain ⟨τ2, hτ2⟩ : ∃ τ, τ = pc_ws2 σ n o r s f t v := ⟨_, rfl⟩
  obtain ⟨τ3, hτ3⟩ : ∃ τ, τ = pc_ws3 σ n o r s f t v := ⟨_, rfl⟩
  obtain ⟨τ4, hτ4⟩ : ∃ τ, τ = (pc_wsd τ3 n o r).2 := ⟨_, rfl⟩
  obtain ⟨τ5, hτ5⟩ : ∃ τ, τ = (pc_wsc τ4 n (pc_re o r)).2 := ⟨_, rfl⟩
  have h12 : τ1 2 = σ 2 := by rw [hτ1]; exact pc_ws1_o (by unfold pc_e; omega) (by unfold pc_e; omega)
  have h22 : τ2 2 = σ 2 := by rw [hτ2]; exact pc_ws2_o (by unfold pc_e; omega) (by unfold pc_e; omega)
  have hJ3 := pc_ws3_J (n := n) (o := o) (r := r) (s := s) (f := f) (t := t) (v := v) hJ0 hs
  rw [← hτ3] at hJ3
  have h33 : τ3 (pc_e (pc_re o r)) 3 = w := by rw [hτ3, hw]; exact pc_ws3_e.2
  have er3 : pc_r τ3 = r := pc_r_eq (by rw [hJ3.2]; exact hr) hr10
  have hq3 : pc_wsq τ3 o r ≤ pc_r τ3 := by rw [er3]; exact pc_tf_le r 0 (Nat.zero_le r)
  have hD := pc_dr_all (n := n) (pc_wsq τ3 o r) τ3 hJ3.1 hq3
  have hJ4 : pc_J τ4 := by rw [hτ4]; exact hD.1
  have hJ5 : pc_J τ5 := by rw [hτ5]; exact hJ4.pcs
  have hre : pc_re o r < 11 := Nat.mod_lt _ (by decide)
  have h45 : τ4 (pc_e (pc_re o r)) = τ3 (pc_e (pc_re o r)) := by rw [hτ4]; exact hD.2 _ (pc_e_lt hre) (pc_e_ne (by decide)) (pc_e_ne (by decide)) (pc_e_ne (by decide))
  have h53 : pc_tl (pc_am0 τ5) 4 (pc_e (pc_re o r)) 3 = w := by
    rw [pc_tl_o (pc_e_ne (by decide))]; unfold pc_am0; rw [vv_up_n (pc_e_ne (by decide)), vv_up_n (pc_e_ne (by decide)), hτ5]; unfold pc_wsc
    rw [pc_pcs_o (pc_e_lt hre) (pc_e_ne (by decide)) (pc_e_ne (by decide)), h45]; exact h33
  have hwn : w = -1 ∨ (w = nI w.toNatClampNeg ∧ w.toNatClampNeg ≤ 3) := by
    rw [hw]; rcases pc_way_or (σ := pc_ws1 σ n o r s f t v) (n := n) (o := o) (r := r) (s := s) (x := pc_ws1 σ n o r s f t v (pc_e (pc_re o r)) 2) with h | ⟨k, h1, h2⟩
    · exact Or.inl h
    · right; unfold pc_wsw; rw [h2, nI_clamp (by omega)]; exact ⟨rfl, h1⟩
  refine vv_loc (L' := [(0, .ref (Y.2.1 (0))), (1, .int (nI (s))), (2, .int (nI (f))), (3, .int (nI (t))), (4, .int (v))]) rfl ?_
  refine vv_aload_n (q := 1) hC dX3_writeStripe_0 (x := Y.2.1 (0)) rfl rfl ?_
  refine pc_gP (q := 4) hY hC 3 hi_X3 hf_log (by decide) rfl (v := .ref (Y.2.1 (2))) rfl dX3_writeStripe_1 rfl ?_
  refine vv_callVN (n := 0) (k := 2) (As := []) (st := []) (q := 7) hC (hY.k (by decide)) (hY.J _) (by rw [hY.cl]; rfl) (cm_X2_made _ Y n hY σ o r ho ho11 hr hr10) gX3_writeStripe_X2_made_n248 rfl (hY.nw nw_X3_248) (by decide +kernel) (by decide +kernel) (by decide +kernel) (by decide +kernel) dX3_writeStripe_4 rfl rfl rfl (vv_kR ?_)
  refine vv_astore (L' := [(0, .ref (Y.2.1 (0))), (1, .int (nI (s))), (2, .int (nI (f))), (3, .int (nI (t))), (4, .int (v)), (5, .ref (Y.2.1 (pc_e (pc_re o r))))]) (q := 9) hC dX3_writeStripe_7 (by decide) rfl rfl rfl ?_
  refine vv_aload (q := 11) hC dX3_writeStripe_9 (x := Y.2.1 (pc_e (pc_re o r))) rfl rfl ?_
  refine vv_iload_n (q := 12) hC dX3_writeStripe_11 (x := nI (s)) rfl rfl ?_
  refine vv_callVN (n := 1) (k := pc_e (pc_re o r)) (As := [.int (nI (s))]) (st := []) (q := 15) hC (hY.ke (j := 0) (Nat.mod_lt _ (by decide)) (by decide)) (hY.E (Nat.mod_lt _ (by decide)) _) (by rw [hY.cl]; rfl) (cm_X1_begin _ Y n hY σ (pc_re o r) s (Nat.mod_lt _ (by decide))) gX3_writeStripe_X1_begin_n252 rfl (hY.nw nw_X3_252) (by decide +kernel) (by decide +kernel) (by decide +kernel) (by decide +kernel) dX3_writeStripe_12 rfl rfl rfl (vv_kRv ?_)
  refine vv_iload_n (q := 16) hC dX3_writeStripe_15 (x := nI (f)) rfl rfl ?_
  refine vv_istore (L' := [(0, .ref (Y.2.1 (0))), (1, .int (nI (s))), (2, .int (nI (f))), (3, .int (nI (t))), (4, .int (v)), (5, .ref (Y.2.1 (pc_e (pc_re o r)))), (6, .int (nI (f)))]) (q := 18) hC dX3_writeStripe_16 (by decide) rfl rfl rfl ?_
  have lp_18 : ∀ b : Nat, ∀ τ : vv_S, (f ≤ b) → (b ≤ t + 1) → (pc_ws1 σ n o r s f t v = pc_wl n (pc_re o r) f v (t + 1 - b) b τ) → vv_V Y 7 Z τ 18 [(0, .ref (Y.2.1 (0))), (1, .int (nI (s))), (2, .int (nI (f))), (3, .int (nI (t))), (4, .int (v)), (5, .ref (Y.2.1 (pc_e (pc_re o r)))), (6, .int (nI (b)))] [] := by
    refine vv_ind (fun b => t + 1 - b) (fun b ih_18 => ?_)
    intro τ hfb hbt hv
    refine vv_iload (q := 20) hC dX3_writeStripe_18 (x := nI (b)) rfl rfl ?_
    refine vv_iload_n (q := 21) hC dX3_writeStripe_20 (x := nI (t)) rfl rfl ?_
    refine vv_icmpN_gt (x := b) (y := t) (q := 24) (tgt := 52) hC dX3_writeStripe_21 (by decide) (by omega) (by omega) rfl (fun c_21 => ?_) (fun c_21 => ?_)
    · refine vv_st (σ' := τ1) (by rw [hτ1, hv, show t + 1 - b = 0 by omega]; rfl) ?_
      refine vv_aload (q := 54) hC dX3_writeStripe_52 (x := Y.2.1 (pc_e (pc_re o r))) rfl rfl ?_
      refine vv_aload_n (q := 55) hC dX3_writeStripe_54 (x := Y.2.1 (0)) rfl rfl ?_
      refine vv_iload_n (q := 56) hC dX3_writeStripe_55 (x := nI (s)) rfl rfl ?_
      refine vv_aload (q := 58) hC dX3_writeStripe_56 (x := Y.2.1 (pc_e (pc_re o r))) rfl rfl ?_
      refine pc_gEN (q := 61) hY hC (Nat.mod_lt _ (by decide)) 2 hi_X1 nw_X3_191 (by decide) rfl (v := .int (τ1 (pc_e (pc_re o r)) 2)) rfl dX3_writeStripe_58 rfl ?_
      refine vv_callV (n := 2) (k := 0) (As := [.int (nI (s)), .int (τ1 (pc_e (pc_re o r)) 2)]) (st := [.ref (Y.2.1 (pc_e (pc_re o r)))]) (q := 64) hC (hY.k (by decide)) (hY.P _) (by rw [hY.cl]; rfl) (cm_X3_chooseWay _ Y n hY τ1 o r s (τ1 (pc_e (pc_re o r)) 2) (by rw [h12]; exact ho) ho11 (by rw [h12]; exact hr) hr10 (by omega)) gX3_writeStripe_X3_chooseWay rfl (by decide +kernel) dX3_writeStripe_61 rfl rfl rfl (vv_kR ?_)
      refine vv_top (y := w) (by rw [hw, hτ1]; rfl) ?_
      refine pc_pEN (q := 67) hY hC (Nat.mod_lt _ (by decide)) 3 hi_X1 nw_X3_200 (by decide) rfl rfl (x := w) (ty := .int) (by decide +kernel) rfl rfl (fun _ => rfl) dX3_writeStripe_64 rfl ?_
      refine vv_st (σ' := τ2) (by rw [hτ2, hτ1, hw]; rfl) ?_
      refine vv_aload (q := 69) hC dX3_writeStripe_67 (x := Y.2.1 (pc_e (pc_re o r))) rfl rfl ?_
      refine pc_gEN (q := 72) hY hC (Nat.mod_lt _ (by decide)) 3 hi_X1 nw_X3_200 (by decide) rfl (v := .int (τ2 (pc_e (pc_re o r)) 3)) rfl dX3_writeStripe_69 rfl ?_
      refine vv_top (y := w) (by rw [hτ2, hw]; exact pc_ws2_e.2) ?_
      refine vv_iconst (q := 73) hC ((-1)) dX3_writeStripe_72 (by decide) rfl ?_
      refine vv_icmp_ne (x := w) (y := (-1)) (q := 76) (tgt := 79) hC dX3_writeStripe_73 (by decide) rfl (fun c_73 => ?_) (fun c_73 => ?_)
      · refine vv_aload (q := 81) hC dX3_writeStripe_79 (x := Y.2.1 (pc_e (pc_re o r))) rfl rfl ?_
        refine pc_gEN (q := 84) hY hC (Nat.mod_lt _ (by decide)) 3 hi_X1 nw_X3_200 (by decide) rfl (v := .int (τ2 (pc_e (pc_re o r)) 3)) rfl dX3_writeStripe_81 rfl ?_
        refine vv_top (y := w) (by rw [hτ2, hw]; exact pc_ws2_e.2) ?_
        refine vv_iconst (q := 85) hC (nI 1) dX3_writeStripe_84 (by decide) rfl ?_
        refine vv_icmp_eq (x := w) (y := nI (1)) (q := 88) (tgt := 94) hC dX3_writeStripe_85 (by decide) rfl (fun c_85 => ?_) (fun c_85 => ?_)
        · refine vv_st (σ' := τ3) (by rw [hτ3, hτ2]; unfold pc_ws3; rw [if_pos (hw ▸ c_85)]) ?_
          refine vv_aload_n (q := 95) hC dX3_writeStripe_94 (x := Y.2.1 (0)) rfl rfl ?_
          refine vv_aload_n (q := 96) hC dX3_writeStripe_95 (x := Y.2.1 (0)) rfl rfl ?_
          refine pc_gP (q := 99) hY hC 3 hi_X3 hf_log (by decide) rfl (v := .ref (Y.2.1 (2))) rfl dX3_writeStripe_96 rfl ?_
          refine vv_aload (q := 101) hC dX3_writeStripe_99 (x := Y.2.1 (pc_e (pc_re o r))) rfl rfl ?_
          refine vv_callVN (n := 0) (k := pc_e (pc_re o r)) (As := []) (st := [.ref (Y.2.1 (2)), .ref (Y.2.1 (0))]) (q := 104) hC (hY.ke (j := 0) (Nat.mod_lt _ (by decide)) (by decide)) (hY.E (Nat.mod_lt _ (by decide)) _) (by rw [hY.cl]; rfl) (cm_X1_cells _ Y n hY τ3 (pc_re o r) (Nat.mod_lt _ (by decide))) gX3_writeStripe_X1_cells_n265 rfl (hY.nw nw_X3_265) (by decide +kernel) (by decide +kernel) (by decide +kernel) (by decide +kernel) dX3_writeStripe_101 rfl rfl rfl (vv_kR ?_)
          refine vv_callVN (n := 1) (k := 2) (As := [.int (pc_cells (τ3 (pc_e (pc_re o r)) 2))]) (st := [.ref (Y.2.1 (0))]) (q := 107) hC (hY.k (by decide)) (hY.J _) (by rw [hY.cl]; rfl) (cm_X2_recordsToFree _ Y n hY τ3 o r (pc_cells (τ3 (pc_e (pc_re o r)) 2)) (by rw [hJ3.2]; exact ho) ho11 (by rw [hJ3.2]; exact hr) hr10) gX3_writeStripe_X2_recordsToFree_n268 rfl (hY.nw nw_X3_268) (by decide +kernel) (by decide +kernel) (by decide +kernel) (by decide +kernel) dX3_writeStripe_104 rfl rfl rfl (vv_kR ?_)
          refine vv_callV (n := 1) (k := 0) (As := [.int (nI (pc_tf τ3 o r (pc_cells (τ3 (pc_e (pc_re o r)) 2)) r 0))]) (st := []) (q := 110) hC (hY.k (by decide)) (hY.P _) (by rw [hY.cl]; rfl) (cm_X3_drainOldest _ Y n hY τ3 (pc_tf τ3 o r (pc_cells (τ3 (pc_e (pc_re o r)) 2)) r 0) hJ3.1 hq3) gX3_writeStripe_X3_drainOldest rfl (by decide +kernel) dX3_writeStripe_107 rfl rfl rfl (vv_kR ?_)
          refine vv_ifB_eq (b := (pc_dr n (pc_tf τ3 o r (pc_cells (τ3 (pc_e (pc_re o r)) 2)) r 0) τ3).1 = true) (q := 113) (tgt := 125) hC dX3_writeStripe_110 (by decide) rfl (fun c_110 => ?_) (fun c_110 => ?_)
          · refine vv_bipush (q := 127) hC ((-106)) dX3_writeStripe_125 (by decide) rfl ?_
            refine vv_iret (v := (-106)) hC dX3_writeStripe_127 ?_
            rw [hp]
            unfold pc_wst
            rw [← hw, ← hτ2, ← hτ3, ← hτ4, ← hτ5]
            rw [if_neg c_73, if_neg (show ¬ (pc_wsd τ3 n o r).1 = true from c_110)]
            exact ⟨rfl, hτ4.symm⟩
          · refine vv_st (σ' := τ4) (hτ4.symm) ?_
            refine vv_aload_n (q := 114) hC dX3_writeStripe_113 (x := Y.2.1 (0)) rfl rfl ?_
            refine vv_aload (q := 116) hC dX3_writeStripe_114 (x := Y.2.1 (pc_e (pc_re o r))) rfl rfl ?_
            refine vv_callVN (n := 0) (k := pc_e (pc_re o r)) (As := []) (st := [.ref (Y.2.1 (0))]) (q := 119) hC (hY.ke (j := 0) (Nat.mod_lt _ (by decide)) (by decide)) (hY.E (Nat.mod_lt _ (by decide)) _) (by rw [hY.cl]; rfl) (cm_X1_cells _ Y n hY τ4 (pc_re o r) (Nat.mod_lt _ (by decide))) gX3_writeStripe_X1_cells_n265 rfl (hY.nw nw_X3_265) (by decide +kernel) (by decide +kernel) (by decide +kernel) (by decide +kernel) dX3_writeStripe_116 rfl rfl rfl (vv_kR ?_)
            refine vv_top (y := nI (pc_cn (τ4 (pc_e (pc_re o r)) 2))) (pc_cn_is _) ?_
            refine vv_callV (n := 1) (k := 0) (As := [.int (nI (pc_cn (τ4 (pc_e (pc_re o r)) 2)))]) (st := []) (q := 122) hC (hY.k (by decide)) (hY.P _) (by rw [hY.cl]; rfl) (cm_X3_putCells _ Y n hY τ4 (pc_cn (τ4 (pc_e (pc_re o r)) 2)) (Nat.lt_of_le_of_lt (pc_cn_le _) (by decide))) gX3_writeStripe_X3_putCells rfl (by decide +kernel) dX3_writeStripe_119 rfl rfl rfl (vv_kR ?_)
            refine vv_ifB_ne (b := (pc_pcs n (pc_cn (τ4 (pc_e (pc_re o r)) 2)) τ4).1 = true) (q := 125) (tgt := 128) hC dX3_writeStripe_122 (by decide) rfl (fun c_122 => ?_) (fun c_122 => ?_)
            · refine vv_st (σ' := τ5) (hτ5.symm) ?_
              refine vv_aload_n (q := 129) hC dX3_writeStripe_128 (x := Y.2.1 (0)) rfl rfl ?_
              refine pc_gP (q := 132) hY hC 3 hi_X3 hf_log (by decide) rfl (v := .ref (Y.2.1 (2))) rfl dX3_writeStripe_129 rfl ?_
              refine vv_callVN (n := 0) (k := 2) (As := []) (st := []) (q := 135) hC (hY.k (by decide)) (hY.J _) (by rw [hY.cl]; rfl) (cm_X2_addMade _ Y n hY τ5 (pc_o τ5) (pc_r τ5) hJ5.1 hJ5.2.1 hJ5.2.2.1 hJ5.2.2.2.1) gX3_writeStripe_X2_addMade_n274 rfl (hY.nw nw_X3_274) (by decide +kernel) (by decide +kernel) (by decide +kernel) (by decide +kernel) dX3_writeStripe_132 rfl rfl rfl (vv_kRv ?_)
              refine vv_st (σ' := pc_am0 τ5) (rfl) ?_
              refine vv_aload_n (q := 136) hC dX3_writeStripe_135 (x := Y.2.1 (0)) rfl rfl ?_
              refine pc_gP (q := 139) hY hC 4 hi_X3 hf_tally (by decide) rfl (v := .ref (Y.2.1 (4))) rfl dX3_writeStripe_136 rfl ?_
              refine vv_iconst (q := 140) hC (nI 4) dX3_writeStripe_139 (by decide) rfl ?_
              refine vv_dup2 (q := 141) hC dX3_writeStripe_140 rfl rfl rfl ?_
              refine pc_ld_tally (q := 142) hY hC (i := 4) (by omega) dX3_writeStripe_141 rfl ?_
              refine vv_iconst (q := 143) hC (nI 1) dX3_writeStripe_142 (by decide) rfl ?_
              refine vv_iadd (x := (pc_am0 τ5) 4 4) (y := nI (1)) (q := 144) hC dX3_writeStripe_143 rfl ?_
              refine pc_st_tally (q := 145) hY hC (i := 4) (x := ((pc_am0 τ5) 4 4) + (nI (1))) (by omega) dX3_writeStripe_144 rfl ?_
              refine vv_st (σ' := pc_tl (pc_am0 τ5) 4) (rfl) ?_
              refine vv_aload_n (q := 146) hC dX3_writeStripe_145 (x := Y.2.1 (0)) rfl rfl ?_
              refine pc_gP (q := 149) hY hC 4 hi_X3 hf_tally (by decide) rfl (v := .ref (Y.2.1 (4))) rfl dX3_writeStripe_146 rfl ?_
              refine vv_bipush (q := 151) hC (nI 9) dX3_writeStripe_149 (by decide) rfl ?_
              refine vv_aload (q := 153) hC dX3_writeStripe_151 (x := Y.2.1 (pc_e (pc_re o r))) rfl rfl ?_
              refine pc_gEN (q := 156) hY hC (Nat.mod_lt _ (by decide)) 3 hi_X1 nw_X3_200 (by decide) rfl (v := .int ((pc_tl (pc_am0 τ5) 4) (pc_e (pc_re o r)) 3)) rfl dX3_writeStripe_153 rfl ?_
              refine vv_top (y := nI (w.toNatClampNeg)) (by rw [h53]; exact (hwn.resolve_left c_73).1) ?_
              refine vv_addN (x := 9) (y := w.toNatClampNeg) (q := 157) hC dX3_writeStripe_156 rfl ?_
              refine vv_dup2 (q := 158) hC dX3_writeStripe_157 rfl rfl rfl ?_
              refine pc_ld_tally (q := 159) hY hC (i := 9 + w.toNatClampNeg) (by have := (hwn.resolve_left c_73).2; omega) dX3_writeStripe_158 rfl ?_
              refine vv_iconst (q := 160) hC (nI 1) dX3_writeStripe_159 (by decide) rfl ?_
              refine vv_iadd (x := (pc_tl (pc_am0 τ5) 4) 4 (9 + w.toNatClampNeg)) (y := nI (1)) (q := 161) hC dX3_writeStripe_160 rfl ?_
              refine pc_st_tally (q := 162) hY hC (i := 9 + w.toNatClampNeg) (x := ((pc_tl (pc_am0 τ5) 4) 4 (9 + w.toNatClampNeg)) + (nI (1))) (by have := (hwn.resolve_left c_73).2; omega) dX3_writeStripe_161 rfl ?_
              refine vv_iconst (q := 163) hC (nI 0) dX3_writeStripe_162 (by decide) rfl ?_
              refine vv_iret (v := nI (0)) hC dX3_writeStripe_163 ?_
              rw [hp]
              unfold pc_wst
              rw [← hw, ← hτ2, ← hτ3, ← hτ4, ← hτ5]
              rw [if_neg c_73, if_pos (show (pc_wsd τ3 n o r).1 = true from c_110), if_pos (show (pc_wsc τ4 n (pc_re o r)).1 = true from c_122)]
              exact ⟨rfl, rfl⟩
            · refine vv_bipush (q := 127) hC ((-106)) dX3_writeStripe_125 (by decide) rfl ?_
              refine vv_iret (v := (-106)) hC dX3_writeStripe_127 ?_
              rw [hp]
              unfold pc_wst
              rw [← hw, ← hτ2, ← hτ3, ← hτ4, ← hτ5]
              rw [if_neg c_73, if_pos (show (pc_wsd τ3 n o r).1 = true from c_110), if_neg (show ¬ (pc_wsc τ4 n (pc_re o r)).1 = true from c_122)]
              exact ⟨rfl, hτ5.symm⟩
        · refine vv_aload_n (q := 89) hC dX3_writeStripe_88 (x := Y.2.1 (0)) rfl rfl ?_
          refine vv_aload (q := 91) hC dX3_writeStripe_89 (x := Y.2.1 (pc_e (pc_re o r))) rfl rfl ?_
          refine vv_callV (n := 1) (k := 0) (As := [.ref (Y.2.1 (pc_e (pc_re o r)))]) (st := []) (q := 94) hC (hY.k (by decide)) (hY.P _) (by rw [hY.cl]; rfl) (cm_X3_addParity _ Y n hY τ2 (pc_re o r) o r s (Nat.mod_lt _ (by decide)) (by rw [h22]; exact ho) ho11 (by rw [h22]; exact hr) hr10 (by rw [hτ2]; exact pc_ws2_e.1) (by omega)) gX3_writeStripe_X3_addParity rfl (by decide +kernel) dX3_writeStripe_91 rfl rfl rfl (vv_kRv ?_)
          refine vv_st (σ' := τ3) (by rw [hτ3, hτ2]; unfold pc_ws3; rw [if_neg (hw ▸ c_85)]) ?_
          refine vv_aload_n (q := 95) hC dX3_writeStripe_94 (x := Y.2.1 (0)) rfl rfl ?_
          refine vv_aload_n (q := 96) hC dX3_writeStripe_95 (x := Y.2.1 (0)) rfl rfl ?_
          refine pc_gP (q := 99) hY hC 3 hi_X3 hf_log (by decide) rfl (v := .ref (Y.2.1 (2))) rfl dX3_writeStripe_96 rfl ?_
          refine vv_aload (q := 101) hC dX3_writeStripe_99 (x := Y.2.1 (pc_e (pc_re o r))) rfl rfl ?_
          refine vv_callVN (n := 0) (k := pc_e (pc_re o r)) (As := []) (st := [.ref (Y.2.1 (2)), .ref (Y.2.1 (0))]) (q := 104) hC (hY.ke (j := 0) (Nat.mod_lt _ (by decide)) (by decide)) (hY.E (Nat.mod_lt _ (by decide)) _) (by rw [hY.cl]; rfl) (cm_X1_cells _ Y n hY τ3 (pc_re o r) (Nat.mod_lt _ (by decide))) gX3_writeStripe_X1_cells_n265 rfl (hY.nw nw_X3_265) (by decide +kernel) (by decide +kernel) (by decide +kernel) (by decide +kernel) dX3_writeStripe_101 rfl rfl rfl (vv_kR ?_)
          refine vv_callVN (n := 1) (k := 2) (As := [.int (pc_cells (τ3 (pc_e (pc_re o r)) 2))]) (st := [.ref (Y.2.1 (0))]) (q := 107) hC (hY.k (by decide)) (hY.J _) (by rw [hY.cl]; rfl) (cm_X2_recordsToFree _ Y n hY τ3 o r (pc_cells (τ3 (pc_e (pc_re o r)) 2)) (by rw [hJ3.2]; exact ho) ho11 (by rw [hJ3.2]; exact hr) hr10) gX3_writeStripe_X2_recordsToFree_n268 rfl (hY.nw nw_X3_268) (by decide +kernel) (by decide +kernel) (by decide +kernel) (by decide +kernel) dX3_writeStripe_104 rfl rfl rfl (vv_kR ?_)
          refine vv_callV (n := 1) (k := 0) (As := [.int (nI (pc_tf τ3 o r (pc_cells (τ3 (pc_e (pc_re o r)) 2)) r 0))]) (st := []) (q := 110) hC (hY.k (by decide)) (hY.P _) (by rw [hY.cl]; rfl) (cm_X3_drainOldest _ Y n hY τ3 (pc_tf τ3 o r (pc_cells (τ3 (pc_e (pc_re o r)) 2)) r 0) hJ3.1 hq3) gX3_writeStripe_X3_drainOldest rfl (by decide +kernel) dX3_writeStripe_107 rfl rfl rfl (vv_kR ?_)
          refine vv_ifB_eq (b := (pc_dr n (pc_tf τ3 o r (pc_cells (τ3 (pc_e (pc_re o r)) 2)) r 0) τ3).1 = true) (q := 113) (tgt := 125) hC dX3_writeStripe_110 (by decide) rfl (fun c_110 => ?_) (fun c_110 => ?_)
          · refine vv_bipush (q := 127) hC ((-106)) dX3_writeStripe_125 (by decide) rfl ?_
            refine vv_iret (v := (-106)) hC dX3_writeStripe_127 ?_
            rw [hp]
            unfold pc_wst
            rw [← hw, ← hτ2, ← hτ3, ← hτ4, ← hτ5]
            rw [if_neg c_73, if_neg (show ¬ (pc_wsd τ3 n o r).1 = true from c_110)]
            exact ⟨rfl, hτ4.symm⟩
          · refine vv_st (σ' := τ4) (hτ4.symm) ?_
            refine vv_aload_n (q := 114) hC dX3_writeStripe_113 (x := Y.2.1 (0)) rfl rfl ?_
            refine vv_aload (q := 116) hC dX3_writeStripe_114 (x := Y.2.1 (pc_e (pc_re o r))) rfl rfl ?_
            refine vv_callVN (n := 0) (k := pc_e (pc_re o r)) (As := []) (st := [.ref (Y.2.1 (0))]) (q := 119) hC (hY.ke (j := 0) (Nat.mod_lt _ (by decide)) (by decide)) (hY.E (Nat.mod_lt _ (by decide)) _) (by rw [hY.cl]; rfl) (cm_X1_cells _ Y n hY τ4 (pc_re o r) (Nat.mod_lt _ (by decide))) gX3_writeStripe_X1_cells_n265 rfl (hY.nw nw_X3_265) (by decide +kernel) (by decide +kernel) (by decide +kernel) (by decide +kernel) dX3_writeStripe_116 rfl rfl rfl (vv_kR ?_)
            refine vv_top (y := nI (pc_cn (τ4 (pc_e (pc_re o r)) 2))) (pc_cn_is _) ?_
            refine vv_callV (n := 1) (k := 0) (As := [.int (nI (pc_cn (τ4 (pc_e (pc_re o r)) 2)))]) (st := []) (q := 122) hC (hY.k (by decide)) (hY.P _) (by rw [hY.cl]; rfl) (cm_X3_putCells _ Y n hY τ4 (pc_cn (τ4 (pc_e (pc_re o r)) 2)) (Nat.lt_of_le_of_lt (pc_cn_le _) (by decide))) gX3_writeStripe_X3_putCells rfl (by decide +kernel) dX3_writeStripe_119 rfl rfl rfl (vv_kR ?_)
            refine vv_ifB_ne (b := (pc_pcs n (pc_cn (τ4 (pc_e (pc_re o r)) 2)) τ4).1 = true) (q := 125) (tgt := 128) hC dX3_writeStripe_122 (by decide) rfl (fun c_122 => ?_) (fun c_122 => ?_)
            · refine vv_st (σ' := τ5) (hτ5.symm) ?_
              refine vv_aload_n (q := 129) hC dX3_writeStripe_128 (x := Y.2.1 (0)) rfl rfl ?_
              refine pc_gP (q := 132) hY hC 3 hi_X3 hf_log (by decide) rfl (v := .ref (Y.2.1 (2))) rfl dX3_writeStripe_129 rfl ?_
              refine vv_callVN (n := 0) (k := 2) (As := []) (st := []) (q := 135) hC (hY.k (by decide)) (hY.J _) (by rw [hY.cl]; rfl) (cm_X2_addMade _ Y n hY τ5 (pc_o τ5) (pc_r τ5) hJ5.1 hJ5.2.1 hJ5.2.2.1 hJ5.2.2.2.1) gX3_writeStripe_X2_addMade_n274 rfl (hY.nw nw_X3_274) (by decide +kernel) (by decide +kernel) (by decide +kernel) (by decide +kernel) dX3_writeStripe_132 rfl rfl rfl (vv_kRv ?_)
              refine vv_st (σ' := pc_am0 τ5) (rfl) ?_
              refine vv_aload_n (q := 136) hC dX3_writeStripe_135 (x := Y.2.1 (0)) rfl rfl ?_
              refine pc_gP (q := 139) hY hC 4 hi_X3 hf_tally (by decide) rfl (v := .ref (Y.2.1 (4))) rfl dX3_writeStripe_136 rfl ?_
              refine vv_iconst (q := 140) hC (nI 4) dX3_writeStripe_139 (by decide) rfl ?_
              refine vv_dup2 (q := 141) hC dX3_writeStripe_140 rfl rfl rfl ?_
              refine pc_ld_tally (q := 142) hY hC (i := 4) (by omega) dX3_writeStripe_141 rfl ?_
              refine vv_iconst (q := 143) hC (nI 1) dX3_writeStripe_142 (by decide) rfl ?_
              refine vv_iadd (x := (pc_am0 τ5) 4 4) (y := nI (1)) (q := 144) hC dX3_writeStripe_143 rfl ?_
              refine pc_st_tally (q := 145) hY hC (i := 4) (x := ((pc_am0 τ5) 4 4) + (nI (1))) (by omega) dX3_writeStripe_144 rfl ?_
              refine vv_st (σ' := pc_tl (pc_am0 τ5) 4) (rfl) ?_
              refine vv_aload_n (q := 146) hC dX3_writeStripe_145 (x := Y.2.1 (0)) rfl rfl ?_
              refine pc_gP (q := 149) hY hC 4 hi_X3 hf_tally (by decide) rfl (v := .ref (Y.2.1 (4))) rfl dX3_writeStripe_146 rfl ?_
              refine vv_bipush (q := 151) hC (nI 9) dX3_writeStripe_149 (by decide) rfl ?_
              refine vv_aload (q := 153) hC dX3_writeStripe_151 (x := Y.2.1 (pc_e (pc_re o r))) rfl rfl ?_
              refine pc_gEN (q := 156) hY hC (Nat.mod_lt _ (by decide)) 3 hi_X1 nw_X3_200 (by decide) rfl (v := .int ((pc_tl (pc_am0 τ5) 4) (pc_e (pc_re o r)) 3)) rfl dX3_writeStripe_153 rfl ?_
              refine vv_top (y := nI (w.toNatClampNeg)) (by rw [h53]; exact (hwn.resolve_left c_73).1) ?_
              refine vv_addN (x := 9) (y := w.toNatClampNeg) (q := 157) hC dX3_writeStripe_156 rfl ?_
              refine vv_dup2 (q := 158) hC dX3_writeStripe_157 rfl rfl rfl ?_
              refine pc_ld_tally (q := 159) hY hC (i := 9 + w.toNatClampNeg) (by have := (hwn.resolve_left c_73).2; omega) dX3_writeStripe_158 rfl ?_
              refine vv_iconst (q := 160) hC (nI 1) dX3_writeStripe_159 (by decide) rfl ?_
              refine vv_iadd (x := (pc_tl (pc_am0 τ5) 4) 4 (9 + w.toNatClampNeg)) (y := nI (1)) (q := 161) hC dX3_writeStripe_160 rfl ?_
              refine pc_st_tally (q := 162) hY hC (i := 9 + w.toNatClampNeg) (x := ((pc_tl (pc_am0 τ5) 4) 4 (9 + w.toNatClampNeg)) + (nI (1))) (by have := (hwn.resolve_left c_73).2; omega) dX3_writeStripe_161 rfl ?_
              refine vv_iconst (q := 163) hC (nI 0) dX3_writeStripe_162 (by decide) rfl ?_
              refine vv_iret (v := nI (0)) hC dX3_writeStripe_163 ?_
              rw [hp]
              unfold pc_wst
              rw [← hw, ← hτ2, ← hτ3, ← hτ4, ← hτ5]
              rw [if_neg c_73, if_pos (show (pc_wsd τ3 n o r).1 = true from c_110), if_pos (show (pc_wsc τ4 n (pc_re o r)).1 = true from c_122)]
              exact ⟨rfl, rfl⟩
            · refine vv_bipush (q := 127) hC ((-106)) dX3_writeStripe_125 (by decide) rfl ?_
              refine vv_iret (v := (-106)) hC dX3_writeStripe_127 ?_
              rw [hp]
              unfold pc_wst
              rw [← hw, ← hτ2, ← hτ3, ← hτ4, ← hτ5]
              rw [if_neg c_73, if_pos (show (pc_wsd τ3 n o r).1 = true from c_110), if_neg (show ¬ (pc_wsc τ4 n (pc_re o r)).1 = true from c_122)]
              exact ⟨rfl, hτ5.symm⟩
      · refine vv_bipush (q := 78) hC ((-105)) dX3_writeStripe_76 (by decide) rfl ?_
        refine vv_iret (v := (-105)) hC dX3_writeStripe_78 ?_
        rw [hp]
        unfold pc_wst
        rw [← hw, ← hτ2, ← hτ3, ← hτ4, ← hτ5]
        rw [if_pos c_73]
        exact ⟨rfl, rfl⟩
    · refine vv_aload (q := 26) hC dX3_writeStripe_24 (x := Y.2.1 (pc_e (pc_re o r))) rfl rfl ?_
      refine vv_iload (q := 28) hC dX3_writeStripe_26 (x := nI (b)) rfl rfl ?_
      refine vv_aload_n (q := 29) hC dX3_writeStripe_28 (x := Y.2.1 (0)) rfl rfl ?_
      refine pc_gP (q := 32) hY hC 1 hi_X3 hf_data (by decide) rfl (v := .int (nI (n - 1))) rfl dX3_writeStripe_29 rfl ?_
      refine vv_remN (x := b) (y := n - 1) (q := 33) hC dX3_writeStripe_32 (by omega) (by omega) (by omega) rfl ?_
      refine vv_iload (q := 35) hC dX3_writeStripe_33 (x := v) rfl rfl ?_
      refine vv_bipush (q := 37) hC (nI 8) dX3_writeStripe_35 (by decide) rfl ?_
      refine vv_iload (q := 39) hC dX3_writeStripe_37 (x := nI (b)) rfl rfl ?_
      refine vv_iload_n (q := 40) hC dX3_writeStripe_39 (x := nI (f)) rfl rfl ?_
      refine vv_subN (x := b) (y := f) (q := 41) hC dX3_writeStripe_40 (by omega) rfl ?_
      refine vv_mulN (x := 8) (y := b - f) (q := 42) hC dX3_writeStripe_41 rfl ?_
      refine vv_iadd (x := v) (y := nI (8 * (b - f))) (q := 43) hC dX3_writeStripe_42 rfl ?_
      refine vv_callVN (n := 2) (k := pc_e (pc_re o r)) (As := [.int (nI (b % (n - 1))), .int (v + (nI (8 * (b - f))))]) (st := []) (q := 46) hC (hY.ke (j := 0) (Nat.mod_lt _ (by decide)) (by decide)) (hY.E (Nat.mod_lt _ (by decide)) _) (by rw [hY.cl]; rfl) (cm_X1_addDatum _ Y n hY τ (pc_re o r) (b % (n - 1)) (v + (nI (8 * (b - f)))) (Nat.mod_lt _ (by decide)) (by have := Nat.mod_lt b (show 0 < n - 1 by omega); omega)) gX3_writeStripe_X1_addDatum_n255 rfl (hY.nw nw_X3_255) (by decide +kernel) (by decide +kernel) (by decide +kernel) (by decide +kernel) dX3_writeStripe_43 rfl rfl rfl (vv_kRv ?_)
      refine vv_iincN (x := b) (L' := [(0, .ref (Y.2.1 (0))), (1, .int (nI (s))), (2, .int (nI (f))), (3, .int (nI (t))), (4, .int (v)), (5, .ref (Y.2.1 (pc_e (pc_re o r)))), (6, .int (nI (b + 1)))]) (q := 49) hC dX3_writeStripe_46 rfl (by decide) rfl rfl rfl ?_
      refine vv_goto (tgt := 18) hC dX3_writeStripe_49 (by decide) ?_
      exact ih_18 (b + 1) (by first | omega | (dsimp only; omega)) (pc_ad τ (pc_re o r) (b % (n - 1)) (v + (nI (8 * (b - f))))) (by omega) (by omega) (by rw [hv, show t + 1 - b = (t + 1 - (b + 1)) + 1 by omega]; rfl)
  exact lp_18 f (vv_up (vv_up σ (pc_e (pc_re o r)) 1 (nI s)) (pc_e (pc_re o r)) 2 (nI 0)) (by omega) (by omega) rfl
