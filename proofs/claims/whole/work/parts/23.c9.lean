theorem pc_z_up {τ : vv_S} {k : Nat} (h : k < 24) : vv_up τ 0 9 (nI k) 0 9 = nI (pc_z (vv_up τ 0 9 (nI k))) ∧ pc_z (vv_up τ 0 9 (nI k)) < 24 := by
  have e : vv_up τ 0 9 (nI k) 0 9 = nI k := by rw [vv_up_s, vv_upd_s]
  have f : pc_z (vv_up τ 0 9 (nI k)) = k := by unfold pc_z; rw [e, nI_clamp (by omega)]
  rw [f]
  exact ⟨e, h⟩
set_option maxRecDepth 100000 in
set_option maxHeartbeats 4000000 in
theorem cm_X3_write (l : Launch) (Y : vv_Y) (n : Nat) (hY : pc_sys Y n) (σ : vv_S) (b : Int32) (c : Int32) (v : Int32) (hI : pc_I σ) : vv_M l Y yX3_write wsX3_write { frames := 6, cells := 0, slots := 0, locals := 144 } [.ref (Y.2.1 (0)), .int (b), .int (c), .int (v)] σ (vv_R (.int ((pc_write σ n b c v).1)) ((pc_write σ n b c v).2)) := by
  refine vv_M.of (cc := cX3_write) (maxL := 9) (ret := (some .int)) hY.ok (by decide) rfl (Nat.le_of_ble_eq_true rfl) ?_
  intro Z hl hp hC
  subst hl
  have hi_X3 : ∀ w ∈ u_ws RX3 TX3 10, w ∈ wsX3_write := by decide +kernel
  have hf_down : Cond.fieldLink RX3 16 "ParityRow" (TX3 6).2.1 (TX3 6).2.2.1 ∈ wsX3_write := by decide +kernel
  have hf_data : Cond.fieldLink RX3 39 "ParityRow" (TX3 1).2.1 (TX3 1).2.2.1 ∈ wsX3_write := by decide +kernel
  have hlo := hY.lo
  have hhi := hY.hi
  obtain ⟨kb, hkb⟩ : ∃ k, k = b.toNatClampNeg := ⟨_, rfl⟩
  obtain ⟨kc, hkc⟩ : ∃ k, k = c.toNatClampNeg := ⟨_, rfl⟩
  have hd0 : 0 < n - 1 := by omega
  refine vv_loc (L' := [(0, .ref (Y.2.1 (0))), (1, .int (b)), (2, .int (c)), (3, .int (v))]) rfl ?_
  refine vv_aload_n (q := 1) hC dX3_write_0 (x := Y.2.1 (0)) rfl rfl ?_
  refine pc_gP (q := 4) hY hC 6 hi_X3 hf_down (by decide) rfl (v := .int (σ 0 6)) rfl dX3_write_1 rfl ?_
  refine vv_if_eq (x := σ 0 6) (q := 7) (tgt := 10) hC dX3_write_4 (by decide) rfl (fun c_4 => ?_) (fun c_4 => ?_)
  · refine vv_aload_n (q := 11) hC dX3_write_10 (x := Y.2.1 (0)) rfl rfl ?_
    refine vv_iload_n (q := 12) hC dX3_write_11 (x := b) rfl rfl ?_
    refine vv_callV (n := 1) (k := 0) (As := [.int (b)]) (st := []) (q := 15) hC (hY.k (by decide)) (hY.P _) (by rw [hY.cl]; rfl) (cm_X3_isBlock _ Y n hY σ b ) gX3_write_X3_isBlock rfl (by decide +kernel) dX3_write_12 rfl rfl rfl (vv_kR ?_)
    refine vv_ifB_ne (b := ¬ b < 0 ∧ b < nI (24 * (n - 1))) (q := 18) (tgt := 21) hC dX3_write_15 (by decide) rfl (fun c_15 => ?_) (fun c_15 => ?_)
    · refine vv_iload_n (q := 22) hC dX3_write_21 (x := c) rfl rfl ?_
      refine vv_iconst (q := 23) hC (nI 1) dX3_write_22 (by decide) rfl ?_
      refine vv_icmp_lt (x := c) (y := nI (1)) (q := 26) (tgt := 36) hC dX3_write_23 (by decide) rfl (fun c_23 => ?_) (fun c_23 => ?_)
      · refine vv_bipush (q := 38) hC ((-102)) dX3_write_36 (by decide) rfl ?_
        refine vv_iret (v := (-102)) hC dX3_write_38 ?_
        rw [hp]
        unfold pc_write
        rw [← hkb, ← hkc]
        rw [if_pos c_4, if_pos c_15, if_pos c_23]
        exact ⟨rfl, rfl⟩
      · refine vv_iload_n (q := 27) hC dX3_write_26 (x := c) rfl rfl ?_
        refine vv_iconst (q := 28) hC (nI 2) dX3_write_27 (by decide) rfl ?_
        refine vv_aload_n (q := 29) hC dX3_write_28 (x := Y.2.1 (0)) rfl rfl ?_
        refine pc_gP (q := 32) hY hC 1 hi_X3 hf_data (by decide) rfl (v := .int (nI (n - 1))) rfl dX3_write_29 rfl ?_
        refine vv_mulN (x := 2) (y := n - 1) (q := 33) hC dX3_write_32 rfl ?_
        refine vv_icmp_le (x := c) (y := nI (2 * (n - 1))) (q := 36) (tgt := 39) hC dX3_write_33 (by decide) rfl (fun c_33 => ?_) (fun c_33 => ?_)
        · have hn_b := pc_nat (b := b) (N := 24 * (n - 1)) c_15 (by omega)
          have hx := pc_rng c_23 c_33 (by omega)
          rw [← hkb] at hn_b
          rw [← hkc] at hx
          refine vv_loc (L' := [(0, .ref (Y.2.1 (0))), (1, .int (nI (kb))), (2, .int (nI (kc))), (3, .int (v))]) (by rw [← hn_b.1, ← hx.1]) ?_
          refine vv_iload_n (q := 40) hC dX3_write_39 (x := nI (kb)) rfl rfl ?_
          refine vv_iload_n (q := 41) hC dX3_write_40 (x := nI (kc)) rfl rfl ?_
          refine vv_addN (x := kb) (y := kc) (q := 42) hC dX3_write_41 rfl ?_
          refine vv_iconst (q := 43) hC (nI 1) dX3_write_42 (by decide) rfl ?_
          refine vv_subN (x := kb + kc) (y := 1) (q := 44) hC dX3_write_43 (by omega) rfl ?_
          refine vv_istore (L' := [(0, .ref (Y.2.1 (0))), (1, .int (nI (kb))), (2, .int (nI (kc))), (3, .int (v)), (4, .int (nI ((kb + kc) - 1)))]) (q := 46) hC dX3_write_44 (by decide) rfl rfl rfl ?_
          refine vv_aload_n (q := 47) hC dX3_write_46 (x := Y.2.1 (0)) rfl rfl ?_
          refine vv_iload (q := 49) hC dX3_write_47 (x := nI ((kb + kc) - 1)) rfl rfl ?_
          refine vv_callV (n := 1) (k := 0) (As := [.int (nI ((kb + kc) - 1))]) (st := []) (q := 52) hC (hY.k (by decide)) (hY.P _) (by rw [hY.cl]; rfl) (cm_X3_isBlock _ Y n hY σ (nI ((kb + kc) - 1)) ) gX3_write_X3_isBlock rfl (by decide +kernel) dX3_write_49 rfl rfl rfl (vv_kR ?_)
          refine vv_ifB_ne (b := ¬ (nI ((kb + kc) - 1)) < 0 ∧ (nI ((kb + kc) - 1)) < nI (24 * (n - 1))) (q := 55) (tgt := 58) hC dX3_write_52 (by decide) rfl (fun c_52 => ?_) (fun c_52 => ?_)
          · have hl : kb + kc - 1 < 24 * (n - 1) := (nI_ltI (by omega) (by omega)).mp c_52.2
            have hl24 : (kb + kc - 1) / (n - 1) < 24 := (pc_dm hlo hl).1
            refine vv_iload_n (q := 59) hC dX3_write_58 (x := nI (kb)) rfl rfl ?_
            refine vv_aload_n (q := 60) hC dX3_write_59 (x := Y.2.1 (0)) rfl rfl ?_
            refine pc_gP (q := 63) hY hC 1 hi_X3 hf_data (by decide) rfl (v := .int (nI (n - 1))) rfl dX3_write_60 rfl ?_
            refine vv_divN (x := kb) (y := n - 1) (q := 64) hC dX3_write_63 (by omega) (by omega) (by omega) rfl ?_
            refine vv_istore (L' := [(0, .ref (Y.2.1 (0))), (1, .int (nI (kb))), (2, .int (nI (kc))), (3, .int (v)), (4, .int (nI ((kb + kc) - 1))), (5, .int (nI (kb / (n - 1))))]) (q := 66) hC dX3_write_64 (by decide) rfl rfl rfl ?_
            have lp_66 : ∀ s : Nat, ∀ τ : vv_S, (kb / (n - 1) ≤ s) → (s ≤ (kb + kc - 1) / (n - 1) + 1) → (pc_I τ) → (pc_wrs σ n kb kc v = pc_wr n kb (kb + kc - 1) v ((kb + kc - 1) / (n - 1) + 1 - s) s τ) → vv_V Y 9 Z τ 66 [(0, .ref (Y.2.1 (0))), (1, .int (nI (kb))), (2, .int (nI (kc))), (3, .int (v)), (4, .int (nI ((kb + kc) - 1))), (5, .int (nI (s)))] [] := by
              refine vv_ind (fun s => (kb + kc - 1) / (n - 1) + 1 - s) (fun s ih_66 => ?_)
              intro τ hs0 hs1 hIt hv
              have hsd : s * (n - 1) ≤ 24 * 5 := Nat.mul_le_mul (by omega) (by omega)
              have hJ := hIt.1
              refine vv_iload (q := 68) hC dX3_write_66 (x := nI (s)) rfl rfl ?_
              refine vv_iload (q := 70) hC dX3_write_68 (x := nI ((kb + kc) - 1)) rfl rfl ?_
              refine vv_aload_n (q := 71) hC dX3_write_70 (x := Y.2.1 (0)) rfl rfl ?_
              refine pc_gP (q := 74) hY hC 1 hi_X3 hf_data (by decide) rfl (v := .int (nI (n - 1))) rfl dX3_write_71 rfl ?_
              refine vv_divN (x := (kb + kc) - 1) (y := n - 1) (q := 75) hC dX3_write_74 (by omega) (by omega) (by omega) rfl ?_
              refine vv_icmpN_gt (x := s) (y := ((kb + kc) - 1) / (n - 1)) (q := 78) (tgt := 147) hC dX3_write_75 (by decide) (by omega) (by omega) rfl (fun c_75 => ?_) (fun c_75 => ?_)
              · refine vv_iload_n (q := 148) hC dX3_write_147 (x := nI (kc)) rfl rfl ?_
                refine vv_iret (v := nI (kc)) hC dX3_write_148 ?_
                rw [hp]
                unfold pc_write
                rw [← hkb, ← hkc]
                have hw : pc_wrs σ n kb kc v = (nI 0, τ) := by rw [hv, show (kb + kc - 1) / (n - 1) + 1 - s = 0 by omega]; rfl
                rw [if_pos c_4, if_pos c_15, if_neg c_23, if_pos c_33, if_pos c_52, if_pos (by rw [hw]; rfl), hw]
                exact ⟨congrArg (fun z => some (Value.int z)) hx.1.symm, rfl⟩
              · refine vv_iload_n (q := 79) hC dX3_write_78 (x := nI (kb)) rfl rfl ?_
                refine vv_iload (q := 81) hC dX3_write_79 (x := nI (s)) rfl rfl ?_
                refine vv_aload_n (q := 82) hC dX3_write_81 (x := Y.2.1 (0)) rfl rfl ?_
                refine pc_gP (q := 85) hY hC 1 hi_X3 hf_data (by decide) rfl (v := .int (nI (n - 1))) rfl dX3_write_82 rfl ?_
                refine vv_mulN (x := s) (y := n - 1) (q := 86) hC dX3_write_85 rfl ?_
                refine vv_max (x := nI (kb)) (y := nI (s * (n - 1))) (q := 89) hC (by decide +kernel) (by decide +kernel) (by decide +kernel) (by decide +kernel) rfl rfl dX3_write_86 rfl ?_
                refine vv_top (y := nI (max kb (s * (n - 1)))) (pc_max (by omega) (by omega)) ?_
                refine vv_istore (L' := [(0, .ref (Y.2.1 (0))), (1, .int (nI (kb))), (2, .int (nI (kc))), (3, .int (v)), (4, .int (nI ((kb + kc) - 1))), (5, .int (nI (s))), (6, .int (nI (max kb (s * (n - 1)))))]) (q := 91) hC dX3_write_89 (by decide) rfl rfl rfl ?_
                refine vv_iload (q := 93) hC dX3_write_91 (x := nI ((kb + kc) - 1)) rfl rfl ?_
                refine vv_iload (q := 95) hC dX3_write_93 (x := nI (s)) rfl rfl ?_
                refine vv_aload_n (q := 96) hC dX3_write_95 (x := Y.2.1 (0)) rfl rfl ?_
                refine pc_gP (q := 99) hY hC 1 hi_X3 hf_data (by decide) rfl (v := .int (nI (n - 1))) rfl dX3_write_96 rfl ?_
                refine vv_mulN (x := s) (y := n - 1) (q := 100) hC dX3_write_99 rfl ?_
                refine vv_aload_n (q := 101) hC dX3_write_100 (x := Y.2.1 (0)) rfl rfl ?_
                refine pc_gP (q := 104) hY hC 1 hi_X3 hf_data (by decide) rfl (v := .int (nI (n - 1))) rfl dX3_write_101 rfl ?_
                refine vv_addN (x := s * (n - 1)) (y := n - 1) (q := 105) hC dX3_write_104 rfl ?_
                refine vv_iconst (q := 106) hC (nI 1) dX3_write_105 (by decide) rfl ?_
                refine vv_subN (x := (s * (n - 1)) + (n - 1)) (y := 1) (q := 107) hC dX3_write_106 (by omega) rfl ?_
                refine vv_min (x := nI ((kb + kc) - 1)) (y := nI (((s * (n - 1)) + (n - 1)) - 1)) (q := 110) hC (by decide +kernel) (by decide +kernel) (by decide +kernel) (by decide +kernel) rfl rfl dX3_write_107 rfl ?_
                refine vv_top (y := nI (min (kb + kc - 1) (s * (n - 1) + (n - 1) - 1))) (pc_min (by omega) (by omega)) ?_
                refine vv_istore (L' := [(0, .ref (Y.2.1 (0))), (1, .int (nI (kb))), (2, .int (nI (kc))), (3, .int (v)), (4, .int (nI ((kb + kc) - 1))), (5, .int (nI (s))), (6, .int (nI (max kb (s * (n - 1))))), (7, .int (nI (min (kb + kc - 1) (s * (n - 1) + (n - 1) - 1))))]) (q := 112) hC dX3_write_110 (by decide) rfl rfl rfl ?_
                refine vv_aload_n (q := 113) hC dX3_write_112 (x := Y.2.1 (0)) rfl rfl ?_
                refine vv_iload (q := 115) hC dX3_write_113 (x := nI (s)) rfl rfl ?_
                refine vv_iload (q := 117) hC dX3_write_115 (x := nI (max kb (s * (n - 1)))) rfl rfl ?_
                refine vv_iload (q := 119) hC dX3_write_117 (x := nI (min (kb + kc - 1) (s * (n - 1) + (n - 1) - 1))) rfl rfl ?_
                refine vv_iload_n (q := 120) hC dX3_write_119 (x := v) rfl rfl ?_
                refine vv_bipush (q := 122) hC (nI 8) dX3_write_120 (by decide) rfl ?_
                refine vv_iload (q := 124) hC dX3_write_122 (x := nI (max kb (s * (n - 1)))) rfl rfl ?_
                refine vv_iload_n (q := 125) hC dX3_write_124 (x := nI (kb)) rfl rfl ?_
                refine vv_subN (x := max kb (s * (n - 1))) (y := kb) (q := 126) hC dX3_write_125 (by omega) rfl ?_
                refine vv_mulN (x := 8) (y := (max kb (s * (n - 1))) - kb) (q := 127) hC dX3_write_126 rfl ?_
                refine vv_iadd (x := v) (y := nI (8 * ((max kb (s * (n - 1))) - kb))) (q := 128) hC dX3_write_127 rfl ?_
                refine vv_callV (n := 4) (k := 0) (As := [.int (nI (s)), .int (nI (max kb (s * (n - 1)))), .int (nI (min (kb + kc - 1) (s * (n - 1) + (n - 1) - 1))), .int (v + (nI (8 * ((max kb (s * (n - 1))) - kb))))]) (st := []) (q := 131) hC (hY.k (by decide)) (hY.P _) (by rw [hY.cl]; rfl) (cm_X3_writeStripe _ Y n hY τ (pc_o τ) (pc_r τ) s (max kb (s * (n - 1))) (min (kb + kc - 1) (s * (n - 1) + (n - 1) - 1)) (v + (nI (8 * ((max kb (s * (n - 1))) - kb)))) hJ.1 hJ.2.1 hJ.2.2.1 hJ.2.2.2.1 hJ (by omega) (pc_ft hd0 hs0 (by omega) (by omega)) (by omega)) gX3_write_X3_writeStripe rfl (by decide +kernel) dX3_write_128 rfl rfl rfl (vv_kR ?_)
                refine vv_istore (L' := [(0, .ref (Y.2.1 (0))), (1, .int (nI (kb))), (2, .int (nI (kc))), (3, .int (v)), (4, .int (nI ((kb + kc) - 1))), (5, .int (nI (s))), (6, .int (nI (max kb (s * (n - 1))))), (7, .int (nI (min (kb + kc - 1) (s * (n - 1) + (n - 1) - 1)))), (8, .int ((pc_wst τ n (pc_o τ) (pc_r τ) s (max kb (s * (n - 1))) (min (kb + kc - 1) (s * (n - 1) + (n - 1) - 1)) (v + (nI (8 * ((max kb (s * (n - 1))) - kb))))).1))]) (q := 133) hC dX3_write_131 (by decide) rfl rfl rfl ?_
                refine vv_iload (q := 135) hC dX3_write_133 (x := (pc_wst τ n (pc_o τ) (pc_r τ) s (max kb (s * (n - 1))) (min (kb + kc - 1) (s * (n - 1) + (n - 1) - 1)) (v + (nI (8 * ((max kb (s * (n - 1))) - kb))))).1) rfl rfl ?_
                refine vv_if_eq (x := (pc_wst τ n (pc_o τ) (pc_r τ) s (max kb (s * (n - 1))) (min (kb + kc - 1) (s * (n - 1) + (n - 1) - 1)) (v + (nI (8 * ((max kb (s * (n - 1))) - kb))))).1) (q := 138) (tgt := 141) hC dX3_write_135 (by decide) rfl (fun c_135 => ?_) (fun c_135 => ?_)
                · refine vv_iincN (x := s) (L' := [(0, .ref (Y.2.1 (0))), (1, .int (nI (kb))), (2, .int (nI (kc))), (3, .int (v)), (4, .int (nI ((kb + kc) - 1))), (5, .int (nI (s + 1))), (6, .int (nI (max kb (s * (n - 1))))), (7, .int (nI (min (kb + kc - 1) (s * (n - 1) + (n - 1) - 1)))), (8, .int ((pc_wst τ n (pc_o τ) (pc_r τ) s (max kb (s * (n - 1))) (min (kb + kc - 1) (s * (n - 1) + (n - 1) - 1)) (v + (nI (8 * ((max kb (s * (n - 1))) - kb))))).1))]) (q := 144) hC dX3_write_141 rfl (by decide) rfl rfl rfl ?_
                  refine vv_goto (tgt := 66) hC dX3_write_144 (by decide) ?_
                  refine vv_sub (L' := [(0, .ref (Y.2.1 (0))), (1, .int (nI (kb))), (2, .int (nI (kc))), (3, .int (v)), (4, .int (nI ((kb + kc) - 1))), (5, .int (nI (s + 1)))]) (by simp) ?_
                  exact ih_66 (s + 1) (by first | omega | (dsimp only; omega)) ((pc_wst τ n (pc_o τ) (pc_r τ) s (max kb (s * (n - 1))) (min (kb + kc - 1) (s * (n - 1) + (n - 1) - 1)) (v + (nI (8 * ((max kb (s * (n - 1))) - kb))))).2) (by omega) (by omega) (pc_wst_I hhi hlo (pc_ft hd0 hs0 (by omega) (by omega)) (by omega) hIt) (by rw [hv, show (kb + kc - 1) / (n - 1) + 1 - s = ((kb + kc - 1) / (n - 1) + 1 - (s + 1)) + 1 by omega]; exact if_pos c_135)
                · refine vv_iload (q := 140) hC dX3_write_138 (x := (pc_wst τ n (pc_o τ) (pc_r τ) s (max kb (s * (n - 1))) (min (kb + kc - 1) (s * (n - 1) + (n - 1) - 1)) (v + (nI (8 * ((max kb (s * (n - 1))) - kb))))).1) rfl rfl ?_
                  refine vv_iret (v := (pc_wst τ n (pc_o τ) (pc_r τ) s (max kb (s * (n - 1))) (min (kb + kc - 1) (s * (n - 1) + (n - 1) - 1)) (v + (nI (8 * ((max kb (s * (n - 1))) - kb))))).1) hC dX3_write_140 ?_
                  rw [hp]
                  unfold pc_write
                  rw [← hkb, ← hkc]
                  have hw : pc_wrs σ n kb kc v = pc_wst τ n (pc_o τ) (pc_r τ) s (max kb (s * (n - 1))) (min (kb + kc - 1) (s * (n - 1) + (n - 1) - 1)) (v + nI (8 * (max kb (s * (n - 1)) - kb))) := by rw [hv, show (kb + kc - 1) / (n - 1) + 1 - s = ((kb + kc - 1) / (n - 1) + 1 - (s + 1)) + 1 by omega]; exact if_neg c_135
                  rw [if_pos c_4, if_pos c_15, if_neg c_23, if_pos c_33, if_pos c_52, if_neg (by rw [hw]; exact c_135), hw]
                  exact ⟨rfl, rfl⟩
            exact lp_66 (kb / (n - 1)) σ (by omega) (Nat.le_succ_of_le (Nat.div_le_div_right (by omega))) hI rfl
          · refine vv_bipush (q := 57) hC ((-101)) dX3_write_55 (by decide) rfl ?_
            refine vv_iret (v := (-101)) hC dX3_write_57 ?_
            rw [hp]
            unfold pc_write
            rw [← hkb, ← hkc]
            rw [if_pos c_4, if_pos c_15, if_neg c_23, if_pos c_33, if_neg c_52]
            exact ⟨rfl, rfl⟩
        · refine vv_bipush (q := 38) hC ((-102)) dX3_write_36 (by decide) rfl ?_
          refine vv_iret (v := (-102)) hC dX3_write_38 ?_
          rw [hp]
          unfold pc_write
          rw [← hkb, ← hkc]
          rw [if_pos c_4, if_pos c_15, if_neg c_23, if_neg c_33]
          exact ⟨rfl, rfl⟩
    · refine vv_bipush (q := 20) hC ((-101)) dX3_write_18 (by decide) rfl ?_
      refine vv_iret (v := (-101)) hC dX3_write_20 ?_
      rw [hp]
      unfold pc_write
      rw [← hkb, ← hkc]
      rw [if_pos c_4, if_neg c_15]
      exact ⟨rfl, rfl⟩
  · refine vv_bipush (q := 9) hC ((-100)) dX3_write_7 (by decide) rfl ?_
    refine vv_iret (v := (-100)) hC dX3_write_9 ?_
    rw [hp]
    unfold pc_write
    rw [← hkb, ← hkc]
    rw [if_neg c_4]
    exact ⟨rfl, rfl⟩
set_option maxRecDepth 100000 in
set_option maxHeartbeats 4000000 in
theorem cm_X3_build (l : Launch) (Y : vv_Y) (n : Nat) (hY : pc_sys Y n) (σ : vv_S) (x : Int32) (hJ0 : pc_J σ) (hB : ∀ m, m < n → σ (pc_d m) 4 = nI (pc_b σ m) ∧ pc_b σ m ≤ 24) : vv_M l Y yX3_build wsX3_build { frames := 6, cells := 0, slots := 0, locals := 141 } [.ref (Y.2.1 (0)), .int (x)] σ (vv_R (.int ((pc_build σ n x).1)) ((pc_build σ n x).2)) := by
  refine vv_M.of (cc := cX3_build) (maxL := 5) (ret := (some .int)) hY.ok (by decide) rfl (Nat.le_of_ble_eq_true rfl) ?_
  intro Z hl hp hC
  subst hl
  have hi_X0 : ∀ w ∈ u_ws RX0 TX0 6, w ∈ wsX3_build := by decide +kernel
  have hi_X3 : ∀ w ∈ u_ws RX3 TX3 10, w ∈ wsX3_build := by decide +kernel
  have hf_down : Cond.fieldLink RX3 16 "ParityRow" (TX3 6).2.1 (TX3 6).2.2.1 ∈ wsX3_build := by decide +kernel
  have hf_disks : Cond.fieldLink RX3 44 "ParityRow" (TX3 2).2.1 (TX3 2).2.2.1 ∈ wsX3_build := by decide +kernel
  have hlo := hY.lo
  have hhi := hY.hi
  obtain ⟨kx, hkx⟩ : ∃ k, k = x.toNatClampNeg := ⟨_, rfl⟩
  obtain ⟨mm, hmm⟩ : ∃ k, k = (pc_mt σ (nI 2) n 0).toNatClampNeg := ⟨_, rfl⟩
  refine vv_loc (L' := [(0, .ref (Y.2.1 (0))), (1, .int (x))]) rfl ?_
  refine vv_aload_n (q := 1) hC dX3_build_0 (x := Y.2.1 (0)) rfl rfl ?_
  refine pc_gP (q := 4) hY hC 6 hi_X3 hf_down (by decide) rfl (v := .int (σ 0 6)) rfl dX3_build_1 rfl ?_
  refine vv_if_eq (x := σ 0 6) (q := 7) (tgt := 10) hC dX3_build_4 (by decide) rfl (fun c_4 => ?_) (fun c_4 => ?_)
  · refine vv_iload_n (q := 11) hC dX3_build_10 (x := x) rfl rfl ?_
    refine vv_iconst (q := 12) hC (nI 1) dX3_build_11 (by decide) rfl ?_
    refine vv_icmp_lt (x := x) (y := nI (1)) (q := 15) (tgt := 21) hC dX3_build_12 (by decide) rfl (fun c_12 => ?_) (fun c_12 => ?_)
    · refine vv_bipush (q := 23) hC ((-102)) dX3_build_21 (by decide) rfl ?_
      refine vv_iret (v := (-102)) hC dX3_build_23 ?_
      rw [hp]
      unfold pc_build
      rw [if_pos c_4, if_pos c_12]
      exact ⟨rfl, rfl⟩
    · refine vv_iload_n (q := 16) hC dX3_build_15 (x := x) rfl rfl ?_
      refine vv_bipush (q := 18) hC (nI 24) dX3_build_16 (by decide) rfl ?_
      refine vv_icmp_le (x := x) (y := nI (24)) (q := 21) (tgt := 24) hC dX3_build_18 (by decide) rfl (fun c_18 => ?_) (fun c_18 => ?_)
      · refine vv_aload_n (q := 25) hC dX3_build_24 (x := Y.2.1 (0)) rfl rfl ?_
        refine vv_iconst (q := 26) hC (nI 2) dX3_build_25 (by decide) rfl ?_
        refine vv_callV (n := 1) (k := 0) (As := [.int (nI (2))]) (st := []) (q := 29) hC (hY.k (by decide)) (hY.P _) (by rw [hY.cl]; rfl) (cm_X3_memberThat _ Y n hY σ (nI (2)) ) gX3_build_X3_memberThat rfl (by decide +kernel) dX3_build_26 rfl rfl rfl (vv_kR ?_)
        refine vv_istore_n (L' := [(0, .ref (Y.2.1 (0))), (1, .int (x)), (2, .int (pc_mt σ (nI (2)) n 0))]) (q := 30) hC dX3_build_29 (by decide) rfl rfl rfl ?_
        refine vv_iload_n (q := 31) hC dX3_build_30 (x := pc_mt σ (nI (2)) n 0) rfl rfl ?_
        refine vv_iconst (q := 32) hC ((-1)) dX3_build_31 (by decide) rfl ?_
        refine vv_icmp_ne (x := pc_mt σ (nI (2)) n 0) (y := (-1)) (q := 35) (tgt := 38) hC dX3_build_32 (by decide) rfl (fun c_32 => ?_) (fun c_32 => ?_)
        · have hm := pc_mt_nat hhi c_32
          rw [← hmm] at hm
          have hx := pc_rng c_12 c_18 (by decide)
          rw [← hkx] at hx
          have hmn := hm.2.1
          refine vv_loc (L' := [(0, .ref (Y.2.1 (0))), (1, .int (nI (kx))), (2, .int (nI (mm)))]) (by rw [← hx.1, ← hm.1]) ?_
          refine vv_aload_n (q := 39) hC dX3_build_38 (x := Y.2.1 (0)) rfl rfl ?_
          refine pc_gP (q := 42) hY hC 2 hi_X3 hf_disks (by decide) rfl (v := .ref (Y.2.1 (1))) rfl dX3_build_39 rfl ?_
          refine vv_iload_n (q := 43) hC dX3_build_42 (x := nI (mm)) rfl rfl ?_
          refine pc_ld_disks (q := 44) (m := mm) hY hC (by omega) dX3_build_43 rfl ?_
          refine vv_astore_n (L' := [(0, .ref (Y.2.1 (0))), (1, .int (nI (kx))), (2, .int (nI (mm))), (3, .ref (Y.2.1 (pc_d mm)))]) (q := 45) hC dX3_build_44 (by decide) rfl rfl rfl ?_
          refine vv_iconst (q := 46) hC (nI 0) dX3_build_45 (by decide) rfl ?_
          refine vv_istore (L' := [(0, .ref (Y.2.1 (0))), (1, .int (nI (kx))), (2, .int (nI (mm))), (3, .ref (Y.2.1 (pc_d mm))), (4, .int (nI (0)))]) (q := 48) hC dX3_build_46 (by decide) rfl rfl rfl ?_
          have lp_48 : ∀ k : Nat, ∀ τ : vv_S, (k ≤ kx) → (pc_J τ) → (τ (pc_d mm) 4 = nI (pc_b τ mm) ∧ pc_b τ mm ≤ 24) → (pc_bl n mm kx σ = pc_bl n mm (kx - k) τ) → vv_V Y 5 Z τ 48 [(0, .ref (Y.2.1 (0))), (1, .int (nI (kx))), (2, .int (nI (mm))), (3, .ref (Y.2.1 (pc_d mm))), (4, .int (nI (k)))] [] := by
            refine vv_ind (fun k => kx - k) (fun k ih_48 => ?_)
            intro τ hk hJ hb hv
            have hb24 := hb.2
            refine vv_iload (q := 50) hC dX3_build_48 (x := nI (k)) rfl rfl ?_
            refine vv_iload_n (q := 51) hC dX3_build_50 (x := nI (kx)) rfl rfl ?_
            refine vv_icmpN_ge (x := k) (y := kx) (q := 54) (tgt := 84) hC dX3_build_51 (by decide) (by omega) (by omega) rfl (fun c_51 => ?_) (fun c_51 => ?_)
            · refine vv_bipush (q := 86) hC (nI 24) dX3_build_84 (by decide) rfl ?_
              refine vv_aload_n (q := 87) hC dX3_build_86 (x := Y.2.1 (pc_d mm)) rfl rfl ?_
              refine pc_gDN (q := 90) hY hC (by omega) 4 hi_X0 nw_X3_123 (by decide) rfl (v := .int (τ (pc_d mm) 4)) rfl dX3_build_87 rfl ?_
              refine vv_top (y := nI (pc_b τ mm)) (hb.1) ?_
              refine vv_subN (x := 24) (y := pc_b τ mm) (q := 91) hC dX3_build_90 (by omega) rfl ?_
              refine vv_iret (v := nI (24 - (pc_b τ mm))) hC dX3_build_91 ?_
              rw [hp]
              unfold pc_build
              have hw : pc_bl n mm kx σ = (true, τ) := by rw [hv, show kx - k = 0 by omega]; rfl
              rw [if_pos c_4, if_neg c_12, if_pos c_18, if_neg c_32, ← hmm, ← hkx, if_pos (by rw [hw]), hw]
              exact ⟨rfl, rfl⟩
            · refine vv_aload_n (q := 55) hC dX3_build_54 (x := Y.2.1 (pc_d mm)) rfl rfl ?_
              refine pc_gDN (q := 58) hY hC (by omega) 4 hi_X0 nw_X3_123 (by decide) rfl (v := .int (τ (pc_d mm) 4)) rfl dX3_build_55 rfl ?_
              refine vv_top (y := nI (pc_b τ mm)) (hb.1) ?_
              refine vv_bipush (q := 60) hC (nI 24) dX3_build_58 (by decide) rfl ?_
              refine vv_icmpN_ge (x := pc_b τ mm) (y := 24) (q := 63) (tgt := 84) hC dX3_build_60 (by decide) (by omega) (by omega) rfl (fun c_60 => ?_) (fun c_60 => ?_)
              · refine vv_bipush (q := 86) hC (nI 24) dX3_build_84 (by decide) rfl ?_
                refine vv_aload_n (q := 87) hC dX3_build_86 (x := Y.2.1 (pc_d mm)) rfl rfl ?_
                refine pc_gDN (q := 90) hY hC (by omega) 4 hi_X0 nw_X3_123 (by decide) rfl (v := .int (τ (pc_d mm) 4)) rfl dX3_build_87 rfl ?_
                refine vv_top (y := nI (pc_b τ mm)) (hb.1) ?_
                refine vv_subN (x := 24) (y := pc_b τ mm) (q := 91) hC dX3_build_90 (by omega) rfl ?_
                refine vv_iret (v := nI (24 - (pc_b τ mm))) hC dX3_build_91 ?_
                rw [hp]
                unfold pc_build
                have hw : pc_bl n mm kx σ = (true, τ) := by rw [hv, show kx - k = (kx - (k + 1)) + 1 by omega]; exact if_neg (by omega)
                rw [if_pos c_4, if_neg c_12, if_pos c_18, if_neg c_32, ← hmm, ← hkx, if_pos (by rw [hw]), hw]
                exact ⟨rfl, rfl⟩
              · refine vv_aload_n (q := 64) hC dX3_build_63 (x := Y.2.1 (0)) rfl rfl ?_
                refine vv_iload_n (q := 65) hC dX3_build_64 (x := nI (mm)) rfl rfl ?_
                refine vv_aload_n (q := 66) hC dX3_build_65 (x := Y.2.1 (pc_d mm)) rfl rfl ?_
                refine pc_gDN (q := 69) hY hC (by omega) 4 hi_X0 nw_X3_123 (by decide) rfl (v := .int (τ (pc_d mm) 4)) rfl dX3_build_66 rfl ?_
                refine vv_top (y := nI (pc_b τ mm)) (hb.1) ?_
                refine vv_callV (n := 2) (k := 0) (As := [.int (nI (mm)), .int (nI (pc_b τ mm))]) (st := []) (q := 72) hC (hY.k (by decide)) (hY.P _) (by rw [hY.cl]; rfl) (cm_X3_buildStripe _ Y n hY τ (pc_o τ) (pc_r τ) mm (pc_b τ mm) hJ.1 hJ.2.1 hJ.2.2.1 hJ.2.2.2.1 (by omega) (by omega) hJ) gX3_build_X3_buildStripe rfl (by decide +kernel) dX3_build_69 rfl rfl rfl (vv_kR ?_)
                refine vv_ifB_ne (b := (pc_bst τ n (pc_o τ) (pc_r τ) mm (pc_b τ mm)).1 = true) (q := 75) (tgt := 78) hC dX3_build_72 (by decide) rfl (fun c_72 => ?_) (fun c_72 => ?_)
                · refine vv_iincN (x := k) (L' := [(0, .ref (Y.2.1 (0))), (1, .int (nI (kx))), (2, .int (nI (mm))), (3, .ref (Y.2.1 (pc_d mm))), (4, .int (nI (k + 1)))]) (q := 81) hC dX3_build_78 rfl (by decide) rfl rfl rfl ?_
                  refine vv_goto (tgt := 48) hC dX3_build_81 (by decide) ?_
                  exact ih_48 (k + 1) (by first | omega | (dsimp only; omega)) ((pc_bst τ n (pc_o τ) (pc_r τ) mm (pc_b τ mm)).2) (by omega) (pc_bst_ok hJ c_72).1 (by have hz := (pc_bst_ok hJ c_72).2; rw [pc_b_eq hz (by omega)]; exact ⟨hz, by omega⟩) (by rw [hv, show kx - k = (kx - (k + 1)) + 1 by omega]; exact (if_pos (by omega)).trans (if_pos c_72))
                · refine vv_bipush (q := 77) hC ((-106)) dX3_build_75 (by decide) rfl ?_
                  refine vv_iret (v := (-106)) hC dX3_build_77 ?_
                  rw [hp]
                  unfold pc_build
                  have hw : pc_bl n mm kx σ = (false, (pc_bst τ n (pc_o τ) (pc_r τ) mm (pc_b τ mm)).2) := by rw [hv, show kx - k = (kx - (k + 1)) + 1 by omega]; exact (if_pos (by omega)).trans (if_neg c_72)
                  rw [if_pos c_4, if_neg c_12, if_pos c_18, if_neg c_32, ← hmm, ← hkx, if_neg (by rw [hw]; exact fun z => by cases z), hw]
                  exact ⟨rfl, rfl⟩
          exact lp_48 0 σ (by omega) hJ0 (hB mm hmn) rfl
        · refine vv_bipush (q := 37) hC ((-103)) dX3_build_35 (by decide) rfl ?_
          refine vv_iret (v := (-103)) hC dX3_build_37 ?_
          rw [hp]
          unfold pc_build
          rw [if_pos c_4, if_neg c_12, if_pos c_18, if_pos c_32]
          exact ⟨rfl, rfl⟩
      · refine vv_bipush (q := 23) hC ((-102)) dX3_build_21 (by decide) rfl ?_
        refine vv_iret (v := (-102)) hC dX3_build_23 ?_
        rw [hp]
        unfold pc_build
        rw [if_pos c_4, if_neg c_12, if_neg c_18]
        exact ⟨rfl, rfl⟩
  · refine vv_bipush (q := 9) hC ((-100)) dX3_build_7 (by decide) rfl ?_
    refine vv_iret (v := (-100)) hC dX3_build_9 ?_
    rw [hp]
    unfold pc_build
    rw [if_neg c_4]
    exact ⟨rfl, rfl⟩
set_option maxRecDepth 100000 in
set_option maxHeartbeats 4000000 in
theorem cm_X3_scrub (l : Launch) (Y : vv_Y) (n : Nat) (hY : pc_sys Y n) (σ : vv_S) (x : Int32) (hz0 : σ 0 9 = nI (pc_z σ) ∧ pc_z σ < 24) : vv_M l Y yX3_scrub wsX3_scrub { frames := 5, cells := 0, slots := 0, locals := 117 } [.ref (Y.2.1 (0)), .int (x)] σ (vv_R (.int ((pc_scrub σ n x).1)) ((pc_scrub σ n x).2)) := by
  refine vv_M.of (cc := cX3_scrub) (maxL := 4) (ret := (some .int)) hY.ok (by decide) rfl (Nat.le_of_ble_eq_true rfl) ?_
  intro Z hl hp hC
  subst hl
  have hi_X3 : ∀ w ∈ u_ws RX3 TX3 10, w ∈ wsX3_scrub := by decide +kernel
  have hf_down : Cond.fieldLink RX3 16 "ParityRow" (TX3 6).2.1 (TX3 6).2.2.1 ∈ wsX3_scrub := by decide +kernel
  have hf_tally : Cond.fieldLink RX3 9 "ParityRow" (TX3 4).2.1 (TX3 4).2.2.1 ∈ wsX3_scrub := by decide +kernel
  have hf_nextScrub : Cond.fieldLink RX3 27 "ParityRow" (TX3 9).2.1 (TX3 9).2.2.1 ∈ wsX3_scrub := by decide +kernel
  have hlo := hY.lo
  have hhi := hY.hi
  obtain ⟨kx, hkx⟩ : ∃ k, k = x.toNatClampNeg := ⟨_, rfl⟩
  refine vv_loc (L' := [(0, .ref (Y.2.1 (0))), (1, .int (x))]) rfl ?_
  refine vv_aload_n (q := 1) hC dX3_scrub_0 (x := Y.2.1 (0)) rfl rfl ?_
  refine pc_gP (q := 4) hY hC 6 hi_X3 hf_down (by decide) rfl (v := .int (σ 0 6)) rfl dX3_scrub_1 rfl ?_
  refine vv_if_eq (x := σ 0 6) (q := 7) (tgt := 10) hC dX3_scrub_4 (by decide) rfl (fun c_4 => ?_) (fun c_4 => ?_)
  · refine vv_iload_n (q := 11) hC dX3_scrub_10 (x := x) rfl rfl ?_
    refine vv_iconst (q := 12) hC (nI 1) dX3_scrub_11 (by decide) rfl ?_
    refine vv_icmp_lt (x := x) (y := nI (1)) (q := 15) (tgt := 21) hC dX3_scrub_12 (by decide) rfl (fun c_12 => ?_) (fun c_12 => ?_)
    · refine vv_bipush (q := 23) hC ((-102)) dX3_scrub_21 (by decide) rfl ?_
      refine vv_iret (v := (-102)) hC dX3_scrub_23 ?_
      rw [hp]
      unfold pc_scrub
      rw [if_pos c_4, if_pos c_12]
      exact ⟨rfl, rfl⟩
    · refine vv_iload_n (q := 16) hC dX3_scrub_15 (x := x) rfl rfl ?_
      refine vv_bipush (q := 18) hC (nI 24) dX3_scrub_16 (by decide) rfl ?_
      refine vv_icmp_le (x := x) (y := nI (24)) (q := 21) (tgt := 24) hC dX3_scrub_18 (by decide) rfl (fun c_18 => ?_) (fun c_18 => ?_)
      · refine vv_aload_n (q := 25) hC dX3_scrub_24 (x := Y.2.1 (0)) rfl rfl ?_
        refine vv_callV (n := 0) (k := 0) (As := []) (st := []) (q := 28) hC (hY.k (by decide)) (hY.P _) (by rw [hY.cl]; rfl) (cm_X3_allOn _ Y n hY σ  ) gX3_scrub_X3_allOn rfl (by decide +kernel) dX3_scrub_25 rfl rfl rfl (vv_kR ?_)
        refine vv_ifB_ne (b := pc_mt σ (nI 1) n 0 = -1 ∧ pc_mt σ (nI 2) n 0 = -1) (q := 31) (tgt := 34) hC dX3_scrub_28 (by decide) rfl (fun c_28 => ?_) (fun c_28 => ?_)
        · have hx := pc_rng c_12 c_18 (by decide)
          rw [← hkx] at hx
          refine vv_loc (L' := [(0, .ref (Y.2.1 (0))), (1, .int (nI (kx)))]) (by rw [← hx.1]) ?_
          refine vv_aload_n (q := 35) hC dX3_scrub_34 (x := Y.2.1 (0)) rfl rfl ?_
          refine pc_gP (q := 38) hY hC 4 hi_X3 hf_tally (by decide) rfl (v := .ref (Y.2.1 (4))) rfl dX3_scrub_35 rfl ?_
          refine vv_bipush (q := 40) hC (nI 7) dX3_scrub_38 (by decide) rfl ?_
          refine pc_ld_tally (q := 41) hY hC (i := 7) (by omega) dX3_scrub_40 rfl ?_
          refine vv_istore_n (L' := [(0, .ref (Y.2.1 (0))), (1, .int (nI (kx))), (2, .int (σ 4 7))]) (q := 42) hC dX3_scrub_41 (by decide) rfl rfl rfl ?_
          refine vv_iconst (q := 43) hC (nI 0) dX3_scrub_42 (by decide) rfl ?_
          refine vv_istore_n (L' := [(0, .ref (Y.2.1 (0))), (1, .int (nI (kx))), (2, .int (σ 4 7)), (3, .int (nI (0)))]) (q := 44) hC dX3_scrub_43 (by decide) rfl rfl rfl ?_
          have lp_44 : ∀ k : Nat, ∀ τ : vv_S, (k ≤ kx) → (τ 0 9 = nI (pc_z τ) ∧ pc_z τ < 24) → (pc_sl n kx σ = pc_sl n (kx - k) τ) → vv_V Y 4 Z τ 44 [(0, .ref (Y.2.1 (0))), (1, .int (nI (kx))), (2, .int (σ 4 7)), (3, .int (nI (k)))] [] := by
            refine vv_ind (fun k => kx - k) (fun k ih_44 => ?_)
            intro τ hk hz hv
            have hz24 := hz.2
            refine vv_iload_n (q := 45) hC dX3_scrub_44 (x := nI (k)) rfl rfl ?_
            refine vv_iload_n (q := 46) hC dX3_scrub_45 (x := nI (kx)) rfl rfl ?_
            refine vv_icmpN_ge (x := k) (y := kx) (q := 49) (tgt := 82) hC dX3_scrub_46 (by decide) (by omega) (by omega) rfl (fun c_46 => ?_) (fun c_46 => ?_)
            · refine vv_aload_n (q := 83) hC dX3_scrub_82 (x := Y.2.1 (0)) rfl rfl ?_
              refine pc_gP (q := 86) hY hC 4 hi_X3 hf_tally (by decide) rfl (v := .ref (Y.2.1 (4))) rfl dX3_scrub_83 rfl ?_
              refine vv_bipush (q := 88) hC (nI 7) dX3_scrub_86 (by decide) rfl ?_
              refine pc_ld_tally (q := 89) hY hC (i := 7) (by omega) dX3_scrub_88 rfl ?_
              refine vv_iload_n (q := 90) hC dX3_scrub_89 (x := σ 4 7) rfl rfl ?_
              refine vv_isub (x := τ 4 7) (y := σ 4 7) (q := 91) hC dX3_scrub_90 rfl ?_
              refine vv_iret (v := (τ 4 7) - (σ 4 7)) hC dX3_scrub_91 ?_
              rw [hp]
              unfold pc_scrub
              have hw : pc_sl n kx σ = (true, τ) := by rw [hv, show kx - k = 0 by omega]; rfl
              rw [if_pos c_4, if_neg c_12, if_pos c_18, if_pos c_28, ← hkx, if_pos (by rw [hw]), hw]
              exact ⟨rfl, rfl⟩
            · refine vv_aload_n (q := 50) hC dX3_scrub_49 (x := Y.2.1 (0)) rfl rfl ?_
              refine vv_aload_n (q := 51) hC dX3_scrub_50 (x := Y.2.1 (0)) rfl rfl ?_
              refine pc_gP (q := 54) hY hC 9 hi_X3 hf_nextScrub (by decide) rfl (v := .int (τ 0 9)) rfl dX3_scrub_51 rfl ?_
              refine vv_top (y := nI (pc_z τ)) (hz.1) ?_
              refine vv_callV (n := 1) (k := 0) (As := [.int (nI (pc_z τ))]) (st := []) (q := 57) hC (hY.k (by decide)) (hY.P _) (by rw [hY.cl]; rfl) (cm_X3_scrubStripe _ Y n hY τ (pc_z τ) (by omega)) gX3_scrub_X3_scrubStripe rfl (by decide +kernel) dX3_scrub_54 rfl rfl rfl (vv_kR ?_)
              refine vv_ifB_ne (b := (pc_sst τ n (pc_z τ)).1 = true) (q := 60) (tgt := 63) hC dX3_scrub_57 (by decide) rfl (fun c_57 => ?_) (fun c_57 => ?_)
              · refine vv_aload_n (q := 64) hC dX3_scrub_63 (x := Y.2.1 (0)) rfl rfl ?_
                refine vv_aload_n (q := 65) hC dX3_scrub_64 (x := Y.2.1 (0)) rfl rfl ?_
                refine pc_gP (q := 68) hY hC 9 hi_X3 hf_nextScrub (by decide) rfl (v := .int (((pc_sst τ n (pc_z τ)).2) 0 9)) rfl dX3_scrub_65 rfl ?_
                refine vv_top (y := nI (pc_z τ)) (by rw [pc_sst_ok c_57]; exact hz.1) ?_
                refine vv_iconst (q := 69) hC (nI 1) dX3_scrub_68 (by decide) rfl ?_
                refine vv_addN (x := pc_z τ) (y := 1) (q := 70) hC dX3_scrub_69 rfl ?_
                refine vv_bipush (q := 72) hC (nI 24) dX3_scrub_70 (by decide) rfl ?_
                refine vv_remN (x := (pc_z τ) + 1) (y := 24) (q := 73) hC dX3_scrub_72 (by omega) (by omega) (by omega) rfl ?_
                refine pc_pP (q := 76) hY hC 9 hi_X3 hf_nextScrub (by decide) rfl rfl (x := nI (((pc_z τ) + 1) % 24)) (ty := .int) (by decide +kernel) rfl rfl (fun _ => rfl) dX3_scrub_73 rfl ?_
                refine vv_iincN (x := k) (L' := [(0, .ref (Y.2.1 (0))), (1, .int (nI (kx))), (2, .int (σ 4 7)), (3, .int (nI (k + 1)))]) (q := 79) hC dX3_scrub_76 rfl (by decide) rfl rfl rfl ?_
                refine vv_goto (tgt := 44) hC dX3_scrub_79 (by decide) ?_
                exact ih_44 (k + 1) (by first | omega | (dsimp only; omega)) (vv_up ((pc_sst τ n (pc_z τ)).2) 0 9 (nI (((pc_z τ) + 1) % 24))) (by omega) (pc_z_up (Nat.mod_lt _ (by decide))) (by rw [hv, show kx - k = (kx - (k + 1)) + 1 by omega]; exact if_pos c_57)
              · refine vv_bipush (q := 62) hC ((-106)) dX3_scrub_60 (by decide) rfl ?_
                refine vv_iret (v := (-106)) hC dX3_scrub_62 ?_
                rw [hp]
                unfold pc_scrub
                have hw : pc_sl n kx σ = (false, (pc_sst τ n (pc_z τ)).2) := by rw [hv, show kx - k = (kx - (k + 1)) + 1 by omega]; exact if_neg c_57
                rw [if_pos c_4, if_neg c_12, if_pos c_18, if_pos c_28, ← hkx, if_neg (by rw [hw]; exact fun z => by cases z), hw]
                exact ⟨rfl, rfl⟩
          exact lp_44 0 σ (by omega) hz0 rfl
        · refine vv_bipush (q := 33) hC ((-103)) dX3_scrub_31 (by decide) rfl ?_
          refine vv_iret (v := (-103)) hC dX3_scrub_33 ?_
          rw [hp]
          unfold pc_scrub
          rw [if_pos c_4, if_neg c_12, if_pos c_18, if_neg c_28]
          exact ⟨rfl, rfl⟩
      · refine vv_bipush (q := 23) hC ((-102)) dX3_scrub_21 (by decide) rfl ?_
        refine vv_iret (v := (-102)) hC dX3_scrub_23 ?_
        rw [hp]
        unfold pc_scrub
        rw [if_pos c_4, if_neg c_12, if_neg c_18]
        exact ⟨rfl, rfl⟩
  · refine vv_bipush (q := 9) hC ((-100)) dX3_scrub_7 (by decide) rfl ?_
    refine vv_iret (v := (-100)) hC dX3_scrub_9 ?_
    rw [hp]
    unfold pc_scrub
    rw [if_neg c_4]
    exact ⟨rfl, rfl⟩
