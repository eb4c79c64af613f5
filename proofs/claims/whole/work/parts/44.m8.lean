theorem pm_from_le {σ : vv_S} {n r b : Nat} : pm_from σ n r b ≤ 3 := by unfold pm_from; split <;> (try split) <;> (try split) <;> omega
theorem pm_from_up {σ : vv_S} {n r b : Nat} {v : Int32} : pm_from (vv_up σ 0 0 v) n r b = pm_from σ n r b := by
  unfold pm_from
  rw [pm_lat_congr (σ := σ) (τ := vv_up σ 0 0 v) rfl rfl rfl]
  rfl
theorem pm_nw_up {σ : vv_S} {n r s p i : Nat} {v : Int32} : pm_nw (vv_up σ 0 0 v) n r s p i = pm_nw σ n r s p i := by
  unfold pm_nw
  rw [pm_lat_congr (σ := σ) (τ := vv_up σ 0 0 v) rfl rfl rfl]
  rfl
set_option maxRecDepth 100000 in
set_option maxHeartbeats 4000000 in
theorem cm_X4_scrub (l : Launch) (Y : vv_Y) (n : Nat) (hY : pm_sys Y n) (σ : vv_S) (x : Int32) (hJ : pm_J σ) (hz0 : σ 0 21 = nI (σ 0 21).toNatClampNeg ∧ (σ 0 21).toNatClampNeg < 24) : vv_M l Y yX4_scrub wsX4_scrub { frames := 3, cells := 0, slots := 0, locals := 70 } [.ref (Y.2.1 (0)), .int (x)] σ (vv_R (.int ((pm_scrub σ n x).1)) ((pm_scrub σ n x).2)) := by
  refine vv_M.of (cc := cX4_scrub) (maxL := 8) (ret := (some .int)) hY.ok (by decide) rfl (Nat.le_of_ble_eq_true rfl) ?_
  intro Z hl hp hC
  subst hl
  have hi_X4 : ∀ w ∈ u_ws RX4 TX4 25, w ∈ wsX4_scrub := by decide +kernel
  have hf_down : Cond.fieldLink RX4 103 "ParityRowModel" (TX4 18).2.1 (TX4 18).2.2.1 ∈ wsX4_scrub := by decide +kernel
  have hf_scrubAt : Cond.fieldLink RX4 107 "ParityRowModel" (TX4 21).2.1 (TX4 21).2.2.1 ∈ wsX4_scrub := by decide +kernel
  have hf_counts : Cond.fieldLink RX4 60 "ParityRowModel" (TX4 22).2.1 (TX4 22).2.2.1 ∈ wsX4_scrub := by decide +kernel
  have hf_many : Cond.fieldLink RX4 69 "ParityRowModel" (TX4 1).2.1 (TX4 1).2.2.1 ∈ wsX4_scrub := by decide +kernel
  have hlo := hY.lo
  have hhi := hY.hi
  obtain ⟨kx, hkx⟩ : ∃ k, k = x.toNatClampNeg := ⟨_, rfl⟩
  obtain ⟨ts, hts⟩ : ∃ t, t = pm_t σ := ⟨_, rfl⟩
  have hts8 : ts ≤ 8 := by rw [hts]; exact hJ.2.1.2
  refine vv_loc (L' := [(0, .ref (Y.2.1 (0))), (1, .int (x))]) rfl ?_
  refine vv_aload_n (q := 1) hC dX4_scrub_0 (x := Y.2.1 (0)) rfl rfl ?_
  refine pm_gM (q := 4) hY hC 18 hi_X4 hf_down (by decide) rfl (v := .int (σ 0 18)) rfl dX4_scrub_1 rfl ?_
  refine vv_if_eq (x := σ 0 18) (q := 7) (tgt := 10) hC dX4_scrub_4 (by decide) rfl (fun c_4 => ?_) (fun c_4 => ?_)
  · refine vv_iload_n (q := 11) hC dX4_scrub_10 (x := x) rfl rfl ?_
    refine vv_i2l (q := 12) hC (x.toInt64) dX4_scrub_11 rfl rfl ?_
    refine vv_lconst (q := 13) hC (lN 1) dX4_scrub_12 rfl rfl ?_
    refine vv_ldc2 (v := 24) (q := 16) hC (by decide +kernel) dX4_scrub_13 rfl ?_
    refine vv_callS (n := 3) (As := [.long (x.toInt64), .long (lN 1), .long (24)]) (st := []) (q := 19) hC (cm_X4_in _ Y n hY σ x.toInt64 (lN 1) 24 ) gX4_scrub_X4_in rfl (by decide +kernel) dX4_scrub_16 rfl rfl rfl (vv_kR ?_)
    refine vv_top (y := vv_B (¬ x < nI 1 ∧ x ≤ nI 24)) (vv_B_congr (by rw [show (24 : Int64) = lN 24 from rfl, pm_in1 (by omega)])) ?_
    refine vv_ifB_ne (b := ¬ x < nI 1 ∧ x ≤ nI 24) (q := 22) (tgt := 25) hC dX4_scrub_19 (by decide) rfl (fun c_19 => ?_) (fun c_19 => ?_)
    · refine vv_aload_n (q := 26) hC dX4_scrub_25 (x := Y.2.1 (0)) rfl rfl ?_
      refine vv_callV (n := 0) (k := 0) (As := []) (st := []) (q := 29) hC (hY.k (by decide)) (hY.M _) (by rw [hY.cl]; rfl) (cm_X4_notOn _ Y n hY σ  ) gX4_scrub_X4_notOn rfl (by decide +kernel) dX4_scrub_26 rfl rfl rfl (vv_kR ?_)
      refine vv_iconst (q := 30) hC ((-1)) dX4_scrub_29 (by decide) rfl ?_
      refine vv_icmp_eq (x := pm_nt σ n 0) (y := (-1)) (q := 33) (tgt := 36) hC dX4_scrub_30 (by decide) rfl (fun c_30 => ?_) (fun c_30 => ?_)
      · have hx := pc_rng c_19.1 c_19.2 (by decide)
        rw [← hkx] at hx
        refine vv_loc (L' := [(0, .ref (Y.2.1 (0))), (1, .int (nI (kx)))]) (by rw [← hx.1]) ?_
        refine vv_iconst (q := 37) hC (nI 0) dX4_scrub_36 (by decide) rfl ?_
        refine vv_istore_n (L' := [(0, .ref (Y.2.1 (0))), (1, .int (nI (kx))), (2, .int (nI (0)))]) (q := 38) hC dX4_scrub_37 (by decide) rfl rfl rfl ?_
        refine vv_iconst (q := 39) hC (nI 0) dX4_scrub_38 (by decide) rfl ?_
        refine vv_istore_n (L' := [(0, .ref (Y.2.1 (0))), (1, .int (nI (kx))), (2, .int (nI (0))), (3, .int (nI (0)))]) (q := 40) hC dX4_scrub_39 (by decide) rfl rfl rfl ?_
        have lp_40 : ∀ k : Nat, ∀ c : Nat, ∀ τ : vv_S, (k ≤ kx) → (c ≤ k) → (τ 0 20 = nI ts) → (τ 0 21 = nI (τ 0 21).toNatClampNeg ∧ (τ 0 21).toNatClampNeg < 24) → (pm_sl n ts kx 0 σ = pm_sl n ts (kx - k) c τ) → vv_V Y 8 Z τ 40 [(0, .ref (Y.2.1 (0))), (1, .int (nI (kx))), (2, .int (nI (c))), (3, .int (nI (k)))] [] := by
          refine vv_ind (fun k => kx - k) (fun k ih_40 => ?_)
          intro c τ hk hck ht20 hz hv
          obtain ⟨z9, hz9⟩ : ∃ z, z = (τ 0 21).toNatClampNeg := ⟨_, rfl⟩
          have hzz := hz
          rw [← hz9] at hzz
          have hz24 := hzz.2
          refine vv_iload_n (q := 41) hC dX4_scrub_40 (x := nI (k)) rfl rfl ?_
          refine vv_iload_n (q := 42) hC dX4_scrub_41 (x := nI (kx)) rfl rfl ?_
          refine vv_icmpN_ge (x := k) (y := kx) (q := 45) (tgt := 204) hC dX4_scrub_42 (by decide) (by omega) (by omega) rfl (fun c_42 => ?_) (fun c_42 => ?_)
          · refine vv_iload_n (q := 205) hC dX4_scrub_204 (x := nI (c)) rfl rfl ?_
            refine vv_iret (v := nI (c)) hC dX4_scrub_205 ?_
            rw [hp]
            unfold pm_scrub
            have hw : pm_sl n ts kx 0 σ = (true, c, τ) := by rw [hv, show kx - k = 0 by omega]; rfl
            rw [if_pos c_4, if_pos c_19, if_pos c_30, ← hkx, ← hts, if_pos (by rw [hw]), hw]
            exact ⟨rfl, rfl⟩
          · refine vv_aload_n (q := 46) hC dX4_scrub_45 (x := Y.2.1 (0)) rfl rfl ?_
            refine pm_gM (q := 49) hY hC 21 hi_X4 hf_scrubAt (by decide) rfl (v := .int (τ 0 21)) rfl dX4_scrub_46 rfl ?_
            refine vv_top (y := nI (z9)) (hzz.1) ?_
            refine vv_istore (L' := [(0, .ref (Y.2.1 (0))), (1, .int (nI (kx))), (2, .int (nI (c))), (3, .int (nI (k))), (4, .int (nI (z9)))]) (q := 51) hC dX4_scrub_49 (by decide) rfl rfl rfl ?_
            refine vv_aload_n (q := 52) hC dX4_scrub_51 (x := Y.2.1 (0)) rfl rfl ?_
            refine vv_aload_n (q := 53) hC dX4_scrub_52 (x := Y.2.1 (0)) rfl rfl ?_
            refine pm_gM (q := 56) hY hC 21 hi_X4 hf_scrubAt (by decide) rfl (v := .int (τ 0 21)) rfl dX4_scrub_53 rfl ?_
            refine vv_top (y := nI (z9)) (hzz.1) ?_
            refine vv_iconst (q := 57) hC (nI 1) dX4_scrub_56 (by decide) rfl ?_
            refine vv_addN (x := z9) (y := 1) (q := 58) hC dX4_scrub_57 rfl ?_
            refine vv_bipush (q := 60) hC (nI 24) dX4_scrub_58 (by decide) rfl ?_
            refine vv_remN (x := z9 + 1) (y := 24) (q := 61) hC dX4_scrub_60 (by omega) (by omega) (by omega) rfl ?_
            refine pm_pM (q := 64) hY hC 21 hi_X4 hf_scrubAt (by decide) rfl rfl (x := nI ((z9 + 1) % 24)) (ty := .int) (by decide +kernel) rfl rfl (fun _ => rfl) dX4_scrub_61 rfl ?_
            refine vv_aload_n (q := 65) hC dX4_scrub_64 (x := Y.2.1 (0)) rfl rfl ?_
            refine pm_gM (q := 68) hY hC 22 hi_X4 hf_counts (by decide) rfl (v := .ref (Y.2.1 (13))) rfl dX4_scrub_65 rfl ?_
            refine vv_iconst (q := 69) hC (nI 3) dX4_scrub_68 (by decide) rfl ?_
            refine vv_dup2 (q := 70) hC dX4_scrub_69 rfl rfl rfl ?_
            refine pm_ld_counts (q := 71) hY hC (i := 3) (by omega) dX4_scrub_70 rfl ?_
            refine vv_aload_n (q := 72) hC dX4_scrub_71 (x := Y.2.1 (0)) rfl rfl ?_
            refine pm_gM (q := 75) hY hC 1 hi_X4 hf_many (by decide) rfl (v := .int (nI (n))) rfl dX4_scrub_72 rfl ?_
            refine vv_iadd (x := (vv_up τ 0 21 (nI ((z9 + 1) % 24))) 13 3) (y := nI (n)) (q := 76) hC dX4_scrub_75 rfl ?_
            refine pm_st_counts (q := 77) hY hC (i := 3) (x := ((vv_up τ 0 21 (nI ((z9 + 1) % 24))) 13 3) + (nI (n))) (by omega) dX4_scrub_76 rfl ?_
            refine vv_st (σ' := pm_s0 τ n z9) (rfl) ?_
            refine vv_iconst (q := 78) hC (nI 0) dX4_scrub_77 (by decide) rfl ?_
            refine vv_istore (L' := [(0, .ref (Y.2.1 (0))), (1, .int (nI (kx))), (2, .int (nI (c))), (3, .int (nI (k))), (4, .int (nI (z9))), (5, .int (nI (0)))]) (q := 80) hC dX4_scrub_78 (by decide) rfl rfl rfl ?_
            refine vv_iconst (q := 81) hC ((-1)) dX4_scrub_80 (by decide) rfl ?_
            refine vv_istore (L' := [(0, .ref (Y.2.1 (0))), (1, .int (nI (kx))), (2, .int (nI (c))), (3, .int (nI (k))), (4, .int (nI (z9))), (5, .int (nI (0))), (6, .int ((-1)))]) (q := 83) hC dX4_scrub_81 (by decide) rfl rfl rfl ?_
            refine vv_iconst (q := 84) hC (nI 0) dX4_scrub_83 (by decide) rfl ?_
            refine vv_istore (L' := [(0, .ref (Y.2.1 (0))), (1, .int (nI (kx))), (2, .int (nI (c))), (3, .int (nI (k))), (4, .int (nI (z9))), (5, .int (nI (0))), (6, .int ((-1))), (7, .int (nI (0)))]) (q := 86) hC dX4_scrub_84 (by decide) rfl rfl rfl ?_
            have lp_86 : ∀ m : Nat, (m ≤ n) → vv_V Y 8 Z (pm_s0 τ n z9) 86 [(0, .ref (Y.2.1 (0))), (1, .int (nI (kx))), (2, .int (nI (c))), (3, .int (nI (k))), (4, .int (nI (z9))), (5, .int (nI (pm_mi (pm_s0 τ n z9) z9 m))), (6, .int (pm_wh (pm_s0 τ n z9) z9 m)), (7, .int (nI (m)))] [] := by
              refine vv_ind (fun m => n - m) (fun m ih_86 => ?_)
              intro hm
              have hmi0 := pm_mi_le (σ := pm_s0 τ n z9) (s := z9) (m := m)
              refine vv_iload (q := 88) hC dX4_scrub_86 (x := nI (m)) rfl rfl ?_
              refine vv_aload_n (q := 89) hC dX4_scrub_88 (x := Y.2.1 (0)) rfl rfl ?_
              refine pm_gM (q := 92) hY hC 1 hi_X4 hf_many (by decide) rfl (v := .int (nI (n))) rfl dX4_scrub_89 rfl ?_
              refine vv_icmpN_ge (x := m) (y := n) (q := 95) (tgt := 119) hC dX4_scrub_92 (by decide) (by omega) (by omega) rfl (fun c_92 => ?_) (fun c_92 => ?_)
              · have em : m = n := by omega
                have hmi := pm_mi_le (σ := pm_s0 τ n z9) (s := z9) (m := n)
                obtain ⟨w9, hsw9⟩ : ∃ w, w = pm_sw (pm_s0 τ n z9) n z9 := ⟨_, rfl⟩
                refine vv_loc (L' := [(0, .ref (Y.2.1 (0))), (1, .int (nI (kx))), (2, .int (nI (c))), (3, .int (nI (k))), (4, .int (nI (z9))), (5, .int (nI (pm_mi (pm_s0 τ n z9) z9 n))), (6, .int (pm_wh (pm_s0 τ n z9) z9 n)), (7, .int (nI (n)))]) (by rw [em]) ?_
                refine vv_iload (q := 121) hC dX4_scrub_119 (x := nI (pm_mi (pm_s0 τ n z9) z9 n)) rfl rfl ?_
                refine vv_if_ne (x := nI (pm_mi (pm_s0 τ n z9) z9 n)) (q := 124) (tgt := 142) hC dX4_scrub_121 (by decide) rfl (fun c_121 => ?_) (fun c_121 => ?_)
                · refine vv_iload (q := 144) hC dX4_scrub_142 (x := nI (pm_mi (pm_s0 τ n z9) z9 n)) rfl rfl ?_
                  refine vv_iconst (q := 145) hC (nI 1) dX4_scrub_144 (by decide) rfl ?_
                  refine vv_icmpN_ne (x := pm_mi (pm_s0 τ n z9) z9 n) (y := 1) (q := 148) (tgt := 153) hC dX4_scrub_145 (by decide) (by omega) (by omega) rfl (fun c_145 => ?_) (fun c_145 => ?_)
                  · refine vv_iconst (q := 154) hC ((-1)) dX4_scrub_153 (by decide) rfl ?_
                    refine vv_top (y := w9) (by rw [hsw9]; unfold pm_sw; rw [if_neg (fun z => c_121 (by rw [z.1]; rfl)), if_neg c_145]) ?_
                    refine vv_istore (L' := [(0, .ref (Y.2.1 (0))), (1, .int (nI (kx))), (2, .int (nI (c))), (3, .int (nI (k))), (4, .int (nI (z9))), (5, .int (nI (pm_mi (pm_s0 τ n z9) z9 n))), (6, .int (w9)), (7, .int (nI (n)))]) (q := 156) hC dX4_scrub_154 (by decide) rfl rfl rfl ?_
                    refine vv_iload (q := 158) hC dX4_scrub_156 (x := w9) rfl rfl ?_
                    refine vv_iconst (q := 159) hC ((-1)) dX4_scrub_158 (by decide) rfl ?_
                    refine vv_icmp_eq (x := w9) (y := (-1)) (q := 162) (tgt := 198) hC dX4_scrub_159 (by decide) rfl (fun c_159 => ?_) (fun c_159 => ?_)
                    · refine vv_st (σ' := pm_s0 τ n z9) (rfl) ?_
                      refine vv_iincN (x := k) (L' := [(0, .ref (Y.2.1 (0))), (1, .int (nI (kx))), (2, .int (nI (c))), (3, .int (nI (k + 1))), (4, .int (nI (z9))), (5, .int (nI (pm_mi (pm_s0 τ n z9) z9 n))), (6, .int (w9)), (7, .int (nI (n)))]) (q := 201) hC dX4_scrub_198 rfl (by decide) rfl rfl rfl ?_
                      refine vv_goto (tgt := 40) hC dX4_scrub_201 (by decide) ?_
                      refine vv_sub (L' := [(0, .ref (Y.2.1 (0))), (1, .int (nI (kx))), (2, .int (nI (c))), (3, .int (nI (k + 1)))]) (by simp) ?_
                      refine vv_st (σ' := (pm_s0 τ n z9)) (rfl) ?_
                      exact ih_40 (k + 1) (by first | omega | (dsimp only; omega)) c (pm_s0 τ n z9) (by omega) (by omega) (show τ 0 20 = nI ts from ht20) (pm_s0_21 hz24) (by rw [hv, show kx - k = (kx - (k + 1)) + 1 by omega]; show (if pm_sw (pm_s0 τ n (τ 0 21).toNatClampNeg) n (τ 0 21).toNatClampNeg = -1 then _ else _) = _; rw [← hz9, ← hsw9, if_pos c_159])
                    · obtain ⟨k9, hk9n, hk9⟩ : ∃ k, k < n ∧ w9 = nI k := by rw [hsw9] at c_159 ⊢; exact pm_sw_nat hlo hhi c_159
                      refine vv_loc (L' := [(0, .ref (Y.2.1 (0))), (1, .int (nI (kx))), (2, .int (nI (c))), (3, .int (nI (k))), (4, .int (nI (z9))), (5, .int (nI (pm_mi (pm_s0 τ n z9) z9 n))), (6, .int (nI (k9))), (7, .int (nI (n)))]) (by rw [hk9]) ?_
                      refine vv_aload_n (q := 163) hC dX4_scrub_162 (x := Y.2.1 (0)) rfl rfl ?_
                      refine vv_iload (q := 165) hC dX4_scrub_163 (x := nI (k9)) rfl rfl ?_
                      refine vv_iload (q := 167) hC dX4_scrub_165 (x := nI (z9)) rfl rfl ?_
                      refine vv_callV (n := 2) (k := 0) (As := [.int (nI (k9)), .int (nI (z9))]) (st := []) (q := 170) hC (hY.k (by decide)) (hY.M _) (by rw [hY.cl]; rfl) (cm_X4_freshIsOthers _ Y n hY (pm_s0 τ n z9) (nI (k9)) z9 (by omega)) gX4_scrub_X4_freshIsOthers rfl (by decide +kernel) dX4_scrub_167 rfl rfl rfl (vv_kRv ?_)
                      refine vv_aload_n (q := 171) hC dX4_scrub_170 (x := Y.2.1 (0)) rfl rfl ?_
                      refine vv_iload (q := 173) hC dX4_scrub_171 (x := nI (k9)) rfl rfl ?_
                      refine vv_iload (q := 175) hC dX4_scrub_173 (x := nI (z9)) rfl rfl ?_
                      refine vv_callV (n := 2) (k := 0) (As := [.int (nI (k9)), .int (nI (z9))]) (st := []) (q := 178) hC (hY.k (by decide)) (hY.M _) (by rw [hY.cl]; rfl) (cm_X4_chunkIs _ Y n hY (pm_fo (pm_s0 τ n z9) n (nI (k9)) z9) k9 z9 ts (by omega) (by omega) ht20 hts8) gX4_scrub_X4_chunkIs rfl (by decide +kernel) dX4_scrub_175 rfl rfl rfl (vv_kR ?_)
                      refine vv_ifB_ne (b := ¬ (pm_fo (pm_s0 τ n z9) n (nI (k9)) z9) 0 19 = 0) (q := 181) (tgt := 184) hC dX4_scrub_178 (by decide) rfl (fun c_178 => ?_) (fun c_178 => ?_)
                      · refine vv_iincN (x := c) (L' := [(0, .ref (Y.2.1 (0))), (1, .int (nI (kx))), (2, .int (nI (c + 1))), (3, .int (nI (k))), (4, .int (nI (z9))), (5, .int (nI (pm_mi (pm_s0 τ n z9) z9 n))), (6, .int (nI (k9))), (7, .int (nI (n)))]) (q := 187) hC dX4_scrub_184 rfl (by decide) rfl rfl rfl ?_
                        have hs1 : pm_s1 τ n z9 ts = pm_ch (pm_fo (pm_s0 τ n z9) n (nI k9) z9) n k9 z9 ts := by unfold pm_s1; rw [← hsw9, hk9, nI_clamp (by omega)]
                        refine vv_st (σ' := pm_s1 τ n z9 ts) (hs1.symm) ?_
                        refine vv_aload_n (q := 188) hC dX4_scrub_187 (x := Y.2.1 (0)) rfl rfl ?_
                        refine pm_gM (q := 191) hY hC 22 hi_X4 hf_counts (by decide) rfl (v := .ref (Y.2.1 (13))) rfl dX4_scrub_188 rfl ?_
                        refine vv_bipush (q := 193) hC (nI 7) dX4_scrub_191 (by decide) rfl ?_
                        refine vv_dup2 (q := 194) hC dX4_scrub_193 rfl rfl rfl ?_
                        refine pm_ld_counts (q := 195) hY hC (i := 7) (by omega) dX4_scrub_194 rfl ?_
                        refine vv_iconst (q := 196) hC (nI 1) dX4_scrub_195 (by decide) rfl ?_
                        refine vv_iadd (x := (pm_s1 τ n z9 ts) 13 7) (y := nI (1)) (q := 197) hC dX4_scrub_196 rfl ?_
                        refine pm_st_counts (q := 198) hY hC (i := 7) (x := ((pm_s1 τ n z9 ts) 13 7) + (nI (1))) (by omega) dX4_scrub_197 rfl ?_
                        refine vv_st (σ' := pm_tl (pm_s1 τ n z9 ts) 7) (rfl) ?_
                        refine vv_iincN (x := k) (L' := [(0, .ref (Y.2.1 (0))), (1, .int (nI (kx))), (2, .int (nI (c + 1))), (3, .int (nI (k + 1))), (4, .int (nI (z9))), (5, .int (nI (pm_mi (pm_s0 τ n z9) z9 n))), (6, .int (nI (k9))), (7, .int (nI (n)))]) (q := 201) hC dX4_scrub_198 rfl (by decide) rfl rfl rfl ?_
                        refine vv_goto (tgt := 40) hC dX4_scrub_201 (by decide) ?_
                        refine vv_sub (L' := [(0, .ref (Y.2.1 (0))), (1, .int (nI (kx))), (2, .int (nI (c + 1))), (3, .int (nI (k + 1)))]) (by simp) ?_
                        refine vv_st (σ' := (pm_tl (pm_s1 τ n z9 ts) 7)) (rfl) ?_
                        exact ih_40 (k + 1) (by first | omega | (dsimp only; omega)) (c + 1) (pm_tl (pm_s1 τ n z9 ts) 7) (by omega) (by omega) (by rw [pm_tl_o (by decide), hs1, pm_ch_f (by decide) (by decide) (by decide)]; exact ht20) (by rw [pm_tl_o (by decide), hs1, pm_ch_21 c_178 (by decide)]; exact pm_s0_21 (τ := τ) (n := n) hz24) (by rw [hv, show kx - k = (kx - (k + 1)) + 1 by omega]; show (if pm_sw (pm_s0 τ n (τ 0 21).toNatClampNeg) n (τ 0 21).toNatClampNeg = -1 then _ else _) = _; rw [← hz9, ← hsw9, if_neg c_159, if_neg (show ¬ τ 0 19 = 0 from c_178)])
                      · refine vv_bipush (q := 183) hC ((-106)) dX4_scrub_181 (by decide) rfl ?_
                        refine vv_iret (v := (-106)) hC dX4_scrub_183 ?_
                        rw [hp]
                        unfold pm_scrub
                        have hw : pm_sl n ts kx 0 σ = (false, c, pm_s1 τ n z9 ts) := by
                          rw [hv, show kx - k = (kx - (k + 1)) + 1 by omega]
                          show (if pm_sw (pm_s0 τ n (τ 0 21).toNatClampNeg) n (τ 0 21).toNatClampNeg = -1 then _ else _) = _
                          rw [← hz9, ← hsw9, if_neg c_159, if_pos (show τ 0 19 = 0 from Decidable.of_not_not c_178)]
                        rw [if_pos c_4, if_pos c_19, if_pos c_30, ← hkx, ← hts, if_neg (by rw [hw]; exact fun z => by cases z), hw]
                        exact ⟨rfl, by unfold pm_s1; rw [← hsw9, hk9, nI_clamp (by omega)]⟩
                  · refine vv_iload (q := 150) hC dX4_scrub_148 (x := pm_wh (pm_s0 τ n z9) z9 n) rfl rfl ?_
                    refine vv_goto (tgt := 154) hC dX4_scrub_150 (by decide) ?_
                    refine vv_top (y := w9) (by rw [hsw9]; unfold pm_sw; rw [if_neg (fun z => c_121 (by rw [z.1]; rfl)), if_pos c_145]) ?_
                    refine vv_istore (L' := [(0, .ref (Y.2.1 (0))), (1, .int (nI (kx))), (2, .int (nI (c))), (3, .int (nI (k))), (4, .int (nI (z9))), (5, .int (nI (pm_mi (pm_s0 τ n z9) z9 n))), (6, .int (w9)), (7, .int (nI (n)))]) (q := 156) hC dX4_scrub_154 (by decide) rfl rfl rfl ?_
                    refine vv_iload (q := 158) hC dX4_scrub_156 (x := w9) rfl rfl ?_
                    refine vv_iconst (q := 159) hC ((-1)) dX4_scrub_158 (by decide) rfl ?_
                    refine vv_icmp_eq (x := w9) (y := (-1)) (q := 162) (tgt := 198) hC dX4_scrub_159 (by decide) rfl (fun c_159 => ?_) (fun c_159 => ?_)
                    · refine vv_st (σ' := pm_s0 τ n z9) (rfl) ?_
                      refine vv_iincN (x := k) (L' := [(0, .ref (Y.2.1 (0))), (1, .int (nI (kx))), (2, .int (nI (c))), (3, .int (nI (k + 1))), (4, .int (nI (z9))), (5, .int (nI (pm_mi (pm_s0 τ n z9) z9 n))), (6, .int (w9)), (7, .int (nI (n)))]) (q := 201) hC dX4_scrub_198 rfl (by decide) rfl rfl rfl ?_
                      refine vv_goto (tgt := 40) hC dX4_scrub_201 (by decide) ?_
                      refine vv_sub (L' := [(0, .ref (Y.2.1 (0))), (1, .int (nI (kx))), (2, .int (nI (c))), (3, .int (nI (k + 1)))]) (by simp) ?_
                      refine vv_st (σ' := (pm_s0 τ n z9)) (rfl) ?_
                      exact ih_40 (k + 1) (by first | omega | (dsimp only; omega)) c (pm_s0 τ n z9) (by omega) (by omega) (show τ 0 20 = nI ts from ht20) (pm_s0_21 hz24) (by rw [hv, show kx - k = (kx - (k + 1)) + 1 by omega]; show (if pm_sw (pm_s0 τ n (τ 0 21).toNatClampNeg) n (τ 0 21).toNatClampNeg = -1 then _ else _) = _; rw [← hz9, ← hsw9, if_pos c_159])
                    · obtain ⟨k9, hk9n, hk9⟩ : ∃ k, k < n ∧ w9 = nI k := by rw [hsw9] at c_159 ⊢; exact pm_sw_nat hlo hhi c_159
                      refine vv_loc (L' := [(0, .ref (Y.2.1 (0))), (1, .int (nI (kx))), (2, .int (nI (c))), (3, .int (nI (k))), (4, .int (nI (z9))), (5, .int (nI (pm_mi (pm_s0 τ n z9) z9 n))), (6, .int (nI (k9))), (7, .int (nI (n)))]) (by rw [hk9]) ?_
                      refine vv_aload_n (q := 163) hC dX4_scrub_162 (x := Y.2.1 (0)) rfl rfl ?_
                      refine vv_iload (q := 165) hC dX4_scrub_163 (x := nI (k9)) rfl rfl ?_
                      refine vv_iload (q := 167) hC dX4_scrub_165 (x := nI (z9)) rfl rfl ?_
                      refine vv_callV (n := 2) (k := 0) (As := [.int (nI (k9)), .int (nI (z9))]) (st := []) (q := 170) hC (hY.k (by decide)) (hY.M _) (by rw [hY.cl]; rfl) (cm_X4_freshIsOthers _ Y n hY (pm_s0 τ n z9) (nI (k9)) z9 (by omega)) gX4_scrub_X4_freshIsOthers rfl (by decide +kernel) dX4_scrub_167 rfl rfl rfl (vv_kRv ?_)
                      refine vv_aload_n (q := 171) hC dX4_scrub_170 (x := Y.2.1 (0)) rfl rfl ?_
                      refine vv_iload (q := 173) hC dX4_scrub_171 (x := nI (k9)) rfl rfl ?_
                      refine vv_iload (q := 175) hC dX4_scrub_173 (x := nI (z9)) rfl rfl ?_
                      refine vv_callV (n := 2) (k := 0) (As := [.int (nI (k9)), .int (nI (z9))]) (st := []) (q := 178) hC (hY.k (by decide)) (hY.M _) (by rw [hY.cl]; rfl) (cm_X4_chunkIs _ Y n hY (pm_fo (pm_s0 τ n z9) n (nI (k9)) z9) k9 z9 ts (by omega) (by omega) ht20 hts8) gX4_scrub_X4_chunkIs rfl (by decide +kernel) dX4_scrub_175 rfl rfl rfl (vv_kR ?_)
                      refine vv_ifB_ne (b := ¬ (pm_fo (pm_s0 τ n z9) n (nI (k9)) z9) 0 19 = 0) (q := 181) (tgt := 184) hC dX4_scrub_178 (by decide) rfl (fun c_178 => ?_) (fun c_178 => ?_)
                      · refine vv_iincN (x := c) (L' := [(0, .ref (Y.2.1 (0))), (1, .int (nI (kx))), (2, .int (nI (c + 1))), (3, .int (nI (k))), (4, .int (nI (z9))), (5, .int (nI (pm_mi (pm_s0 τ n z9) z9 n))), (6, .int (nI (k9))), (7, .int (nI (n)))]) (q := 187) hC dX4_scrub_184 rfl (by decide) rfl rfl rfl ?_
                        have hs1 : pm_s1 τ n z9 ts = pm_ch (pm_fo (pm_s0 τ n z9) n (nI k9) z9) n k9 z9 ts := by unfold pm_s1; rw [← hsw9, hk9, nI_clamp (by omega)]
                        refine vv_st (σ' := pm_s1 τ n z9 ts) (hs1.symm) ?_
                        refine vv_aload_n (q := 188) hC dX4_scrub_187 (x := Y.2.1 (0)) rfl rfl ?_
                        refine pm_gM (q := 191) hY hC 22 hi_X4 hf_counts (by decide) rfl (v := .ref (Y.2.1 (13))) rfl dX4_scrub_188 rfl ?_
                        refine vv_bipush (q := 193) hC (nI 7) dX4_scrub_191 (by decide) rfl ?_
                        refine vv_dup2 (q := 194) hC dX4_scrub_193 rfl rfl rfl ?_
                        refine pm_ld_counts (q := 195) hY hC (i := 7) (by omega) dX4_scrub_194 rfl ?_
                        refine vv_iconst (q := 196) hC (nI 1) dX4_scrub_195 (by decide) rfl ?_
                        refine vv_iadd (x := (pm_s1 τ n z9 ts) 13 7) (y := nI (1)) (q := 197) hC dX4_scrub_196 rfl ?_
                        refine pm_st_counts (q := 198) hY hC (i := 7) (x := ((pm_s1 τ n z9 ts) 13 7) + (nI (1))) (by omega) dX4_scrub_197 rfl ?_
                        refine vv_st (σ' := pm_tl (pm_s1 τ n z9 ts) 7) (rfl) ?_
                        refine vv_iincN (x := k) (L' := [(0, .ref (Y.2.1 (0))), (1, .int (nI (kx))), (2, .int (nI (c + 1))), (3, .int (nI (k + 1))), (4, .int (nI (z9))), (5, .int (nI (pm_mi (pm_s0 τ n z9) z9 n))), (6, .int (nI (k9))), (7, .int (nI (n)))]) (q := 201) hC dX4_scrub_198 rfl (by decide) rfl rfl rfl ?_
                        refine vv_goto (tgt := 40) hC dX4_scrub_201 (by decide) ?_
                        refine vv_sub (L' := [(0, .ref (Y.2.1 (0))), (1, .int (nI (kx))), (2, .int (nI (c + 1))), (3, .int (nI (k + 1)))]) (by simp) ?_
                        refine vv_st (σ' := (pm_tl (pm_s1 τ n z9 ts) 7)) (rfl) ?_
                        exact ih_40 (k + 1) (by first | omega | (dsimp only; omega)) (c + 1) (pm_tl (pm_s1 τ n z9 ts) 7) (by omega) (by omega) (by rw [pm_tl_o (by decide), hs1, pm_ch_f (by decide) (by decide) (by decide)]; exact ht20) (by rw [pm_tl_o (by decide), hs1, pm_ch_21 c_178 (by decide)]; exact pm_s0_21 (τ := τ) (n := n) hz24) (by rw [hv, show kx - k = (kx - (k + 1)) + 1 by omega]; show (if pm_sw (pm_s0 τ n (τ 0 21).toNatClampNeg) n (τ 0 21).toNatClampNeg = -1 then _ else _) = _; rw [← hz9, ← hsw9, if_neg c_159, if_neg (show ¬ τ 0 19 = 0 from c_178)])
                      · refine vv_bipush (q := 183) hC ((-106)) dX4_scrub_181 (by decide) rfl ?_
                        refine vv_iret (v := (-106)) hC dX4_scrub_183 ?_
                        rw [hp]
                        unfold pm_scrub
                        have hw : pm_sl n ts kx 0 σ = (false, c, pm_s1 τ n z9 ts) := by
                          rw [hv, show kx - k = (kx - (k + 1)) + 1 by omega]
                          show (if pm_sw (pm_s0 τ n (τ 0 21).toNatClampNeg) n (τ 0 21).toNatClampNeg = -1 then _ else _) = _
                          rw [← hz9, ← hsw9, if_neg c_159, if_pos (show τ 0 19 = 0 from Decidable.of_not_not c_178)]
                        rw [if_pos c_4, if_pos c_19, if_pos c_30, ← hkx, ← hts, if_neg (by rw [hw]; exact fun z => by cases z), hw]
                        exact ⟨rfl, by unfold pm_s1; rw [← hsw9, hk9, nI_clamp (by omega)]⟩
                · refine vv_aload_n (q := 125) hC dX4_scrub_124 (x := Y.2.1 (0)) rfl rfl ?_
                  refine vv_iload (q := 127) hC dX4_scrub_125 (x := nI (z9)) rfl rfl ?_
                  refine vv_callV (n := 1) (k := 0) (As := [.int (nI (z9))]) (st := []) (q := 130) hC (hY.k (by decide)) (hY.M _) (by rw [hY.cl]; rfl) (cm_X4_isEven _ Y n hY (pm_s0 τ n z9) z9 (by omega)) gX4_scrub_X4_isEven rfl (by decide +kernel) dX4_scrub_127 rfl rfl rfl (vv_kR ?_)
                  refine vv_ifB_ne (b := pm_ev (pm_s0 τ n z9) n z9) (q := 133) (tgt := 142) hC dX4_scrub_130 (by decide) rfl (fun c_130 => ?_) (fun c_130 => ?_)
                  · refine vv_iload (q := 144) hC dX4_scrub_142 (x := nI (pm_mi (pm_s0 τ n z9) z9 n)) rfl rfl ?_
                    refine vv_iconst (q := 145) hC (nI 1) dX4_scrub_144 (by decide) rfl ?_
                    refine vv_icmpN_ne (x := pm_mi (pm_s0 τ n z9) z9 n) (y := 1) (q := 148) (tgt := 153) hC dX4_scrub_145 (by decide) (by omega) (by omega) rfl (fun c_145 => ?_) (fun c_145 => absurd ((nI_eq (b := 0) (by omega) (by decide)).mp c_121) (by rw [c_145]; decide))
                    refine vv_iconst (q := 154) hC ((-1)) dX4_scrub_153 (by decide) rfl ?_
                    refine vv_top (y := w9) (by rw [hsw9]; unfold pm_sw; rw [if_neg (fun z => z.2 c_130), if_neg c_145]) ?_
                    refine vv_istore (L' := [(0, .ref (Y.2.1 (0))), (1, .int (nI (kx))), (2, .int (nI (c))), (3, .int (nI (k))), (4, .int (nI (z9))), (5, .int (nI (pm_mi (pm_s0 τ n z9) z9 n))), (6, .int (w9)), (7, .int (nI (n)))]) (q := 156) hC dX4_scrub_154 (by decide) rfl rfl rfl ?_
                    refine vv_iload (q := 158) hC dX4_scrub_156 (x := w9) rfl rfl ?_
                    refine vv_iconst (q := 159) hC ((-1)) dX4_scrub_158 (by decide) rfl ?_
                    refine vv_icmp_eq (x := w9) (y := (-1)) (q := 162) (tgt := 198) hC dX4_scrub_159 (by decide) rfl (fun c_159 => ?_) (fun c_159 => ?_)
                    · refine vv_st (σ' := pm_s0 τ n z9) (rfl) ?_
                      refine vv_iincN (x := k) (L' := [(0, .ref (Y.2.1 (0))), (1, .int (nI (kx))), (2, .int (nI (c))), (3, .int (nI (k + 1))), (4, .int (nI (z9))), (5, .int (nI (pm_mi (pm_s0 τ n z9) z9 n))), (6, .int (w9)), (7, .int (nI (n)))]) (q := 201) hC dX4_scrub_198 rfl (by decide) rfl rfl rfl ?_
                      refine vv_goto (tgt := 40) hC dX4_scrub_201 (by decide) ?_
                      refine vv_sub (L' := [(0, .ref (Y.2.1 (0))), (1, .int (nI (kx))), (2, .int (nI (c))), (3, .int (nI (k + 1)))]) (by simp) ?_
                      refine vv_st (σ' := (pm_s0 τ n z9)) (rfl) ?_
                      exact ih_40 (k + 1) (by first | omega | (dsimp only; omega)) c (pm_s0 τ n z9) (by omega) (by omega) (show τ 0 20 = nI ts from ht20) (pm_s0_21 hz24) (by rw [hv, show kx - k = (kx - (k + 1)) + 1 by omega]; show (if pm_sw (pm_s0 τ n (τ 0 21).toNatClampNeg) n (τ 0 21).toNatClampNeg = -1 then _ else _) = _; rw [← hz9, ← hsw9, if_pos c_159])
                    · obtain ⟨k9, hk9n, hk9⟩ : ∃ k, k < n ∧ w9 = nI k := by rw [hsw9] at c_159 ⊢; exact pm_sw_nat hlo hhi c_159
                      refine vv_loc (L' := [(0, .ref (Y.2.1 (0))), (1, .int (nI (kx))), (2, .int (nI (c))), (3, .int (nI (k))), (4, .int (nI (z9))), (5, .int (nI (pm_mi (pm_s0 τ n z9) z9 n))), (6, .int (nI (k9))), (7, .int (nI (n)))]) (by rw [hk9]) ?_
                      refine vv_aload_n (q := 163) hC dX4_scrub_162 (x := Y.2.1 (0)) rfl rfl ?_
                      refine vv_iload (q := 165) hC dX4_scrub_163 (x := nI (k9)) rfl rfl ?_
                      refine vv_iload (q := 167) hC dX4_scrub_165 (x := nI (z9)) rfl rfl ?_
                      refine vv_callV (n := 2) (k := 0) (As := [.int (nI (k9)), .int (nI (z9))]) (st := []) (q := 170) hC (hY.k (by decide)) (hY.M _) (by rw [hY.cl]; rfl) (cm_X4_freshIsOthers _ Y n hY ((pm_s0 τ n z9)) (nI (k9)) z9 (by omega)) gX4_scrub_X4_freshIsOthers rfl (by decide +kernel) dX4_scrub_167 rfl rfl rfl (vv_kRv ?_)
                      refine vv_aload_n (q := 171) hC dX4_scrub_170 (x := Y.2.1 (0)) rfl rfl ?_
                      refine vv_iload (q := 173) hC dX4_scrub_171 (x := nI (k9)) rfl rfl ?_
                      refine vv_iload (q := 175) hC dX4_scrub_173 (x := nI (z9)) rfl rfl ?_
                      refine vv_callV (n := 2) (k := 0) (As := [.int (nI (k9)), .int (nI (z9))]) (st := []) (q := 178) hC (hY.k (by decide)) (hY.M _) (by rw [hY.cl]; rfl) (cm_X4_chunkIs _ Y n hY (pm_fo ((pm_s0 τ n z9)) n (nI (k9)) z9) k9 z9 ts (by omega) (by omega) ht20 hts8) gX4_scrub_X4_chunkIs rfl (by decide +kernel) dX4_scrub_175 rfl rfl rfl (vv_kR ?_)
                      refine vv_ifB_ne (b := ¬ (pm_fo ((pm_s0 τ n z9)) n (nI (k9)) z9) 0 19 = 0) (q := 181) (tgt := 184) hC dX4_scrub_178 (by decide) rfl (fun c_178 => ?_) (fun c_178 => ?_)
                      · refine vv_iincN (x := c) (L' := [(0, .ref (Y.2.1 (0))), (1, .int (nI (kx))), (2, .int (nI (c + 1))), (3, .int (nI (k))), (4, .int (nI (z9))), (5, .int (nI (pm_mi (pm_s0 τ n z9) z9 n))), (6, .int (nI (k9))), (7, .int (nI (n)))]) (q := 187) hC dX4_scrub_184 rfl (by decide) rfl rfl rfl ?_
                        have hs1 : pm_s1 τ n z9 ts = pm_ch (pm_fo (pm_s0 τ n z9) n (nI k9) z9) n k9 z9 ts := by unfold pm_s1; rw [← hsw9, hk9, nI_clamp (by omega)]
                        refine vv_st (σ' := pm_s1 τ n z9 ts) (hs1.symm) ?_
                        refine vv_aload_n (q := 188) hC dX4_scrub_187 (x := Y.2.1 (0)) rfl rfl ?_
                        refine pm_gM (q := 191) hY hC 22 hi_X4 hf_counts (by decide) rfl (v := .ref (Y.2.1 (13))) rfl dX4_scrub_188 rfl ?_
                        refine vv_bipush (q := 193) hC (nI 7) dX4_scrub_191 (by decide) rfl ?_
                        refine vv_dup2 (q := 194) hC dX4_scrub_193 rfl rfl rfl ?_
                        refine pm_ld_counts (q := 195) hY hC (i := 7) (by omega) dX4_scrub_194 rfl ?_
                        refine vv_iconst (q := 196) hC (nI 1) dX4_scrub_195 (by decide) rfl ?_
                        refine vv_iadd (x := (pm_s1 τ n z9 ts) 13 7) (y := nI (1)) (q := 197) hC dX4_scrub_196 rfl ?_
                        refine pm_st_counts (q := 198) hY hC (i := 7) (x := ((pm_s1 τ n z9 ts) 13 7) + (nI (1))) (by omega) dX4_scrub_197 rfl ?_
                        refine vv_st (σ' := pm_tl (pm_s1 τ n z9 ts) 7) (rfl) ?_
                        refine vv_iincN (x := k) (L' := [(0, .ref (Y.2.1 (0))), (1, .int (nI (kx))), (2, .int (nI (c + 1))), (3, .int (nI (k + 1))), (4, .int (nI (z9))), (5, .int (nI (pm_mi (pm_s0 τ n z9) z9 n))), (6, .int (nI (k9))), (7, .int (nI (n)))]) (q := 201) hC dX4_scrub_198 rfl (by decide) rfl rfl rfl ?_
                        refine vv_goto (tgt := 40) hC dX4_scrub_201 (by decide) ?_
                        refine vv_sub (L' := [(0, .ref (Y.2.1 (0))), (1, .int (nI (kx))), (2, .int (nI (c + 1))), (3, .int (nI (k + 1)))]) (by simp) ?_
                        refine vv_st (σ' := (pm_tl (pm_s1 τ n z9 ts) 7)) (rfl) ?_
                        exact ih_40 (k + 1) (by first | omega | (dsimp only; omega)) (c + 1) (pm_tl (pm_s1 τ n z9 ts) 7) (by omega) (by omega) (by rw [pm_tl_o (by decide), hs1, pm_ch_f (by decide) (by decide) (by decide)]; exact ht20) (by rw [pm_tl_o (by decide), hs1, pm_ch_21 c_178 (by decide)]; exact pm_s0_21 (τ := τ) (n := n) hz24) (by rw [hv, show kx - k = (kx - (k + 1)) + 1 by omega]; show (if pm_sw (pm_s0 τ n (τ 0 21).toNatClampNeg) n (τ 0 21).toNatClampNeg = -1 then _ else _) = _; rw [← hz9, ← hsw9, if_neg c_159, if_neg (show ¬ τ 0 19 = 0 from c_178)])
                      · refine vv_bipush (q := 183) hC ((-106)) dX4_scrub_181 (by decide) rfl ?_
                        refine vv_iret (v := (-106)) hC dX4_scrub_183 ?_
                        rw [hp]
                        unfold pm_scrub
                        have hw : pm_sl n ts kx 0 σ = (false, c, pm_s1 τ n z9 ts) := by
                          rw [hv, show kx - k = (kx - (k + 1)) + 1 by omega]
                          show (if pm_sw (pm_s0 τ n (τ 0 21).toNatClampNeg) n (τ 0 21).toNatClampNeg = -1 then _ else _) = _
                          rw [← hz9, ← hsw9, if_neg c_159, if_pos (show τ 0 19 = 0 from Decidable.of_not_not c_178)]
                        rw [if_pos c_4, if_pos c_19, if_pos c_30, ← hkx, ← hts, if_neg (by rw [hw]; exact fun z => by cases z), hw]
                        exact ⟨rfl, by unfold pm_s1; rw [← hsw9, hk9, nI_clamp (by omega)]⟩
                  · refine vv_aload_n (q := 134) hC dX4_scrub_133 (x := Y.2.1 (0)) rfl rfl ?_
                    refine vv_iload (q := 136) hC dX4_scrub_134 (x := nI (z9)) rfl rfl ?_
                    refine vv_callV (n := 1) (k := 0) (As := [.int (nI (z9))]) (st := []) (q := 139) hC (hY.k (by decide)) (hY.M _) (by rw [hY.cl]; rfl) (cm_X4_parityOf _ Y n hY ((pm_s0 τ n z9)) z9 (by omega)) gX4_scrub_X4_parityOf rfl (by decide +kernel) dX4_scrub_136 rfl rfl rfl (vv_kR ?_)
                    refine vv_goto (tgt := 154) hC dX4_scrub_139 (by decide) ?_
                    refine vv_top (y := w9) (by rw [hsw9]; unfold pm_sw; rw [if_pos ⟨(nI_eq (b := 0) (by omega) (by decide)).mp c_121, c_130⟩]) ?_
                    refine vv_istore (L' := [(0, .ref (Y.2.1 (0))), (1, .int (nI (kx))), (2, .int (nI (c))), (3, .int (nI (k))), (4, .int (nI (z9))), (5, .int (nI (pm_mi (pm_s0 τ n z9) z9 n))), (6, .int (w9)), (7, .int (nI (n)))]) (q := 156) hC dX4_scrub_154 (by decide) rfl rfl rfl ?_
                    refine vv_iload (q := 158) hC dX4_scrub_156 (x := w9) rfl rfl ?_
                    refine vv_iconst (q := 159) hC ((-1)) dX4_scrub_158 (by decide) rfl ?_
                    refine vv_icmp_eq (x := w9) (y := (-1)) (q := 162) (tgt := 198) hC dX4_scrub_159 (by decide) rfl (fun c_159 => ?_) (fun c_159 => ?_)
                    · refine vv_st (σ' := pm_s0 τ n z9) (rfl) ?_
                      refine vv_iincN (x := k) (L' := [(0, .ref (Y.2.1 (0))), (1, .int (nI (kx))), (2, .int (nI (c))), (3, .int (nI (k + 1))), (4, .int (nI (z9))), (5, .int (nI (pm_mi (pm_s0 τ n z9) z9 n))), (6, .int (w9)), (7, .int (nI (n)))]) (q := 201) hC dX4_scrub_198 rfl (by decide) rfl rfl rfl ?_
                      refine vv_goto (tgt := 40) hC dX4_scrub_201 (by decide) ?_
                      refine vv_sub (L' := [(0, .ref (Y.2.1 (0))), (1, .int (nI (kx))), (2, .int (nI (c))), (3, .int (nI (k + 1)))]) (by simp) ?_
                      refine vv_st (σ' := (pm_s0 τ n z9)) (rfl) ?_
                      exact ih_40 (k + 1) (by first | omega | (dsimp only; omega)) c (pm_s0 τ n z9) (by omega) (by omega) (show τ 0 20 = nI ts from ht20) (pm_s0_21 hz24) (by rw [hv, show kx - k = (kx - (k + 1)) + 1 by omega]; show (if pm_sw (pm_s0 τ n (τ 0 21).toNatClampNeg) n (τ 0 21).toNatClampNeg = -1 then _ else _) = _; rw [← hz9, ← hsw9, if_pos c_159])
                    · obtain ⟨k9, hk9n, hk9⟩ : ∃ k, k < n ∧ w9 = nI k := by rw [hsw9] at c_159 ⊢; exact pm_sw_nat hlo hhi c_159
                      refine vv_loc (L' := [(0, .ref (Y.2.1 (0))), (1, .int (nI (kx))), (2, .int (nI (c))), (3, .int (nI (k))), (4, .int (nI (z9))), (5, .int (nI (pm_mi (pm_s0 τ n z9) z9 n))), (6, .int (nI (k9))), (7, .int (nI (n)))]) (by rw [hk9]) ?_
                      refine vv_aload_n (q := 163) hC dX4_scrub_162 (x := Y.2.1 (0)) rfl rfl ?_
                      refine vv_iload (q := 165) hC dX4_scrub_163 (x := nI (k9)) rfl rfl ?_
                      refine vv_iload (q := 167) hC dX4_scrub_165 (x := nI (z9)) rfl rfl ?_
                      refine vv_callV (n := 2) (k := 0) (As := [.int (nI (k9)), .int (nI (z9))]) (st := []) (q := 170) hC (hY.k (by decide)) (hY.M _) (by rw [hY.cl]; rfl) (cm_X4_freshIsOthers _ Y n hY (((pm_s0 τ n z9))) (nI (k9)) z9 (by omega)) gX4_scrub_X4_freshIsOthers rfl (by decide +kernel) dX4_scrub_167 rfl rfl rfl (vv_kRv ?_)
                      refine vv_aload_n (q := 171) hC dX4_scrub_170 (x := Y.2.1 (0)) rfl rfl ?_
                      refine vv_iload (q := 173) hC dX4_scrub_171 (x := nI (k9)) rfl rfl ?_
                      refine vv_iload (q := 175) hC dX4_scrub_173 (x := nI (z9)) rfl rfl ?_
                      refine vv_callV (n := 2) (k := 0) (As := [.int (nI (k9)), .int (nI (z9))]) (st := []) (q := 178) hC (hY.k (by decide)) (hY.M _) (by rw [hY.cl]; rfl) (cm_X4_chunkIs _ Y n hY (pm_fo (((pm_s0 τ n z9))) n (nI (k9)) z9) k9 z9 ts (by omega) (by omega) ht20 hts8) gX4_scrub_X4_chunkIs rfl (by decide +kernel) dX4_scrub_175 rfl rfl rfl (vv_kR ?_)
                      refine vv_ifB_ne (b := ¬ (pm_fo (((pm_s0 τ n z9))) n (nI (k9)) z9) 0 19 = 0) (q := 181) (tgt := 184) hC dX4_scrub_178 (by decide) rfl (fun c_178 => ?_) (fun c_178 => ?_)
                      · refine vv_iincN (x := c) (L' := [(0, .ref (Y.2.1 (0))), (1, .int (nI (kx))), (2, .int (nI (c + 1))), (3, .int (nI (k))), (4, .int (nI (z9))), (5, .int (nI (pm_mi (pm_s0 τ n z9) z9 n))), (6, .int (nI (k9))), (7, .int (nI (n)))]) (q := 187) hC dX4_scrub_184 rfl (by decide) rfl rfl rfl ?_
                        have hs1 : pm_s1 τ n z9 ts = pm_ch (pm_fo (pm_s0 τ n z9) n (nI k9) z9) n k9 z9 ts := by unfold pm_s1; rw [← hsw9, hk9, nI_clamp (by omega)]
                        refine vv_st (σ' := pm_s1 τ n z9 ts) (hs1.symm) ?_
                        refine vv_aload_n (q := 188) hC dX4_scrub_187 (x := Y.2.1 (0)) rfl rfl ?_
                        refine pm_gM (q := 191) hY hC 22 hi_X4 hf_counts (by decide) rfl (v := .ref (Y.2.1 (13))) rfl dX4_scrub_188 rfl ?_
                        refine vv_bipush (q := 193) hC (nI 7) dX4_scrub_191 (by decide) rfl ?_
                        refine vv_dup2 (q := 194) hC dX4_scrub_193 rfl rfl rfl ?_
                        refine pm_ld_counts (q := 195) hY hC (i := 7) (by omega) dX4_scrub_194 rfl ?_
                        refine vv_iconst (q := 196) hC (nI 1) dX4_scrub_195 (by decide) rfl ?_
                        refine vv_iadd (x := (pm_s1 τ n z9 ts) 13 7) (y := nI (1)) (q := 197) hC dX4_scrub_196 rfl ?_
                        refine pm_st_counts (q := 198) hY hC (i := 7) (x := ((pm_s1 τ n z9 ts) 13 7) + (nI (1))) (by omega) dX4_scrub_197 rfl ?_
                        refine vv_st (σ' := pm_tl (pm_s1 τ n z9 ts) 7) (rfl) ?_
                        refine vv_iincN (x := k) (L' := [(0, .ref (Y.2.1 (0))), (1, .int (nI (kx))), (2, .int (nI (c + 1))), (3, .int (nI (k + 1))), (4, .int (nI (z9))), (5, .int (nI (pm_mi (pm_s0 τ n z9) z9 n))), (6, .int (nI (k9))), (7, .int (nI (n)))]) (q := 201) hC dX4_scrub_198 rfl (by decide) rfl rfl rfl ?_
                        refine vv_goto (tgt := 40) hC dX4_scrub_201 (by decide) ?_
                        refine vv_sub (L' := [(0, .ref (Y.2.1 (0))), (1, .int (nI (kx))), (2, .int (nI (c + 1))), (3, .int (nI (k + 1)))]) (by simp) ?_
                        refine vv_st (σ' := (pm_tl (pm_s1 τ n z9 ts) 7)) (rfl) ?_
                        exact ih_40 (k + 1) (by first | omega | (dsimp only; omega)) (c + 1) (pm_tl (pm_s1 τ n z9 ts) 7) (by omega) (by omega) (by rw [pm_tl_o (by decide), hs1, pm_ch_f (by decide) (by decide) (by decide)]; exact ht20) (by rw [pm_tl_o (by decide), hs1, pm_ch_21 c_178 (by decide)]; exact pm_s0_21 (τ := τ) (n := n) hz24) (by rw [hv, show kx - k = (kx - (k + 1)) + 1 by omega]; show (if pm_sw (pm_s0 τ n (τ 0 21).toNatClampNeg) n (τ 0 21).toNatClampNeg = -1 then _ else _) = _; rw [← hz9, ← hsw9, if_neg c_159, if_neg (show ¬ τ 0 19 = 0 from c_178)])
                      · refine vv_bipush (q := 183) hC ((-106)) dX4_scrub_181 (by decide) rfl ?_
                        refine vv_iret (v := (-106)) hC dX4_scrub_183 ?_
                        rw [hp]
                        unfold pm_scrub
                        have hw : pm_sl n ts kx 0 σ = (false, c, pm_s1 τ n z9 ts) := by
                          rw [hv, show kx - k = (kx - (k + 1)) + 1 by omega]
                          show (if pm_sw (pm_s0 τ n (τ 0 21).toNatClampNeg) n (τ 0 21).toNatClampNeg = -1 then _ else _) = _
                          rw [← hz9, ← hsw9, if_neg c_159, if_pos (show τ 0 19 = 0 from Decidable.of_not_not c_178)]
                        rw [if_pos c_4, if_pos c_19, if_pos c_30, ← hkx, ← hts, if_neg (by rw [hw]; exact fun z => by cases z), hw]
                        exact ⟨rfl, by unfold pm_s1; rw [← hsw9, hk9, nI_clamp (by omega)]⟩
              · refine vv_aload_n (q := 96) hC dX4_scrub_95 (x := Y.2.1 (0)) rfl rfl ?_
                refine vv_iload (q := 98) hC dX4_scrub_96 (x := nI (m)) rfl rfl ?_
                refine vv_iload (q := 100) hC dX4_scrub_98 (x := nI (z9)) rfl rfl ?_
                refine vv_callV (n := 2) (k := 0) (As := [.int (nI (m)), .int (nI (z9))]) (st := []) (q := 103) hC (hY.k (by decide)) (hY.M _) (by rw [hY.cl]; rfl) (cm_X4_isThere _ Y n hY (pm_s0 τ n z9) m z9 (by omega) (by omega)) gX4_scrub_X4_isThere rfl (by decide +kernel) dX4_scrub_100 rfl rfl rfl (vv_kR ?_)
                refine vv_ifB_ne (b := pm_there (pm_s0 τ n z9) m z9) (q := 106) (tgt := 113) hC dX4_scrub_103 (by decide) rfl (fun c_103 => ?_) (fun c_103 => ?_)
                · refine vv_iincN (x := m) (L' := [(0, .ref (Y.2.1 (0))), (1, .int (nI (kx))), (2, .int (nI (c))), (3, .int (nI (k))), (4, .int (nI (z9))), (5, .int (nI (pm_mi (pm_s0 τ n z9) z9 m))), (6, .int (pm_wh (pm_s0 τ n z9) z9 m)), (7, .int (nI (m + 1)))]) (q := 116) hC dX4_scrub_113 rfl (by decide) rfl rfl rfl ?_
                  refine vv_goto (tgt := 86) hC dX4_scrub_116 (by decide) ?_
                  refine vv_loc (L' := [(0, .ref (Y.2.1 (0))), (1, .int (nI (kx))), (2, .int (nI (c))), (3, .int (nI (k))), (4, .int (nI (z9))), (5, .int (nI (pm_mi (pm_s0 τ n z9) z9 (m + 1)))), (6, .int (pm_wh (pm_s0 τ n z9) z9 (m + 1))), (7, .int (nI ((m + 1))))]) (by rw [show pm_mi (pm_s0 τ n z9) z9 (m + 1) = _ from if_pos c_103, show pm_wh (pm_s0 τ n z9) z9 (m + 1) = _ from if_pos c_103]) ?_
                  exact ih_86 (m + 1) (by first | omega | (dsimp only; omega))  (by omega)
                · refine vv_iincN (x := pm_mi (pm_s0 τ n z9) z9 m) (L' := [(0, .ref (Y.2.1 (0))), (1, .int (nI (kx))), (2, .int (nI (c))), (3, .int (nI (k))), (4, .int (nI (z9))), (5, .int (nI ((pm_mi (pm_s0 τ n z9) z9 m) + 1))), (6, .int (pm_wh (pm_s0 τ n z9) z9 m)), (7, .int (nI (m)))]) (q := 109) hC dX4_scrub_106 rfl (by decide) rfl rfl rfl ?_
                  refine vv_iload (q := 111) hC dX4_scrub_109 (x := nI (m)) rfl rfl ?_
                  refine vv_istore (L' := [(0, .ref (Y.2.1 (0))), (1, .int (nI (kx))), (2, .int (nI (c))), (3, .int (nI (k))), (4, .int (nI (z9))), (5, .int (nI ((pm_mi (pm_s0 τ n z9) z9 m) + 1))), (6, .int (nI (m))), (7, .int (nI (m)))]) (q := 113) hC dX4_scrub_111 (by decide) rfl rfl rfl ?_
                  refine vv_iincN (x := m) (L' := [(0, .ref (Y.2.1 (0))), (1, .int (nI (kx))), (2, .int (nI (c))), (3, .int (nI (k))), (4, .int (nI (z9))), (5, .int (nI ((pm_mi (pm_s0 τ n z9) z9 m) + 1))), (6, .int (nI (m))), (7, .int (nI (m + 1)))]) (q := 116) hC dX4_scrub_113 rfl (by decide) rfl rfl rfl ?_
                  refine vv_goto (tgt := 86) hC dX4_scrub_116 (by decide) ?_
                  refine vv_loc (L' := [(0, .ref (Y.2.1 (0))), (1, .int (nI (kx))), (2, .int (nI (c))), (3, .int (nI (k))), (4, .int (nI (z9))), (5, .int (nI (pm_mi (pm_s0 τ n z9) z9 (m + 1)))), (6, .int (pm_wh (pm_s0 τ n z9) z9 (m + 1))), (7, .int (nI ((m + 1))))]) (by rw [show pm_mi (pm_s0 τ n z9) z9 (m + 1) = _ from if_neg c_103, show pm_wh (pm_s0 τ n z9) z9 (m + 1) = _ from if_neg c_103]) ?_
                  exact ih_86 (m + 1) (by first | omega | (dsimp only; omega))  (by omega)
            exact lp_86 0 (by omega)
        exact lp_40 0 0 σ (by omega) (by omega) (by rw [hts]; exact hJ.2.1.1) hz0 rfl
      · refine vv_bipush (q := 35) hC ((-103)) dX4_scrub_33 (by decide) rfl ?_
        refine vv_iret (v := (-103)) hC dX4_scrub_35 ?_
        rw [hp]
        unfold pm_scrub
        rw [if_pos c_4, if_pos c_19, if_neg c_30]
        exact ⟨rfl, rfl⟩
    · refine vv_bipush (q := 24) hC ((-102)) dX4_scrub_22 (by decide) rfl ?_
      refine vv_iret (v := (-102)) hC dX4_scrub_24 ?_
      rw [hp]
      unfold pm_scrub
      rw [if_pos c_4, if_neg c_19]
      exact ⟨rfl, rfl⟩
  · refine vv_bipush (q := 9) hC ((-100)) dX4_scrub_7 (by decide) rfl ?_
    refine vv_iret (v := (-100)) hC dX4_scrub_9 ?_
    rw [hp]
    unfold pm_scrub
    rw [if_neg c_4]
    exact ⟨rfl, rfl⟩
set_option maxRecDepth 100000 in
set_option maxHeartbeats 4000000 in
theorem cm_X4_word (l : Launch) (Y : vv_Y) (n : Nat) (hY : pm_sys Y n) (σ : vv_S) (r : Nat) (b : Int32) (i : Int32) (hr : σ 0 8 = nI r) (hr10 : r ≤ 15) : vv_M l Y yX4_word wsX4_word { frames := 4, cells := 0, slots := 0, locals := 94 } [.ref (Y.2.1 (0)), .int (b), .int (i)] σ (vv_R (.int (pm_wd σ n r b i)) (vv_up σ 0 0 (nI (pm_th σ n r b i)))) := by
  refine vv_M.of (cc := cX4_word) (maxL := 5) (ret := (some .int)) hY.ok (by decide) rfl (Nat.le_of_ble_eq_true rfl) ?_
  intro Z hl hp hC
  subst hl
  have hi_X4 : ∀ w ∈ u_ws RX4 TX4 25, w ∈ wsX4_word := by decide +kernel
  have hf_thrown : Cond.fieldLink RX4 1 "ParityRowModel" (TX4 0).2.1 (TX4 0).2.2.1 ∈ wsX4_word := by decide +kernel
  have hf_down : Cond.fieldLink RX4 103 "ParityRowModel" (TX4 18).2.1 (TX4 18).2.2.1 ∈ wsX4_word := by decide +kernel
  have hf_many : Cond.fieldLink RX4 69 "ParityRowModel" (TX4 1).2.1 (TX4 1).2.2.1 ∈ wsX4_word := by decide +kernel
  have hlo := hY.lo
  have hhi := hY.hi
  obtain ⟨th, hth⟩ : ∃ k, k = pm_th σ n r b i := ⟨_, rfl⟩
  have hth2 : th ≤ 2 := by rw [hth]; unfold pm_th; split <;> (try split) <;> omega
  have hfr3 := pm_from_le (σ := σ) (n := n) (r := r) (b := b.toNatClampNeg)
  refine vv_loc (L' := [(0, .ref (Y.2.1 (0))), (1, .int (b)), (2, .int (i))]) rfl ?_
  refine vv_aload_n (q := 1) hC dX4_word_0 (x := Y.2.1 (0)) rfl rfl ?_
  refine vv_aload_n (q := 2) hC dX4_word_1 (x := Y.2.1 (0)) rfl rfl ?_
  refine vv_iload_n (q := 3) hC dX4_word_2 (x := b) rfl rfl ?_
  refine vv_i2l (q := 4) hC (b.toInt64) dX4_word_3 rfl rfl ?_
  refine vv_callV (n := 1) (k := 0) (As := [.long (b.toInt64)]) (st := [.ref (Y.2.1 (0))]) (q := 7) hC (hY.k (by decide)) (hY.M _) (by rw [hY.cl]; rfl) (cm_X4_isBlock _ Y n hY σ b.toInt64 ) gX4_word_X4_isBlock rfl (by decide +kernel) dX4_word_4 rfl rfl rfl (vv_kR ?_)
  refine vv_top (y := vv_B (pc_isb n b)) (vv_B_congr (pm_blk hlo hhi)) ?_
  refine vv_ifB_eq (b := pc_isb n b) (q := 10) (tgt := 22) hC dX4_word_7 (by decide) rfl (fun c_7 => ?_) (fun c_7 => ?_)
  · refine vv_iconst (q := 23) hC (nI 1) dX4_word_22 (by decide) rfl ?_
    refine vv_goto (tgt := 47) hC dX4_word_23 (by decide) ?_
    refine vv_top (y := nI (th)) ((congrArg nI (by unfold pm_th; rw [if_neg (fun z => c_7 z.1)])).trans (congrArg nI hth.symm)) ?_
    refine pm_pM (q := 50) hY hC 0 hi_X4 hf_thrown (by decide) rfl rfl (x := nI (th)) (ty := .int) (by decide +kernel) rfl rfl (fun _ => rfl) dX4_word_47 rfl ?_
    refine vv_aload_n (q := 51) hC dX4_word_50 (x := Y.2.1 (0)) rfl rfl ?_
    refine pm_gM (q := 54) hY hC 0 hi_X4 hf_thrown (by decide) rfl (v := .int ((vv_up σ 0 0 (nI (th))) 0 0)) rfl dX4_word_51 rfl ?_
    refine vv_top (y := nI (th)) (by rw [vv_up_s, vv_upd_s]) ?_
    refine vv_if_le (x := nI (th)) (q := 57) (tgt := 59) hC dX4_word_54 (by decide) rfl (fun c_54 => absurd c_54 (by rw [hth, show pm_th σ n r b i = 1 from by unfold pm_th; rw [if_neg (fun z => c_7 z.1)]]; decide)) (fun c_54 => ?_)
    refine vv_iconst (q := 58) hC (nI 0) dX4_word_57 (by decide) rfl ?_
    refine vv_iret (v := nI (0)) hC dX4_word_58 ?_
    rw [hp]
    rw [← hth]
    unfold pm_wd
    rw [← hth]
    rw [if_neg (fun z => c_54 (by rw [z]; decide))]
    exact ⟨rfl, rfl⟩
  · have hn_b := pc_nat (b := b) (N := 24 * (n - 1)) c_7 (by omega)
    have hdm := pc_dm hlo hn_b.2
    refine vv_loc (L' := [(0, .ref (Y.2.1 (0))), (1, .int (nI (b.toNatClampNeg))), (2, .int (i))]) (by rw [← hn_b.1]) ?_
    refine vv_iload_n (q := 11) hC dX4_word_10 (x := i) rfl rfl ?_
    refine vv_i2l (q := 12) hC (i.toInt64) dX4_word_11 rfl rfl ?_
    refine vv_lconst (q := 13) hC (lN 0) dX4_word_12 rfl rfl ?_
    refine vv_ldc2 (v := 7) (q := 16) hC (by decide +kernel) dX4_word_13 rfl ?_
    refine vv_callS (n := 3) (As := [.long (i.toInt64), .long (lN 0), .long (7)]) (st := [.ref (Y.2.1 (0))]) (q := 19) hC (cm_X4_in _ Y n hY σ i.toInt64 (lN 0) 7 ) gX4_word_X4_in rfl (by decide +kernel) dX4_word_16 rfl rfl rfl (vv_kR ?_)
    refine vv_top (y := vv_B (¬ i < 0 ∧ i < nI 8)) (vv_B_congr (by rw [show (7 : Int64) = lN 7 from rfl, pm_in0 (by omega)])) ?_
    refine vv_ifB_ne (b := ¬ i < 0 ∧ i < nI 8) (q := 22) (tgt := 26) hC dX4_word_19 (by decide) rfl (fun c_19 => ?_) (fun c_19 => ?_)
    · refine vv_aload_n (q := 27) hC dX4_word_26 (x := Y.2.1 (0)) rfl rfl ?_
      refine pm_gM (q := 30) hY hC 18 hi_X4 hf_down (by decide) rfl (v := .int (σ 0 18)) rfl dX4_word_27 rfl ?_
      refine vv_if_ne (x := σ 0 18) (q := 33) (tgt := 42) hC dX4_word_30 (by decide) rfl (fun c_30 => ?_) (fun c_30 => ?_)
      · refine vv_iconst (q := 43) hC (nI 2) dX4_word_42 (by decide) rfl ?_
        refine vv_goto (tgt := 47) hC dX4_word_43 (by decide) ?_
        refine vv_top (y := nI (th)) ((congrArg nI (by unfold pm_th; rw [if_pos ⟨c_7, c_19⟩, if_neg (fun z => c_30 z.1)])).trans (congrArg nI hth.symm)) ?_
        refine pm_pM (q := 50) hY hC 0 hi_X4 hf_thrown (by decide) rfl rfl (x := nI (th)) (ty := .int) (by decide +kernel) rfl rfl (fun _ => rfl) dX4_word_47 rfl ?_
        refine vv_aload_n (q := 51) hC dX4_word_50 (x := Y.2.1 (0)) rfl rfl ?_
        refine pm_gM (q := 54) hY hC 0 hi_X4 hf_thrown (by decide) rfl (v := .int ((vv_up σ 0 0 (nI (th))) 0 0)) rfl dX4_word_51 rfl ?_
        refine vv_top (y := nI (th)) (by rw [vv_up_s, vv_upd_s]) ?_
        refine vv_if_le (x := nI (th)) (q := 57) (tgt := 59) hC dX4_word_54 (by decide) rfl (fun c_54 => absurd c_54 (by rw [hth, show pm_th σ n r b i = 2 from by unfold pm_th; rw [if_pos ⟨c_7, c_19⟩, if_neg (fun z => c_30 z.1)]]; decide)) (fun c_54 => ?_)
        refine vv_iconst (q := 58) hC (nI 0) dX4_word_57 (by decide) rfl ?_
        refine vv_iret (v := nI (0)) hC dX4_word_58 ?_
        rw [hp]
        rw [← hth]
        unfold pm_wd
        rw [← hth]
        rw [if_neg (fun z => c_54 (by rw [z]; decide))]
        exact ⟨rfl, rfl⟩
      · refine vv_aload_n (q := 34) hC dX4_word_33 (x := Y.2.1 (0)) rfl rfl ?_
        refine vv_iload_n (q := 35) hC dX4_word_34 (x := nI (b.toNatClampNeg)) rfl rfl ?_
        refine vv_callV (n := 1) (k := 0) (As := [.int (nI (b.toNatClampNeg))]) (st := [.ref (Y.2.1 (0))]) (q := 38) hC (hY.k (by decide)) (hY.M _) (by rw [hY.cl]; rfl) (cm_X4_from _ Y n hY σ r b.toNatClampNeg hr hr10 hn_b.2) gX4_word_X4_from rfl (by decide +kernel) dX4_word_35 rfl rfl rfl (vv_kR ?_)
        refine vv_iconst (q := 39) hC (nI 3) dX4_word_38 (by decide) rfl ?_
        refine vv_icmpN_ne (x := pm_from σ n r b.toNatClampNeg) (y := 3) (q := 42) (tgt := 46) hC dX4_word_39 (by decide) (by omega) (by omega) rfl (fun c_39 => ?_) (fun c_39 => ?_)
        · refine vv_iconst (q := 47) hC (nI 0) dX4_word_46 (by decide) rfl ?_
          refine vv_top (y := nI (th)) ((congrArg nI (by unfold pm_th; rw [if_pos ⟨c_7, c_19⟩, if_pos ⟨c_30, c_39⟩])).trans (congrArg nI hth.symm)) ?_
          refine pm_pM (q := 50) hY hC 0 hi_X4 hf_thrown (by decide) rfl rfl (x := nI (th)) (ty := .int) (by decide +kernel) rfl rfl (fun _ => rfl) dX4_word_47 rfl ?_
          refine vv_aload_n (q := 51) hC dX4_word_50 (x := Y.2.1 (0)) rfl rfl ?_
          refine pm_gM (q := 54) hY hC 0 hi_X4 hf_thrown (by decide) rfl (v := .int ((vv_up σ 0 0 (nI (th))) 0 0)) rfl dX4_word_51 rfl ?_
          refine vv_top (y := nI (th)) (by rw [vv_up_s, vv_upd_s]) ?_
          refine vv_if_le (x := nI (th)) (q := 57) (tgt := 59) hC dX4_word_54 (by decide) rfl (fun c_54 => ?_) (fun c_54 => absurd (show nI th ≤ 0 by rw [hth, show pm_th σ n r b i = 0 from by unfold pm_th; rw [if_pos ⟨c_7, c_19⟩, if_pos ⟨c_30, c_39⟩]]; decide) c_54)
          have hth0 : th = 0 := (pm_le0 (by omega)).mp c_54
          have hn_i := pc_nat (b := i) (N := 8) c_19 (by omega)
          refine vv_loc (L' := [(0, .ref (Y.2.1 (0))), (1, .int (nI (b.toNatClampNeg))), (2, .int (nI (i.toNatClampNeg)))]) (by rw [← hn_i.1]) ?_
          refine vv_iload_n (q := 60) hC dX4_word_59 (x := nI (b.toNatClampNeg)) rfl rfl ?_
          refine vv_aload_n (q := 61) hC dX4_word_60 (x := Y.2.1 (0)) rfl rfl ?_
          refine pm_gM (q := 64) hY hC 1 hi_X4 hf_many (by decide) rfl (v := .int (nI (n))) rfl dX4_word_61 rfl ?_
          refine vv_iconst (q := 65) hC (nI 1) dX4_word_64 (by decide) rfl ?_
          refine vv_subN (x := n) (y := 1) (q := 66) hC dX4_word_65 (by omega) rfl ?_
          refine vv_divN (x := b.toNatClampNeg) (y := n - 1) (q := 67) hC dX4_word_66 (by omega) (by omega) (by omega) rfl ?_
          refine vv_istore_n (L' := [(0, .ref (Y.2.1 (0))), (1, .int (nI (b.toNatClampNeg))), (2, .int (nI (i.toNatClampNeg))), (3, .int (nI (b.toNatClampNeg / (n - 1))))]) (q := 68) hC dX4_word_67 (by decide) rfl rfl rfl ?_
          refine vv_iload_n (q := 69) hC dX4_word_68 (x := nI (b.toNatClampNeg)) rfl rfl ?_
          refine vv_aload_n (q := 70) hC dX4_word_69 (x := Y.2.1 (0)) rfl rfl ?_
          refine pm_gM (q := 73) hY hC 1 hi_X4 hf_many (by decide) rfl (v := .int (nI (n))) rfl dX4_word_70 rfl ?_
          refine vv_iconst (q := 74) hC (nI 1) dX4_word_73 (by decide) rfl ?_
          refine vv_subN (x := n) (y := 1) (q := 75) hC dX4_word_74 (by omega) rfl ?_
          refine vv_remN (x := b.toNatClampNeg) (y := n - 1) (q := 76) hC dX4_word_75 (by omega) (by omega) (by omega) rfl ?_
          refine vv_istore (L' := [(0, .ref (Y.2.1 (0))), (1, .int (nI (b.toNatClampNeg))), (2, .int (nI (i.toNatClampNeg))), (3, .int (nI (b.toNatClampNeg / (n - 1)))), (4, .int (nI (b.toNatClampNeg % (n - 1))))]) (q := 78) hC dX4_word_76 (by decide) rfl rfl rfl ?_
          refine vv_aload_n (q := 79) hC dX4_word_78 (x := Y.2.1 (0)) rfl rfl ?_
          refine vv_iload_n (q := 80) hC dX4_word_79 (x := nI (b.toNatClampNeg)) rfl rfl ?_
          refine vv_callV (n := 1) (k := 0) (As := [.int (nI (b.toNatClampNeg))]) (st := []) (q := 83) hC (hY.k (by decide)) (hY.M _) (by rw [hY.cl]; rfl) (cm_X4_from _ Y n hY (vv_up σ 0 0 (nI (th))) r b.toNatClampNeg hr hr10 hn_b.2) gX4_word_X4_from rfl (by decide +kernel) dX4_word_80 rfl rfl rfl (vv_kR ?_)
          refine vv_top (y := nI (pm_from σ n r b.toNatClampNeg)) (congrArg nI pm_from_up) ?_
          refine vv_iconst (q := 84) hC (nI 2) dX4_word_83 (by decide) rfl ?_
          refine vv_icmpN_ne (x := pm_from σ n r b.toNatClampNeg) (y := 2) (q := 87) (tgt := 103) hC dX4_word_84 (by decide) (by omega) (by omega) rfl (fun c_84 => ?_) (fun c_84 => ?_)
          · refine vv_aload_n (q := 104) hC dX4_word_103 (x := Y.2.1 (0)) rfl rfl ?_
            refine vv_iload_n (q := 105) hC dX4_word_104 (x := nI (b.toNatClampNeg / (n - 1))) rfl rfl ?_
            refine vv_iload (q := 107) hC dX4_word_105 (x := nI (b.toNatClampNeg % (n - 1))) rfl rfl ?_
            refine vv_iload_n (q := 108) hC dX4_word_107 (x := nI (i.toNatClampNeg)) rfl rfl ?_
            refine vv_callV (n := 3) (k := 0) (As := [.int (nI (b.toNatClampNeg / (n - 1))), .int (nI (b.toNatClampNeg % (n - 1))), .int (nI (i.toNatClampNeg))]) (st := []) (q := 111) hC (hY.k (by decide)) (hY.M _) (by rw [hY.cl]; rfl) (cm_X4_newest _ Y n hY ((vv_up σ 0 0 (nI (th)))) r (b.toNatClampNeg / (n - 1)) (b.toNatClampNeg % (n - 1)) i.toNatClampNeg hr hr10 hdm.1 (Or.inr hdm.2) hn_i.2) gX4_word_X4_newest rfl (by decide +kernel) dX4_word_108 rfl rfl rfl (vv_kR ?_)
            refine vv_top (y := pm_nw σ n r (b.toNatClampNeg / (n - 1)) (b.toNatClampNeg % (n - 1)) i.toNatClampNeg) (pm_nw_up) ?_
            refine vv_iret (v := pm_nw σ n r (b.toNatClampNeg / (n - 1)) (b.toNatClampNeg % (n - 1)) i.toNatClampNeg) hC dX4_word_111 ?_
            rw [hp]
            rw [← hth]
            unfold pm_wd
            rw [← hth]
            rw [if_pos hth0, if_neg c_84]
            exact ⟨rfl, rfl⟩
          · refine vv_aload_n (q := 88) hC dX4_word_87 (x := Y.2.1 (0)) rfl rfl ?_
            refine vv_aload_n (q := 89) hC dX4_word_88 (x := Y.2.1 (0)) rfl rfl ?_
            refine vv_iload_n (q := 90) hC dX4_word_89 (x := nI (b.toNatClampNeg / (n - 1))) rfl rfl ?_
            refine vv_iload (q := 92) hC dX4_word_90 (x := nI (b.toNatClampNeg % (n - 1))) rfl rfl ?_
            refine vv_callV (n := 2) (k := 0) (As := [.int (nI (b.toNatClampNeg / (n - 1))), .int (nI (b.toNatClampNeg % (n - 1)))]) (st := [.ref (Y.2.1 (0))]) (q := 95) hC (hY.k (by decide)) (hY.M _) (by rw [hY.cl]; rfl) (cm_X4_memberOf _ Y n hY ((vv_up σ 0 0 (nI (th)))) (b.toNatClampNeg / (n - 1)) (b.toNatClampNeg % (n - 1)) hdm.1 hdm.2) gX4_word_X4_memberOf rfl (by decide +kernel) dX4_word_92 rfl rfl rfl (vv_kR ?_)
            refine vv_iload_n (q := 96) hC dX4_word_95 (x := nI (b.toNatClampNeg / (n - 1))) rfl rfl ?_
            refine vv_iload_n (q := 97) hC dX4_word_96 (x := nI (i.toNatClampNeg)) rfl rfl ?_
            refine vv_callV (n := 3) (k := 0) (As := [.int (nI (pc_mo n (b.toNatClampNeg / (n - 1)) (b.toNatClampNeg % (n - 1)))), .int (nI (b.toNatClampNeg / (n - 1))), .int (nI (i.toNatClampNeg))]) (st := []) (q := 100) hC (hY.k (by decide)) (hY.M _) (by rw [hY.cl]; rfl) (cm_X4_others _ Y n hY (((vv_up σ 0 0 (nI (th))))) (nI (pc_mo n (b.toNatClampNeg / (n - 1)) (b.toNatClampNeg % (n - 1)))) (b.toNatClampNeg / (n - 1)) i.toNatClampNeg hdm.1 hn_i.2) gX4_word_X4_others rfl (by decide +kernel) dX4_word_97 rfl rfl rfl (vv_kR ?_)
            refine vv_top (y := pm_ox σ (nI (pc_mo n (b.toNatClampNeg / (n - 1)) (b.toNatClampNeg % (n - 1)))) (b.toNatClampNeg / (n - 1)) i.toNatClampNeg n) (pm_ox_congr (vv_up_n (by decide))) ?_
            refine vv_goto (tgt := 111) hC dX4_word_100 (by decide) ?_
            refine vv_iret (v := pm_ox σ (nI (pc_mo n (b.toNatClampNeg / (n - 1)) (b.toNatClampNeg % (n - 1)))) (b.toNatClampNeg / (n - 1)) i.toNatClampNeg n) hC dX4_word_111 ?_
            rw [hp]
            rw [← hth]
            unfold pm_wd
            rw [← hth]
            rw [if_pos hth0, if_pos c_84]
            exact ⟨rfl, rfl⟩
        · refine vv_iconst (q := 43) hC (nI 2) dX4_word_42 (by decide) rfl ?_
          refine vv_goto (tgt := 47) hC dX4_word_43 (by decide) ?_
          refine vv_top (y := nI (th)) ((congrArg nI (by unfold pm_th; rw [if_pos ⟨c_7, c_19⟩, if_neg (fun z => z.2 c_39)])).trans (congrArg nI hth.symm)) ?_
          refine pm_pM (q := 50) hY hC 0 hi_X4 hf_thrown (by decide) rfl rfl (x := nI (th)) (ty := .int) (by decide +kernel) rfl rfl (fun _ => rfl) dX4_word_47 rfl ?_
          refine vv_aload_n (q := 51) hC dX4_word_50 (x := Y.2.1 (0)) rfl rfl ?_
          refine pm_gM (q := 54) hY hC 0 hi_X4 hf_thrown (by decide) rfl (v := .int ((vv_up σ 0 0 (nI (th))) 0 0)) rfl dX4_word_51 rfl ?_
          refine vv_top (y := nI (th)) (by rw [vv_up_s, vv_upd_s]) ?_
          refine vv_if_le (x := nI (th)) (q := 57) (tgt := 59) hC dX4_word_54 (by decide) rfl (fun c_54 => absurd c_54 (by rw [hth, show pm_th σ n r b i = 2 from by unfold pm_th; rw [if_pos ⟨c_7, c_19⟩, if_neg (fun z => z.2 c_39)]]; decide)) (fun c_54 => ?_)
          refine vv_iconst (q := 58) hC (nI 0) dX4_word_57 (by decide) rfl ?_
          refine vv_iret (v := nI (0)) hC dX4_word_58 ?_
          rw [hp]
          rw [← hth]
          unfold pm_wd
          rw [← hth]
          rw [if_neg (fun z => c_54 (by rw [z]; decide))]
          exact ⟨rfl, rfl⟩
    · refine vv_iconst (q := 23) hC (nI 1) dX4_word_22 (by decide) rfl ?_
      refine vv_goto (tgt := 47) hC dX4_word_23 (by decide) ?_
      refine vv_top (y := nI (th)) ((congrArg nI (by unfold pm_th; rw [if_neg (fun z => c_19 z.2)])).trans (congrArg nI hth.symm)) ?_
      refine pm_pM (q := 50) hY hC 0 hi_X4 hf_thrown (by decide) rfl rfl (x := nI (th)) (ty := .int) (by decide +kernel) rfl rfl (fun _ => rfl) dX4_word_47 rfl ?_
      refine vv_aload_n (q := 51) hC dX4_word_50 (x := Y.2.1 (0)) rfl rfl ?_
      refine pm_gM (q := 54) hY hC 0 hi_X4 hf_thrown (by decide) rfl (v := .int ((vv_up σ 0 0 (nI (th))) 0 0)) rfl dX4_word_51 rfl ?_
      refine vv_top (y := nI (th)) (by rw [vv_up_s, vv_upd_s]) ?_
      refine vv_if_le (x := nI (th)) (q := 57) (tgt := 59) hC dX4_word_54 (by decide) rfl (fun c_54 => absurd c_54 (by rw [hth, show pm_th σ n r b i = 1 from by unfold pm_th; rw [if_neg (fun z => c_19 z.2)]]; decide)) (fun c_54 => ?_)
      refine vv_iconst (q := 58) hC (nI 0) dX4_word_57 (by decide) rfl ?_
      refine vv_iret (v := nI (0)) hC dX4_word_58 ?_
      rw [hp]
      rw [← hth]
      unfold pm_wd
      rw [← hth]
      rw [if_neg (fun z => c_54 (by rw [z]; decide))]
      exact ⟨rfl, rfl⟩
