set_option maxRecDepth 100000 in
set_option maxHeartbeats 4000000 in
theorem cm_X4_stripeIs (l : Launch) (Y : vv_Y) (n : Nat) (hY : pm_sys Y n) (σ : vv_S) (r : Nat) (s : Nat) (x : Int32) (hJ : pm_J σ) (hrr : pm_r σ = r) (hs : s < 24) : vv_M l Y yX4_stripeIs wsX4_stripeIs { frames := 6, cells := 0, slots := 0, locals := 137 } [.ref (Y.2.1 (0)), .int (nI (s)), .int (x)] σ (vv_R (.int ((pm_st σ n r s x).1)) ((pm_st σ n r s x).2)) := by
  refine vv_M.of (cc := cX4_stripeIs) (maxL := 9) (ret := (some .int)) hY.ok (by decide) rfl (Nat.le_of_ble_eq_true rfl) ?_
  intro Z hl hp hC
  subst hl
  have hi_X4 : ∀ w ∈ u_ws RX4 TX4 25, w ∈ wsX4_stripeIs := by decide +kernel
  have hf_counts : Cond.fieldLink RX4 60 "ParityRowModel" (TX4 22).2.1 (TX4 22).2.2.1 ∈ wsX4_stripeIs := by decide +kernel
  have hf_many : Cond.fieldLink RX4 69 "ParityRowModel" (TX4 1).2.1 (TX4 1).2.2.1 ∈ wsX4_stripeIs := by decide +kernel
  have hf_stripes : Cond.fieldLink RX4 33 "ParityRowModel" (TX4 9).2.1 (TX4 9).2.2.1 ∈ wsX4_stripeIs := by decide +kernel
  have hf_records : Cond.fieldLink RX4 120 "ParityRowModel" (TX4 8).2.1 (TX4 8).2.2.1 ∈ wsX4_stripeIs := by decide +kernel
  have hf_serials : Cond.fieldLink RX4 36 "ParityRowModel" (TX4 10).2.1 (TX4 10).2.2.1 ∈ wsX4_stripeIs := by decide +kernel
  have hf_nextSerial : Cond.fieldLink RX4 54 "ParityRowModel" (TX4 17).2.1 (TX4 17).2.2.1 ∈ wsX4_stripeIs := by decide +kernel
  have hf_bits : Cond.fieldLink RX4 39 "ParityRowModel" (TX4 11).2.1 (TX4 11).2.2.1 ∈ wsX4_stripeIs := by decide +kernel
  have hf_hasParity : Cond.fieldLink RX4 42 "ParityRowModel" (TX4 12).2.1 (TX4 12).2.2.1 ∈ wsX4_stripeIs := by decide +kernel
  have hf_ways : Cond.fieldLink RX4 45 "ParityRowModel" (TX4 13).2.1 (TX4 13).2.2.1 ∈ wsX4_stripeIs := by decide +kernel
  have hf_kept : Cond.fieldLink RX4 48 "ParityRowModel" (TX4 14).2.1 (TX4 14).2.2.1 ∈ wsX4_stripeIs := by decide +kernel
  have hf_given : Cond.fieldLink RX4 66 "ParityRowModel" (TX4 24).2.1 (TX4 24).2.2.1 ∈ wsX4_stripeIs := by decide +kernel
  have hlo := hY.lo
  have hhi := hY.hi
  obtain ⟨w, hw⟩ : ∃ w, w = pm_way σ n r s x := ⟨_, rfl⟩
  have hr := hJ.1.1
  have hr10 := hJ.1.2
  rw [hrr] at hr hr10
  refine vv_loc (L' := [(0, .ref (Y.2.1 (0))), (1, .int (nI (s))), (2, .int (x))]) rfl ?_
  refine vv_aload_n (q := 1) hC dX4_stripeIs_0 (x := Y.2.1 (0)) rfl rfl ?_
  refine vv_iload_n (q := 2) hC dX4_stripeIs_1 (x := nI (s)) rfl rfl ?_
  refine vv_iload_n (q := 3) hC dX4_stripeIs_2 (x := x) rfl rfl ?_
  refine vv_callV (n := 2) (k := 0) (As := [.int (nI (s)), .int (x)]) (st := []) (q := 6) hC (hY.k (by decide)) (hY.M _) (by rw [hY.cl]; rfl) (cm_X4_wayOf _ Y n hY σ r s x hr (by omega) (by omega)) gX4_stripeIs_X4_wayOf rfl (by decide +kernel) dX4_stripeIs_3 rfl rfl rfl (vv_kR ?_)
  refine vv_top (y := w) (hw.symm) ?_
  refine vv_istore_n (L' := [(0, .ref (Y.2.1 (0))), (1, .int (nI (s))), (2, .int (x)), (3, .int (w))]) (q := 7) hC dX4_stripeIs_6 (by decide) rfl rfl rfl ?_
  refine vv_iload_n (q := 8) hC dX4_stripeIs_7 (x := w) rfl rfl ?_
  refine vv_iconst (q := 9) hC ((-1)) dX4_stripeIs_8 (by decide) rfl ?_
  refine vv_icmp_ne (x := w) (y := (-1)) (q := 12) (tgt := 15) hC dX4_stripeIs_9 (by decide) rfl (fun c_9 => ?_) (fun c_9 => ?_)
  · obtain ⟨wn, hw3, hwn⟩ : ∃ k, k ≤ 3 ∧ w = nI k := by rw [hw] at c_9 ⊢; exact pm_way_or.resolve_left c_9
    have hst : pm_st σ n r s x = pm_stw σ n r s x wn := by unfold pm_st; rw [if_neg (hw ▸ c_9), ← hw, hwn, nI_clamp (by omega)]
    have hnb := pm_nb_le (x := x) (d := n - 1)
    obtain ⟨cc9, hcc⟩ : ∃ k, k = pm_wc n x wn := ⟨_, rfl⟩
    have hcc8 : cc9 ≤ 8 := by rw [hcc]; unfold pm_wc; split <;> omega
    refine vv_loc (L' := [(0, .ref (Y.2.1 (0))), (1, .int (nI (s))), (2, .int (x)), (3, .int (nI (wn)))]) (by rw [hwn]) ?_
    refine vv_aload_n (q := 16) hC dX4_stripeIs_15 (x := Y.2.1 (0)) rfl rfl ?_
    refine pm_gM (q := 19) hY hC 22 hi_X4 hf_counts (by decide) rfl (v := .ref (Y.2.1 (13))) rfl dX4_stripeIs_16 rfl ?_
    refine vv_iconst (q := 20) hC (nI 3) dX4_stripeIs_19 (by decide) rfl ?_
    refine vv_dup2 (q := 21) hC dX4_stripeIs_20 rfl rfl rfl ?_
    refine pm_ld_counts (q := 22) hY hC (i := 3) (by omega) dX4_stripeIs_21 rfl ?_
    refine vv_aload_n (q := 23) hC dX4_stripeIs_22 (x := Y.2.1 (0)) rfl rfl ?_
    refine vv_iload_n (q := 24) hC dX4_stripeIs_23 (x := nI (s)) rfl rfl ?_
    refine vv_iload_n (q := 25) hC dX4_stripeIs_24 (x := x) rfl rfl ?_
    refine vv_iload_n (q := 26) hC dX4_stripeIs_25 (x := nI (wn)) rfl rfl ?_
    refine vv_callV (n := 3) (k := 0) (As := [.int (nI (s)), .int (x), .int (nI (wn))]) (st := [.int (σ 13 3), .int (nI (3)), .ref (Y.2.1 (13))]) (q := 29) hC (hY.k (by decide)) (hY.M _) (by rw [hY.cl]; rfl) (cm_X4_reads _ Y n hY σ r s x wn hr (by omega) (by omega) hw3) gX4_stripeIs_X4_reads rfl (by decide +kernel) dX4_stripeIs_26 rfl rfl rfl (vv_kR ?_)
    refine vv_iadd (x := σ 13 3) (y := nI (pm_rd σ n r s x wn)) (q := 30) hC dX4_stripeIs_29 rfl ?_
    refine pm_st_counts (q := 31) hY hC (i := 3) (x := (σ 13 3) + (nI (pm_rd σ n r s x wn))) (by omega) dX4_stripeIs_30 rfl ?_
    refine vv_st (σ' := pm_w1 σ n r s x wn) (rfl) ?_
    refine vv_iload_n (q := 32) hC dX4_stripeIs_31 (x := nI (wn)) rfl rfl ?_
    refine vv_iconst (q := 33) hC (nI 1) dX4_stripeIs_32 (by decide) rfl ?_
    refine vv_icmpN_eq (x := wn) (y := 1) (q := 36) (tgt := 40) hC dX4_stripeIs_33 (by decide) (by omega) (by omega) rfl (fun c_33 => ?_) (fun c_33 => ?_)
    · refine vv_iconst (q := 41) hC (nI 0) dX4_stripeIs_40 (by decide) rfl ?_
      refine vv_istore (L' := [(0, .ref (Y.2.1 (0))), (1, .int (nI (s))), (2, .int (x)), (3, .int (nI (wn))), (4, .int (nI (0)))]) (q := 43) hC dX4_stripeIs_41 (by decide) rfl rfl rfl ?_
      refine vv_iconst (q := 44) hC (nI 0) dX4_stripeIs_43 (by decide) rfl ?_
      refine vv_istore (L' := [(0, .ref (Y.2.1 (0))), (1, .int (nI (s))), (2, .int (x)), (3, .int (nI (wn))), (4, .int (nI (0))), (5, .int (nI (0)))]) (q := 46) hC dX4_stripeIs_44 (by decide) rfl rfl rfl ?_
      have lp_46 : ∀ i : Nat, (i ≤ 8) → vv_V Y 9 Z (pm_wi σ n r s x wn i) 46 [(0, .ref (Y.2.1 (0))), (1, .int (nI (s))), (2, .int (x)), (3, .int (nI (wn))), (4, .int (nI (0))), (5, .int (nI (i)))] [] := by
        refine vv_ind (fun i => 8 - i) (fun i ih_46 => ?_)
        intro hi8
        refine vv_iload (q := 48) hC dX4_stripeIs_46 (x := nI (i)) rfl rfl ?_
        refine vv_bipush (q := 50) hC (nI 8) dX4_stripeIs_48 (by decide) rfl ?_
        refine vv_icmpN_ge (x := i) (y := 8) (q := 53) (tgt := 192) hC dX4_stripeIs_50 (by decide) (by omega) (by omega) rfl (fun c_50 => ?_) (fun c_50 => ?_)
        · have ei : i = 8 := by omega
          refine vv_st (σ' := pm_wi σ n r s x wn 8) (by rw [ei]) ?_
          refine vv_iload (q := 194) hC dX4_stripeIs_192 (x := nI (0)) rfl rfl ?_
          refine vv_if_eq (x := nI (0)) (q := 197) (tgt := 201) hC dX4_stripeIs_194 (by decide) rfl (fun c_194 => ?_) (fun c_194 => absurd c_194 (by decide))
          refine vv_iconst (q := 202) hC (nI 2) dX4_stripeIs_201 (by decide) rfl ?_
          refine vv_istore (L' := [(0, .ref (Y.2.1 (0))), (1, .int (nI (s))), (2, .int (x)), (3, .int (nI (wn))), (4, .int (nI (0))), (5, .int (nI (2)))]) (q := 204) hC dX4_stripeIs_202 (by decide) rfl rfl rfl ?_
          refine vv_iconst (q := 205) hC (nI 0) dX4_stripeIs_204 (by decide) rfl ?_
          refine vv_istore (L' := [(0, .ref (Y.2.1 (0))), (1, .int (nI (s))), (2, .int (x)), (3, .int (nI (wn))), (4, .int (nI (0))), (5, .int (nI (2))), (6, .int (nI (0)))]) (q := 207) hC dX4_stripeIs_205 (by decide) rfl rfl rfl ?_
          have lp_207 : ∀ d : Nat, (d ≤ n - 1) → (pm_nb x d ≤ d) → vv_V Y 9 Z (pm_wi σ n r s x wn 8) 207 [(0, .ref (Y.2.1 (0))), (1, .int (nI (s))), (2, .int (x)), (3, .int (nI (wn))), (4, .int (nI (0))), (5, .int (nI ((if wn = 1 then 2 else 3) + pm_nb x d))), (6, .int (nI (d)))] [] := by
            refine vv_ind (fun d => n - d) (fun d ih_207 => ?_)
            intro hd hnd
            have hif : (if wn = 1 then 2 else 3) ≤ 3 := by split <;> omega
            refine vv_iload (q := 209) hC dX4_stripeIs_207 (x := nI (d)) rfl rfl ?_
            refine vv_aload_n (q := 210) hC dX4_stripeIs_209 (x := Y.2.1 (0)) rfl rfl ?_
            refine pm_gM (q := 213) hY hC 1 hi_X4 hf_many (by decide) rfl (v := .int (nI (n))) rfl dX4_stripeIs_210 rfl ?_
            refine vv_iconst (q := 214) hC (nI 1) dX4_stripeIs_213 (by decide) rfl ?_
            refine vv_subN (x := n) (y := 1) (q := 215) hC dX4_stripeIs_214 (by omega) rfl ?_
            refine vv_icmpN_ge (x := d) (y := n - 1) (q := 218) (tgt := 235) hC dX4_stripeIs_215 (by decide) (by omega) (by omega) rfl (fun c_215 => ?_) (fun c_215 => ?_)
            · have lp_235 : ∀ f : Nat, ∀ τ : vv_S, (pm_r τ = f) → (pm_J τ) → (pm_sd σ n r s x wn = pm_dw n cc9 f τ) → vv_V Y 9 Z τ 235 [(0, .ref (Y.2.1 (0))), (1, .int (nI (s))), (2, .int (x)), (3, .int (nI (wn))), (4, .int (nI (0))), (5, .int (nI (cc9)))] [] := by
                refine vv_ind (fun f => f) (fun f ih_235 => ?_)
                intro τ hf hJt hv
                refine vv_aload_n (q := 236) hC dX4_stripeIs_235 (x := Y.2.1 (0)) rfl rfl ?_
                refine vv_callV (n := 0) (k := 0) (As := []) (st := []) (q := 239) hC (hY.k (by decide)) (hY.M _) (by rw [hY.cl]; rfl) (cm_X4_free _ Y n hY τ (pm_r τ) hJt.1.1 (by have := hJt.1.2; omega)) gX4_stripeIs_X4_free rfl (by decide +kernel) dX4_stripeIs_236 rfl rfl rfl (vv_kR ?_)
                refine vv_iload (q := 241) hC dX4_stripeIs_239 (x := nI (cc9)) rfl rfl ?_
                refine vv_icmp_ge (x := pm_fr τ n (pm_r τ)) (y := nI (cc9)) (q := 244) (tgt := 254) hC dX4_stripeIs_241 (by decide) rfl (fun c_241 => ?_) (fun c_241 => ?_)
                · have hd2 : pm_sd σ n r s x wn = (true, τ) := by
                    rw [hv]
                    rcases f with _ | f
                    · rfl
                    · exact if_neg (fun z => absurd z (Int32.not_lt.mpr c_241))
                  refine vv_iconst (q := 255) hC (nI 0) dX4_stripeIs_254 (by decide) rfl ?_
                  refine vv_istore (L' := [(0, .ref (Y.2.1 (0))), (1, .int (nI (s))), (2, .int (x)), (3, .int (nI (wn))), (4, .int (nI (0))), (5, .int (nI (cc9))), (6, .int (nI (0)))]) (q := 257) hC dX4_stripeIs_255 (by decide) rfl rfl rfl ?_
                  have lp_257 : ∀ k : Nat, ∀ τ : vv_S, (k ≤ cc9) → (pm_sc σ n r s x wn = pm_cl n (cc9 - k) τ) → vv_V Y 9 Z τ 257 [(0, .ref (Y.2.1 (0))), (1, .int (nI (s))), (2, .int (x)), (3, .int (nI (wn))), (4, .int (nI (0))), (5, .int (nI (cc9))), (6, .int (nI (k)))] [] := by
                    refine vv_ind (fun k => cc9 - k) (fun k ih_257 => ?_)
                    intro τ hk hv
                    refine vv_iload (q := 259) hC dX4_stripeIs_257 (x := nI (k)) rfl rfl ?_
                    refine vv_iload (q := 261) hC dX4_stripeIs_259 (x := nI (cc9)) rfl rfl ?_
                    refine vv_icmpN_ge (x := k) (y := cc9) (q := 264) (tgt := 290) hC dX4_stripeIs_261 (by decide) (by omega) (by omega) rfl (fun c_261 => ?_) (fun c_261 => ?_)
                    · have hc2 : pm_sc σ n r s x wn = (true, τ) := by rw [hv, show cc9 - k = 0 by omega]; rfl
                      have hJc : pm_J τ := by
                        have := pm_cl_J (n := n) (c := cc9) hJt
                        unfold pm_sc at hc2
                        rw [← hcc, hd2] at hc2
                        rw [hc2] at this
                        exact this
                      have hrc := hJc.1.2
                      refine vv_aload_n (q := 291) hC dX4_stripeIs_290 (x := Y.2.1 (0)) rfl rfl ?_
                      refine pm_gM (q := 294) hY hC 9 hi_X4 hf_stripes (by decide) rfl (v := .ref (Y.2.1 (7))) rfl dX4_stripeIs_291 rfl ?_
                      refine vv_aload_n (q := 295) hC dX4_stripeIs_294 (x := Y.2.1 (0)) rfl rfl ?_
                      refine pm_gM (q := 298) hY hC 8 hi_X4 hf_records (by decide) rfl (v := .int (τ 0 8)) rfl dX4_stripeIs_295 rfl ?_
                      refine vv_top (y := nI (pm_r τ)) (hJc.1.1) ?_
                      refine vv_iload_n (q := 299) hC dX4_stripeIs_298 (x := nI (s)) rfl rfl ?_
                      refine pm_st_stripes (q := 300) hY hC (i := pm_r τ) (x := nI (s)) (by omega) dX4_stripeIs_299 rfl ?_
                      refine vv_aload_n (q := 301) hC dX4_stripeIs_300 (x := Y.2.1 (0)) rfl rfl ?_
                      refine pm_gM (q := 304) hY hC 10 hi_X4 hf_serials (by decide) rfl (v := .ref (Y.2.1 (8))) rfl dX4_stripeIs_301 rfl ?_
                      refine vv_aload_n (q := 305) hC dX4_stripeIs_304 (x := Y.2.1 (0)) rfl rfl ?_
                      refine pm_gM (q := 308) hY hC 8 hi_X4 hf_records (by decide) rfl (v := .int ((vv_up τ 7 (pm_r τ) (nI (s))) 0 8)) rfl dX4_stripeIs_305 rfl ?_
                      refine vv_top (y := nI (pm_r τ)) (hJc.1.1) ?_
                      refine vv_aload_n (q := 309) hC dX4_stripeIs_308 (x := Y.2.1 (0)) rfl rfl ?_
                      refine pm_gM (q := 312) hY hC 17 hi_X4 hf_nextSerial (by decide) rfl (v := .int ((vv_up τ 7 (pm_r τ) (nI (s))) 0 17)) rfl dX4_stripeIs_309 rfl ?_
                      refine vv_top (y := τ 0 17) (rfl) ?_
                      refine pm_st_serials (q := 313) hY hC (i := pm_r τ) (x := τ 0 17) (by omega) dX4_stripeIs_312 rfl ?_
                      refine vv_aload_n (q := 314) hC dX4_stripeIs_313 (x := Y.2.1 (0)) rfl rfl ?_
                      refine pm_gM (q := 317) hY hC 11 hi_X4 hf_bits (by decide) rfl (v := .ref (Y.2.1 (9))) rfl dX4_stripeIs_314 rfl ?_
                      refine vv_aload_n (q := 318) hC dX4_stripeIs_317 (x := Y.2.1 (0)) rfl rfl ?_
                      refine pm_gM (q := 321) hY hC 8 hi_X4 hf_records (by decide) rfl (v := .int ((vv_up (vv_up τ 7 (pm_r τ) (nI (s))) 8 (pm_r τ) (τ 0 17)) 0 8)) rfl dX4_stripeIs_318 rfl ?_
                      refine vv_top (y := nI (pm_r τ)) (hJc.1.1) ?_
                      refine vv_iload_n (q := 322) hC dX4_stripeIs_321 (x := x) rfl rfl ?_
                      refine pm_st_bits (q := 323) hY hC (i := pm_r τ) (x := x) (by omega) dX4_stripeIs_322 rfl ?_
                      refine vv_aload_n (q := 324) hC dX4_stripeIs_323 (x := Y.2.1 (0)) rfl rfl ?_
                      refine pm_gM (q := 327) hY hC 12 hi_X4 hf_hasParity (by decide) rfl (v := .ref (Y.2.1 (10))) rfl dX4_stripeIs_324 rfl ?_
                      refine vv_aload_n (q := 328) hC dX4_stripeIs_327 (x := Y.2.1 (0)) rfl rfl ?_
                      refine pm_gM (q := 331) hY hC 8 hi_X4 hf_records (by decide) rfl (v := .int ((vv_up (vv_up (vv_up τ 7 (pm_r τ) (nI (s))) 8 (pm_r τ) (τ 0 17)) 9 (pm_r τ) x) 0 8)) rfl dX4_stripeIs_328 rfl ?_
                      refine vv_top (y := nI (pm_r τ)) (hJc.1.1) ?_
                      refine vv_iload (q := 333) hC dX4_stripeIs_331 (x := nI (0)) rfl rfl ?_
                      refine pm_st_hasParity (q := 334) hY hC (i := pm_r τ) (x := nI (0)) (by omega) dX4_stripeIs_333 rfl ?_
                      refine vv_aload_n (q := 335) hC dX4_stripeIs_334 (x := Y.2.1 (0)) rfl rfl ?_
                      refine pm_gM (q := 338) hY hC 13 hi_X4 hf_ways (by decide) rfl (v := .ref (Y.2.1 (11))) rfl dX4_stripeIs_335 rfl ?_
                      refine vv_aload_n (q := 339) hC dX4_stripeIs_338 (x := Y.2.1 (0)) rfl rfl ?_
                      refine pm_gM (q := 342) hY hC 8 hi_X4 hf_records (by decide) rfl (v := .int ((vv_up (vv_up (vv_up (vv_up τ 7 (pm_r τ) (nI (s))) 8 (pm_r τ) (τ 0 17)) 9 (pm_r τ) x) 10 (pm_r τ) (vp_nar .boolean (nI (0)))) 0 8)) rfl dX4_stripeIs_339 rfl ?_
                      refine vv_top (y := nI (pm_r τ)) (hJc.1.1) ?_
                      refine vv_iload_n (q := 343) hC dX4_stripeIs_342 (x := nI (wn)) rfl rfl ?_
                      refine pm_st_ways (q := 344) hY hC (i := pm_r τ) (x := nI (wn)) (by omega) dX4_stripeIs_343 rfl ?_
                      refine vv_st (σ' := pm_a1 τ s x wn) (by unfold pm_a1; rw [show vp_nar .boolean (nI 0) = nI 0 from by decide, if_pos c_33]) ?_
                      refine vv_iconst (q := 345) hC (nI 0) dX4_stripeIs_344 (by decide) rfl ?_
                      refine vv_istore (L' := [(0, .ref (Y.2.1 (0))), (1, .int (nI (s))), (2, .int (x)), (3, .int (nI (wn))), (4, .int (nI (0))), (5, .int (nI (cc9))), (6, .int (nI (0)))]) (q := 347) hC dX4_stripeIs_345 (by decide) rfl rfl rfl ?_
                      have lp_347 : ∀ i : Nat, (i ≤ 48) → vv_V Y 9 Z (pm_a2 τ s x wn i) 347 [(0, .ref (Y.2.1 (0))), (1, .int (nI (s))), (2, .int (x)), (3, .int (nI (wn))), (4, .int (nI (0))), (5, .int (nI (cc9))), (6, .int (nI (i)))] [] := by
                        refine vv_ind (fun i => 48 - i) (fun i ih_347 => ?_)
                        intro hi
                        refine vv_iload (q := 349) hC dX4_stripeIs_347 (x := nI (i)) rfl rfl ?_
                        refine vv_bipush (q := 351) hC (nI 48) dX4_stripeIs_349 (by decide) rfl ?_
                        refine vv_icmpN_ge (x := i) (y := 48) (q := 354) (tgt := 382) hC dX4_stripeIs_351 (by decide) (by omega) (by omega) rfl (fun c_351 => ?_) (fun c_351 => ?_)
                        · have e48 : i = 48 := by omega
                          refine vv_st (σ' := pm_a2 τ s x wn 48) (by rw [e48]) ?_
                          refine vv_aload_n (q := 383) hC dX4_stripeIs_382 (x := Y.2.1 (0)) rfl rfl ?_
                          refine vv_dup (q := 384) hC dX4_stripeIs_383 rfl rfl ?_
                          refine pm_gM (q := 387) hY hC 8 hi_X4 hf_records (by decide) rfl (v := .int ((pm_a2 τ s x wn 48) 0 8)) rfl dX4_stripeIs_384 rfl ?_
                          refine vv_top (y := nI (pm_r τ)) (hJc.1.1) ?_
                          refine vv_iconst (q := 388) hC (nI 1) dX4_stripeIs_387 (by decide) rfl ?_
                          refine vv_addN (x := pm_r τ) (y := 1) (q := 389) hC dX4_stripeIs_388 rfl ?_
                          refine pm_pM (q := 392) hY hC 8 hi_X4 hf_records (by decide) rfl rfl (x := nI ((pm_r τ) + 1)) (ty := .int) (by decide +kernel) rfl rfl (fun _ => rfl) dX4_stripeIs_389 rfl ?_
                          refine vv_aload_n (q := 393) hC dX4_stripeIs_392 (x := Y.2.1 (0)) rfl rfl ?_
                          refine vv_dup (q := 394) hC dX4_stripeIs_393 rfl rfl ?_
                          refine pm_gM (q := 397) hY hC 17 hi_X4 hf_nextSerial (by decide) rfl (v := .int ((vv_up (pm_a2 τ s x wn 48) 0 8 (nI ((pm_r τ) + 1))) 0 17)) rfl dX4_stripeIs_394 rfl ?_
                          refine vv_top (y := τ 0 17) (rfl) ?_
                          refine vv_iconst (q := 398) hC (nI 1) dX4_stripeIs_397 (by decide) rfl ?_
                          refine vv_iadd (x := τ 0 17) (y := nI (1)) (q := 399) hC dX4_stripeIs_398 rfl ?_
                          refine pm_pM (q := 402) hY hC 17 hi_X4 hf_nextSerial (by decide) rfl rfl (x := (τ 0 17) + (nI (1))) (ty := .int) (by decide +kernel) rfl rfl (fun _ => rfl) dX4_stripeIs_399 rfl ?_
                          refine vv_st (σ' := pm_a3 τ s x wn) (rfl) ?_
                          refine vv_aload_n (q := 403) hC dX4_stripeIs_402 (x := Y.2.1 (0)) rfl rfl ?_
                          refine pm_gM (q := 406) hY hC 22 hi_X4 hf_counts (by decide) rfl (v := .ref (Y.2.1 (13))) rfl dX4_stripeIs_403 rfl ?_
                          refine vv_iconst (q := 407) hC (nI 4) dX4_stripeIs_406 (by decide) rfl ?_
                          refine vv_dup2 (q := 408) hC dX4_stripeIs_407 rfl rfl rfl ?_
                          refine pm_ld_counts (q := 409) hY hC (i := 4) (by omega) dX4_stripeIs_408 rfl ?_
                          refine vv_iconst (q := 410) hC (nI 1) dX4_stripeIs_409 (by decide) rfl ?_
                          refine vv_iadd (x := (pm_a3 τ s x wn) 13 4) (y := nI (1)) (q := 411) hC dX4_stripeIs_410 rfl ?_
                          refine pm_st_counts (q := 412) hY hC (i := 4) (x := ((pm_a3 τ s x wn) 13 4) + (nI (1))) (by omega) dX4_stripeIs_411 rfl ?_
                          refine vv_st (σ' := pm_tl (pm_a3 τ s x wn) 4) (rfl) ?_
                          refine vv_aload_n (q := 413) hC dX4_stripeIs_412 (x := Y.2.1 (0)) rfl rfl ?_
                          refine pm_gM (q := 416) hY hC 22 hi_X4 hf_counts (by decide) rfl (v := .ref (Y.2.1 (13))) rfl dX4_stripeIs_413 rfl ?_
                          refine vv_bipush (q := 418) hC (nI 9) dX4_stripeIs_416 (by decide) rfl ?_
                          refine vv_iload_n (q := 419) hC dX4_stripeIs_418 (x := nI (wn)) rfl rfl ?_
                          refine vv_addN (x := 9) (y := wn) (q := 420) hC dX4_stripeIs_419 rfl ?_
                          refine vv_dup2 (q := 421) hC dX4_stripeIs_420 rfl rfl rfl ?_
                          refine pm_ld_counts (q := 422) hY hC (i := 9 + wn) (by omega) dX4_stripeIs_421 rfl ?_
                          refine vv_iconst (q := 423) hC (nI 1) dX4_stripeIs_422 (by decide) rfl ?_
                          refine vv_iadd (x := (pm_tl (pm_a3 τ s x wn) 4) 13 (9 + wn)) (y := nI (1)) (q := 424) hC dX4_stripeIs_423 rfl ?_
                          refine pm_st_counts (q := 425) hY hC (i := 9 + wn) (x := ((pm_tl (pm_a3 τ s x wn) 4) 13 (9 + wn)) + (nI (1))) (by omega) dX4_stripeIs_424 rfl ?_
                          refine vv_iconst (q := 426) hC (nI 0) dX4_stripeIs_425 (by decide) rfl ?_
                          refine vv_iret (v := nI (0)) hC dX4_stripeIs_426 ?_
                          rw [hp]
                          rw [hst]
                          unfold pm_stw
                          rw [hd2, if_pos rfl, hc2, if_pos rfl]
                          exact ⟨rfl, rfl⟩
                        · refine vv_aload_n (q := 355) hC dX4_stripeIs_354 (x := Y.2.1 (0)) rfl rfl ?_
                          refine pm_gM (q := 358) hY hC 14 hi_X4 hf_kept (by decide) rfl (v := .ref (Y.2.1 (12))) rfl dX4_stripeIs_355 rfl ?_
                          refine vv_bipush (q := 360) hC (nI 48) dX4_stripeIs_358 (by decide) rfl ?_
                          refine vv_aload_n (q := 361) hC dX4_stripeIs_360 (x := Y.2.1 (0)) rfl rfl ?_
                          refine pm_gM (q := 364) hY hC 8 hi_X4 hf_records (by decide) rfl (v := .int ((pm_a2 τ s x wn i) 0 8)) rfl dX4_stripeIs_361 rfl ?_
                          refine vv_top (y := nI (pm_r τ)) (hJc.1.1) ?_
                          refine vv_mulN (x := 48) (y := pm_r τ) (q := 365) hC dX4_stripeIs_364 rfl ?_
                          refine vv_iload (q := 367) hC dX4_stripeIs_365 (x := nI (i)) rfl rfl ?_
                          refine vv_addN (x := 48 * (pm_r τ)) (y := i) (q := 368) hC dX4_stripeIs_367 rfl ?_
                          refine vv_aload_n (q := 369) hC dX4_stripeIs_368 (x := Y.2.1 (0)) rfl rfl ?_
                          refine pm_gM (q := 372) hY hC 24 hi_X4 hf_given (by decide) rfl (v := .ref (Y.2.1 (15))) rfl dX4_stripeIs_369 rfl ?_
                          refine vv_iload (q := 374) hC dX4_stripeIs_372 (x := nI (i)) rfl rfl ?_
                          refine pm_ld_given (q := 375) hY hC (i := i) (by omega) dX4_stripeIs_374 rfl ?_
                          refine vv_top (y := τ 15 i) (by unfold pm_a2 pm_a1; rw [vv_row_n (by decide), vv_up_n (by decide), vv_up_n (by decide), vv_up_n (by decide), vv_up_n (by decide), vv_up_n (by decide)]) ?_
                          refine pm_st_kept (q := 376) hY hC (i := (48 * (pm_r τ)) + i) (x := τ 15 i) (by omega) dX4_stripeIs_375 rfl ?_
                          refine vv_iincN (x := i) (L' := [(0, .ref (Y.2.1 (0))), (1, .int (nI (s))), (2, .int (x)), (3, .int (nI (wn))), (4, .int (nI (0))), (5, .int (nI (cc9))), (6, .int (nI (i + 1)))]) (q := 379) hC dX4_stripeIs_376 rfl (by decide) rfl rfl rfl ?_
                          refine vv_goto (tgt := 347) hC dX4_stripeIs_379 (by decide) ?_
                          refine vv_st (σ' := pm_a2 τ s x wn (i + 1)) (by unfold pm_a2; rw [vv_up_row]; exact congrArg (vv_row (pm_a1 τ s x wn) 12) (vv_upd_rng (F := τ 15))) ?_
                          exact ih_347 (i + 1) (by first | omega | (dsimp only; omega))  (by omega)
                      refine vv_st (σ' := pm_a2 τ s x wn 0) (by unfold pm_a2; exact (vv_row_of (by funext j; rw [if_neg (by omega)]; rfl)).symm) ?_
                      exact lp_347 0 (by omega)
                    · refine vv_aload_n (q := 265) hC dX4_stripeIs_264 (x := Y.2.1 (0)) rfl rfl ?_
                      refine pm_gM (q := 268) hY hC 22 hi_X4 hf_counts (by decide) rfl (v := .ref (Y.2.1 (13))) rfl dX4_stripeIs_265 rfl ?_
                      refine vv_iconst (q := 269) hC (nI 1) dX4_stripeIs_268 (by decide) rfl ?_
                      refine vv_dup2 (q := 270) hC dX4_stripeIs_269 rfl rfl rfl ?_
                      refine pm_ld_counts (q := 271) hY hC (i := 1) (by omega) dX4_stripeIs_270 rfl ?_
                      refine vv_iconst (q := 272) hC (nI 1) dX4_stripeIs_271 (by decide) rfl ?_
                      refine vv_iadd (x := τ 13 1) (y := nI (1)) (q := 273) hC dX4_stripeIs_272 rfl ?_
                      refine pm_st_counts (q := 274) hY hC (i := 1) (x := (τ 13 1) + (nI (1))) (by omega) dX4_stripeIs_273 rfl ?_
                      refine vv_st (σ' := pm_tl τ 1) (rfl) ?_
                      refine vv_aload_n (q := 275) hC dX4_stripeIs_274 (x := Y.2.1 (0)) rfl rfl ?_
                      refine vv_callV (n := 0) (k := 0) (As := []) (st := []) (q := 278) hC (hY.k (by decide)) (hY.M _) (by rw [hY.cl]; rfl) (cm_X4_goes _ Y n hY (pm_tl τ 1)  ) gX4_stripeIs_X4_goes rfl (by decide +kernel) dX4_stripeIs_275 rfl rfl rfl (vv_kR ?_)
                      refine vv_ifB_eq (b := (pm_tl τ 1) 0 19 = 0) (q := 281) (tgt := 284) hC dX4_stripeIs_278 (by decide) rfl (fun c_278 => ?_) (fun c_278 => ?_)
                      · refine vv_iincN (x := k) (L' := [(0, .ref (Y.2.1 (0))), (1, .int (nI (s))), (2, .int (x)), (3, .int (nI (wn))), (4, .int (nI (0))), (5, .int (nI (cc9))), (6, .int (nI (k + 1)))]) (q := 287) hC dX4_stripeIs_284 rfl (by decide) rfl rfl rfl ?_
                        refine vv_goto (tgt := 257) hC dX4_stripeIs_287 (by decide) ?_
                        exact ih_257 (k + 1) (by first | omega | (dsimp only; omega)) (pm_go (pm_tl τ 1) n) (by omega) (by rw [hv, show cc9 - k = (cc9 - (k + 1)) + 1 by omega]; exact if_neg (show ¬ τ 0 19 = 0 from c_278))
                      · refine vv_bipush (q := 283) hC ((-106)) dX4_stripeIs_281 (by decide) rfl ?_
                        refine vv_iret (v := (-106)) hC dX4_stripeIs_283 ?_
                        rw [hp]
                        rw [hst]
                        unfold pm_stw
                        have hc2 : pm_sc σ n r s x wn = (false, pm_go (pm_tl τ 1) n) := by
                          rw [hv, show cc9 - k = (cc9 - (k + 1)) + 1 by omega]
                          exact if_pos (show τ 0 19 = 0 from c_278)
                        rw [hd2, if_pos rfl, hc2, if_neg (fun z => by cases z)]
                        exact ⟨rfl, rfl⟩
                  exact lp_257 0 τ (by omega) (by unfold pm_sc; rw [← hcc, hd2]; rfl)
                · have hrp : 0 < pm_r τ := by
                    rcases Nat.eq_zero_or_pos (pm_r τ) with z | z
                    · exfalso; apply c_241; rw [z]; show nI cc9 ≤ nI 32; exact nI_le (by omega) (by decide)
                    · exact z
                  refine vv_aload_n (q := 245) hC dX4_stripeIs_244 (x := Y.2.1 (0)) rfl rfl ?_
                  refine vv_callV (n := 0) (k := 0) (As := []) (st := []) (q := 248) hC (hY.k (by decide)) (hY.M _) (by rw [hY.cl]; rfl) (cm_X4_drained _ Y n hY τ  hJt hrp) gX4_stripeIs_X4_drained rfl (by decide +kernel) dX4_stripeIs_245 rfl rfl rfl (vv_kR ?_)
                  refine vv_ifB_ne (b := (pm_dr1 n τ).1 = true) (q := 251) (tgt := 235) hC dX4_stripeIs_248 (by decide) rfl (fun c_248 => ?_) (fun c_248 => ?_)
                  · exact ih_235 (f - 1) (by first | omega | (dsimp only; omega)) ((pm_dr1 n τ).2) (by rw [(pm_dr1_J hJt hrp).2 c_248, hf]) (pm_dr1_J hJt hrp).1 (by rw [hv, show f = (f - 1) + 1 by omega]; exact (if_pos (Int32.not_le.mp c_241)).trans (if_pos c_248))
                  · refine vv_bipush (q := 253) hC ((-106)) dX4_stripeIs_251 (by decide) rfl ?_
                    refine vv_iret (v := (-106)) hC dX4_stripeIs_253 ?_
                    rw [hp]
                    rw [hst]
                    unfold pm_stw
                    have hd2 : pm_sd σ n r s x wn = (false, (pm_dr1 n τ).2) := by
                      rw [hv, show f = (f - 1) + 1 by omega]
                      exact (if_pos (Int32.not_le.mp c_241)).trans (if_neg c_248)
                    rw [hd2, if_neg (fun z => by cases z)]
                    exact ⟨rfl, rfl⟩
              refine vv_sub (L' := [(0, .ref (Y.2.1 (0))), (1, .int (nI (s))), (2, .int (x)), (3, .int (nI (wn))), (4, .int (nI (0))), (5, .int (nI ((if wn = 1 then 2 else 3) + pm_nb x d)))]) (by simp) ?_
              refine vv_loc (L' := [(0, .ref (Y.2.1 (0))), (1, .int (nI (s))), (2, .int (x)), (3, .int (nI (wn))), (4, .int (nI (0))), (5, .int (nI (cc9)))]) (by rw [hcc, show d = n - 1 by omega]; rfl) ?_
              exact lp_235 r (pm_wi σ n r s x wn 8) (by rw [pm_r_eq (by rw [pm_wi_o (by decide) (by decide)]; exact hr) (by omega)]) (pm_wi_J hJ) (by unfold pm_sd; rw [← hcc])
            · refine vv_iload (q := 220) hC dX4_stripeIs_218 (x := nI ((if wn = 1 then 2 else 3) + pm_nb x d)) rfl rfl ?_
              refine vv_iload_n (q := 221) hC dX4_stripeIs_220 (x := x) rfl rfl ?_
              refine vv_iload (q := 223) hC dX4_stripeIs_221 (x := nI (d)) rfl rfl ?_
              refine vv_ishr (x := x) (y := nI (d)) (q := 224) hC dX4_stripeIs_223 rfl ?_
              refine vv_iconst (q := 225) hC (nI 1) dX4_stripeIs_224 (by decide) rfl ?_
              refine vv_iand (x := x >>> ((nI (d)) &&& 31)) (y := nI (1)) (q := 226) hC dX4_stripeIs_225 rfl ?_
              refine vv_top (y := nI (if pc_bit x d then 1 else 0)) (pm_bit01 _ _) ?_
              refine vv_addN (x := (if wn = 1 then 2 else 3) + pm_nb x d) (y := if pc_bit x d then 1 else 0) (q := 227) hC dX4_stripeIs_226 rfl ?_
              refine vv_istore (L' := [(0, .ref (Y.2.1 (0))), (1, .int (nI (s))), (2, .int (x)), (3, .int (nI (wn))), (4, .int (nI (0))), (5, .int (nI (((if wn = 1 then 2 else 3) + pm_nb x d) + (if pc_bit x d then 1 else 0)))), (6, .int (nI (d)))]) (q := 229) hC dX4_stripeIs_227 (by decide) rfl rfl rfl ?_
              refine vv_iincN (x := d) (L' := [(0, .ref (Y.2.1 (0))), (1, .int (nI (s))), (2, .int (x)), (3, .int (nI (wn))), (4, .int (nI (0))), (5, .int (nI (((if wn = 1 then 2 else 3) + pm_nb x d) + (if pc_bit x d then 1 else 0)))), (6, .int (nI (d + 1)))]) (q := 232) hC dX4_stripeIs_229 rfl (by decide) rfl rfl rfl ?_
              refine vv_goto (tgt := 207) hC dX4_stripeIs_232 (by decide) ?_
              refine vv_loc (L' := [(0, .ref (Y.2.1 (0))), (1, .int (nI (s))), (2, .int (x)), (3, .int (nI (wn))), (4, .int (nI (0))), (5, .int (nI ((if wn = 1 then 2 else 3) + pm_nb x (d + 1)))), (6, .int (nI ((d + 1))))]) (by rw [show pm_nb x (d + 1) = pm_nb x d + (if pc_bit x d then 1 else 0) from rfl, Nat.add_assoc]) ?_
              exact ih_207 (d + 1) (by first | omega | (dsimp only; omega))  (by omega) pm_nb_le
          refine vv_loc (L' := [(0, .ref (Y.2.1 (0))), (1, .int (nI (s))), (2, .int (x)), (3, .int (nI (wn))), (4, .int (nI (0))), (5, .int (nI ((if wn = 1 then 2 else 3) + pm_nb x 0))), (6, .int (nI (0)))]) (by rw [if_pos c_33]; rfl) ?_
          exact lp_207 0 (by omega) (Nat.le_refl 0)
        · refine vv_iload_n (q := 54) hC dX4_stripeIs_53 (x := nI (wn)) rfl rfl ?_
          refine vv_iconst (q := 55) hC (nI 2) dX4_stripeIs_54 (by decide) rfl ?_
          refine vv_icmpN_ne (x := wn) (y := 2) (q := 58) (tgt := 69) hC dX4_stripeIs_55 (by decide) (by omega) (by omega) rfl (fun c_55 => ?_) (fun c_55 => ?_)
          · refine vv_iconst (q := 70) hC (nI 0) dX4_stripeIs_69 (by decide) rfl ?_
            refine vv_istore (L' := [(0, .ref (Y.2.1 (0))), (1, .int (nI (s))), (2, .int (x)), (3, .int (nI (wn))), (4, .int (nI (0))), (5, .int (nI (i))), (6, .int (nI (0)))]) (q := 72) hC dX4_stripeIs_70 (by decide) rfl rfl rfl ?_
            refine vv_iconst (q := 73) hC (nI 0) dX4_stripeIs_72 (by decide) rfl ?_
            refine vv_istore (L' := [(0, .ref (Y.2.1 (0))), (1, .int (nI (s))), (2, .int (x)), (3, .int (nI (wn))), (4, .int (nI (0))), (5, .int (nI (i))), (6, .int (nI (0))), (7, .int (nI (0)))]) (q := 75) hC dX4_stripeIs_73 (by decide) rfl rfl rfl ?_
            have lp_75 : ∀ d : Nat, (d ≤ n - 1) → vv_V Y 9 Z (pm_wi σ n r s x wn i) 75 [(0, .ref (Y.2.1 (0))), (1, .int (nI (s))), (2, .int (x)), (3, .int (nI (wn))), (4, .int (nI (0))), (5, .int (nI (i))), (6, .int (pm_px σ n r s x wn i d)), (7, .int (nI (d)))] [] := by
              refine vv_ind (fun d => n - d) (fun d ih_75 => ?_)
              intro hd
              refine vv_iload (q := 77) hC dX4_stripeIs_75 (x := nI (d)) rfl rfl ?_
              refine vv_aload_n (q := 78) hC dX4_stripeIs_77 (x := Y.2.1 (0)) rfl rfl ?_
              refine pm_gM (q := 81) hY hC 1 hi_X4 hf_many (by decide) rfl (v := .int (nI (n))) rfl dX4_stripeIs_78 rfl ?_
              refine vv_iconst (q := 82) hC (nI 1) dX4_stripeIs_81 (by decide) rfl ?_
              refine vv_subN (x := n) (y := 1) (q := 83) hC dX4_stripeIs_82 (by omega) rfl ?_
              refine vv_icmpN_ge (x := d) (y := n - 1) (q := 86) (tgt := 174) hC dX4_stripeIs_83 (by decide) (by omega) (by omega) rfl (fun c_83 => ?_) (fun c_83 => ?_)
              · have ed : d = n - 1 := by omega
                refine vv_loc (L' := [(0, .ref (Y.2.1 (0))), (1, .int (nI (s))), (2, .int (x)), (3, .int (nI (wn))), (4, .int (nI (0))), (5, .int (nI (i))), (6, .int (pm_px σ n r s x wn i (n - 1))), (7, .int (nI (d)))]) (by rw [ed]) ?_
                refine vv_aload_n (q := 175) hC dX4_stripeIs_174 (x := Y.2.1 (0)) rfl rfl ?_
                refine pm_gM (q := 178) hY hC 24 hi_X4 hf_given (by decide) rfl (v := .ref (Y.2.1 (15))) rfl dX4_stripeIs_175 rfl ?_
                refine vv_bipush (q := 180) hC (nI 40) dX4_stripeIs_178 (by decide) rfl ?_
                refine vv_iload (q := 182) hC dX4_stripeIs_180 (x := nI (i)) rfl rfl ?_
                refine vv_addN (x := 40) (y := i) (q := 183) hC dX4_stripeIs_182 rfl ?_
                refine vv_iload (q := 185) hC dX4_stripeIs_183 (x := pm_px σ n r s x wn i (n - 1)) rfl rfl ?_
                refine pm_st_given (q := 186) hY hC (i := 40 + i) (x := pm_px σ n r s x wn i (n - 1)) (by omega) dX4_stripeIs_185 rfl ?_
                refine vv_iincN (x := i) (L' := [(0, .ref (Y.2.1 (0))), (1, .int (nI (s))), (2, .int (x)), (3, .int (nI (wn))), (4, .int (nI (0))), (5, .int (nI (i + 1))), (6, .int (pm_px σ n r s x wn i (n - 1))), (7, .int (nI (d)))]) (q := 189) hC dX4_stripeIs_186 rfl (by decide) rfl rfl rfl ?_
                refine vv_goto (tgt := 46) hC dX4_stripeIs_189 (by decide) ?_
                refine vv_sub (L' := [(0, .ref (Y.2.1 (0))), (1, .int (nI (s))), (2, .int (x)), (3, .int (nI (wn))), (4, .int (nI (0))), (5, .int (nI (i + 1)))]) (by simp) ?_
                refine vv_st (σ' := pm_wi σ n r s x wn (i + 1)) (by unfold pm_wi; rw [vv_up_row]; exact congrArg (vv_row (pm_w1 σ n r s x wn) 15) (vv_upd_rng (F := fun j => pm_px σ n r s x wn j (n - 1)))) ?_
                exact ih_46 (i + 1) (by first | omega | (dsimp only; omega))  (by omega)
              · refine vv_iload_n (q := 87) hC dX4_stripeIs_86 (x := x) rfl rfl ?_
                refine vv_iload (q := 89) hC dX4_stripeIs_87 (x := nI (d)) rfl rfl ?_
                refine vv_ishr (x := x) (y := nI (d)) (q := 90) hC dX4_stripeIs_89 rfl ?_
                refine vv_iconst (q := 91) hC (nI 1) dX4_stripeIs_90 (by decide) rfl ?_
                refine vv_iand (x := x >>> ((nI (d)) &&& 31)) (y := nI (1)) (q := 92) hC dX4_stripeIs_91 rfl ?_
                refine vv_iconst (q := 93) hC (nI 1) dX4_stripeIs_92 (by decide) rfl ?_
                refine vv_icmp_ne (x := (x >>> ((nI (d)) &&& 31)) &&& (nI (1))) (y := nI (1)) (q := 96) (tgt := 100) hC dX4_stripeIs_93 (by decide) rfl (fun c_93 => ?_) (fun c_93 => ?_)
                · refine vv_iconst (q := 101) hC (nI 0) dX4_stripeIs_100 (by decide) rfl ?_
                  refine vv_istore (L' := [(0, .ref (Y.2.1 (0))), (1, .int (nI (s))), (2, .int (x)), (3, .int (nI (wn))), (4, .int (nI (0))), (5, .int (nI (i))), (6, .int (pm_px σ n r s x wn i d)), (7, .int (nI (d))), (8, .int (nI (0)))]) (q := 103) hC dX4_stripeIs_101 (by decide) rfl rfl rfl ?_
                  refine vv_iload (q := 105) hC dX4_stripeIs_103 (x := pm_px σ n r s x wn i d) rfl rfl ?_
                  refine vv_iload (q := 107) hC dX4_stripeIs_105 (x := nI (0)) rfl rfl ?_
                  refine vv_if_eq (x := nI (0)) (q := 110) (tgt := 126) hC dX4_stripeIs_107 (by decide) rfl (fun c_107 => ?_) (fun c_107 => absurd c_107 (by decide))
                  refine vv_iconst (q := 127) hC (nI 0) dX4_stripeIs_126 (by decide) rfl ?_
                  refine vv_ixor (x := pm_px σ n r s x wn i d) (y := nI (0)) (q := 128) hC dX4_stripeIs_127 rfl ?_
                  refine vv_istore (L' := [(0, .ref (Y.2.1 (0))), (1, .int (nI (s))), (2, .int (x)), (3, .int (nI (wn))), (4, .int (nI (0))), (5, .int (nI (i))), (6, .int ((pm_px σ n r s x wn i d) ^^^ (nI (0)))), (7, .int (nI (d))), (8, .int (nI (0)))]) (q := 130) hC dX4_stripeIs_128 (by decide) rfl rfl rfl ?_
                  refine vv_iload (q := 132) hC dX4_stripeIs_130 (x := (pm_px σ n r s x wn i d) ^^^ (nI (0))) rfl rfl ?_
                  refine vv_iload_n (q := 133) hC dX4_stripeIs_132 (x := nI (wn)) rfl rfl ?_
                  refine vv_iconst (q := 134) hC (nI 1) dX4_stripeIs_133 (by decide) rfl ?_
                  refine vv_icmpN_le (x := wn) (y := 1) (q := 137) (tgt := 164) hC dX4_stripeIs_134 (by decide) (by omega) (by omega) rfl (fun c_134 => ?_) (fun c_134 => ?_)
                  · refine vv_iconst (q := 165) hC (nI 0) dX4_stripeIs_164 (by decide) rfl ?_
                    refine vv_ixor (x := (pm_px σ n r s x wn i d) ^^^ (nI (0))) (y := nI (0)) (q := 166) hC dX4_stripeIs_165 rfl ?_
                    refine vv_istore (L' := [(0, .ref (Y.2.1 (0))), (1, .int (nI (s))), (2, .int (x)), (3, .int (nI (wn))), (4, .int (nI (0))), (5, .int (nI (i))), (6, .int (((pm_px σ n r s x wn i d) ^^^ (nI (0))) ^^^ (nI (0)))), (7, .int (nI (d))), (8, .int (nI (0)))]) (q := 168) hC dX4_stripeIs_166 (by decide) rfl rfl rfl ?_
                    refine vv_iincN (x := d) (L' := [(0, .ref (Y.2.1 (0))), (1, .int (nI (s))), (2, .int (x)), (3, .int (nI (wn))), (4, .int (nI (0))), (5, .int (nI (i))), (6, .int (((pm_px σ n r s x wn i d) ^^^ (nI (0))) ^^^ (nI (0)))), (7, .int (nI (d + 1))), (8, .int (nI (0)))]) (q := 171) hC dX4_stripeIs_168 rfl (by decide) rfl rfl rfl ?_
                    refine vv_goto (tgt := 75) hC dX4_stripeIs_171 (by decide) ?_
                    refine vv_sub (L' := [(0, .ref (Y.2.1 (0))), (1, .int (nI (s))), (2, .int (x)), (3, .int (nI (wn))), (4, .int (nI (0))), (5, .int (nI (i))), (6, .int (((pm_px σ n r s x wn i d) ^^^ (nI (0))) ^^^ (nI (0)))), (7, .int (nI (d + 1)))]) (by simp) ?_
                    refine vv_loc (L' := [(0, .ref (Y.2.1 (0))), (1, .int (nI (s))), (2, .int (x)), (3, .int (nI (wn))), (4, .int (nI (0))), (5, .int (nI (i))), (6, .int (pm_px σ n r s x wn i (d + 1))), (7, .int (nI ((d + 1))))]) (by rw [show pm_px σ n r s x wn i (d + 1) = (pm_px σ n r s x wn i d ^^^ _) ^^^ _ from rfl, if_neg c_93, if_neg (fun z => absurd z.1 (by omega))]) ?_
                    exact ih_75 (d + 1) (by first | omega | (dsimp only; omega))  (by omega)
                  · refine vv_iload (q := 139) hC dX4_stripeIs_137 (x := nI (0)) rfl rfl ?_
                    refine vv_iload_n (q := 140) hC dX4_stripeIs_139 (x := nI (wn)) rfl rfl ?_
                    refine vv_iconst (q := 141) hC (nI 2) dX4_stripeIs_140 (by decide) rfl ?_
                    refine vv_icmpN_ne (x := wn) (y := 2) (q := 144) (tgt := 148) hC dX4_stripeIs_141 (by decide) (by omega) (by omega) rfl (fun c_141 => ?_) (fun c_141 => ?_)
                    · refine vv_iconst (q := 149) hC (nI 0) dX4_stripeIs_148 (by decide) rfl ?_
                      refine vv_icmpN_ne (x := 0) (y := 0) (q := 152) (tgt := 164) hC dX4_stripeIs_149 (by decide) (by omega) (by omega) rfl (fun c_149 => absurd c_149 (by decide)) (fun c_149 => ?_)
                      refine vv_aload_n (q := 153) hC dX4_stripeIs_152 (x := Y.2.1 (0)) rfl rfl ?_
                      refine vv_iload_n (q := 154) hC dX4_stripeIs_153 (x := nI (s)) rfl rfl ?_
                      refine vv_iload (q := 156) hC dX4_stripeIs_154 (x := nI (d)) rfl rfl ?_
                      refine vv_iload (q := 158) hC dX4_stripeIs_156 (x := nI (i)) rfl rfl ?_
                      refine vv_callV (n := 3) (k := 0) (As := [.int (nI (s)), .int (nI (d)), .int (nI (i))]) (st := [.int ((pm_px σ n r s x wn i d) ^^^ (nI (0)))]) (q := 161) hC (hY.k (by decide)) (hY.M _) (by rw [hY.cl]; rfl) (cm_X4_newest _ Y n hY (pm_wi σ n r s x wn i) r s d i (by rw [pm_wi_o (by decide) (by decide)]; exact hr) (by omega) (by omega) (Or.inr (by omega)) (by omega)) gX4_stripeIs_X4_newest rfl (by decide +kernel) dX4_stripeIs_158 rfl rfl rfl (vv_kR ?_)
                      refine vv_top (y := pm_nw σ n r s d i) (pm_nw_congr (fun k h13 h15 => pm_wi_o h13 h15)) ?_
                      refine vv_goto (tgt := 165) hC dX4_stripeIs_161 (by decide) ?_
                      refine vv_ixor (x := (pm_px σ n r s x wn i d) ^^^ (nI (0))) (y := pm_nw σ n r s d i) (q := 166) hC dX4_stripeIs_165 rfl ?_
                      refine vv_istore (L' := [(0, .ref (Y.2.1 (0))), (1, .int (nI (s))), (2, .int (x)), (3, .int (nI (wn))), (4, .int (nI (0))), (5, .int (nI (i))), (6, .int (((pm_px σ n r s x wn i d) ^^^ (nI (0))) ^^^ (pm_nw σ n r s d i))), (7, .int (nI (d))), (8, .int (nI (0)))]) (q := 168) hC dX4_stripeIs_166 (by decide) rfl rfl rfl ?_
                      refine vv_iincN (x := d) (L' := [(0, .ref (Y.2.1 (0))), (1, .int (nI (s))), (2, .int (x)), (3, .int (nI (wn))), (4, .int (nI (0))), (5, .int (nI (i))), (6, .int (((pm_px σ n r s x wn i d) ^^^ (nI (0))) ^^^ (pm_nw σ n r s d i))), (7, .int (nI (d + 1))), (8, .int (nI (0)))]) (q := 171) hC dX4_stripeIs_168 rfl (by decide) rfl rfl rfl ?_
                      refine vv_goto (tgt := 75) hC dX4_stripeIs_171 (by decide) ?_
                      refine vv_sub (L' := [(0, .ref (Y.2.1 (0))), (1, .int (nI (s))), (2, .int (x)), (3, .int (nI (wn))), (4, .int (nI (0))), (5, .int (nI (i))), (6, .int (((pm_px σ n r s x wn i d) ^^^ (nI (0))) ^^^ (pm_nw σ n r s d i))), (7, .int (nI (d + 1)))]) (by simp) ?_
                      refine vv_loc (L' := [(0, .ref (Y.2.1 (0))), (1, .int (nI (s))), (2, .int (x)), (3, .int (nI (wn))), (4, .int (nI (0))), (5, .int (nI (i))), (6, .int (pm_px σ n r s x wn i (d + 1))), (7, .int (nI ((d + 1))))]) (by rw [show pm_px σ n r s x wn i (d + 1) = (pm_px σ n r s x wn i d ^^^ _) ^^^ _ from rfl, if_neg c_93, if_pos ⟨by omega, iff_of_false c_93 c_141⟩]) ?_
                      exact ih_75 (d + 1) (by first | omega | (dsimp only; omega))  (by omega)
                    · refine vv_iconst (q := 145) hC (nI 1) dX4_stripeIs_144 (by decide) rfl ?_
                      refine vv_goto (tgt := 149) hC dX4_stripeIs_145 (by decide) ?_
                      refine vv_icmpN_ne (x := 0) (y := 1) (q := 152) (tgt := 164) hC dX4_stripeIs_149 (by decide) (by omega) (by omega) rfl (fun c_149 => ?_) (fun c_149 => absurd c_149 (by decide))
                      refine vv_iconst (q := 165) hC (nI 0) dX4_stripeIs_164 (by decide) rfl ?_
                      refine vv_ixor (x := (pm_px σ n r s x wn i d) ^^^ (nI (0))) (y := nI (0)) (q := 166) hC dX4_stripeIs_165 rfl ?_
                      refine vv_istore (L' := [(0, .ref (Y.2.1 (0))), (1, .int (nI (s))), (2, .int (x)), (3, .int (nI (wn))), (4, .int (nI (0))), (5, .int (nI (i))), (6, .int (((pm_px σ n r s x wn i d) ^^^ (nI (0))) ^^^ (nI (0)))), (7, .int (nI (d))), (8, .int (nI (0)))]) (q := 168) hC dX4_stripeIs_166 (by decide) rfl rfl rfl ?_
                      refine vv_iincN (x := d) (L' := [(0, .ref (Y.2.1 (0))), (1, .int (nI (s))), (2, .int (x)), (3, .int (nI (wn))), (4, .int (nI (0))), (5, .int (nI (i))), (6, .int (((pm_px σ n r s x wn i d) ^^^ (nI (0))) ^^^ (nI (0)))), (7, .int (nI (d + 1))), (8, .int (nI (0)))]) (q := 171) hC dX4_stripeIs_168 rfl (by decide) rfl rfl rfl ?_
                      refine vv_goto (tgt := 75) hC dX4_stripeIs_171 (by decide) ?_
                      refine vv_sub (L' := [(0, .ref (Y.2.1 (0))), (1, .int (nI (s))), (2, .int (x)), (3, .int (nI (wn))), (4, .int (nI (0))), (5, .int (nI (i))), (6, .int (((pm_px σ n r s x wn i d) ^^^ (nI (0))) ^^^ (nI (0)))), (7, .int (nI (d + 1)))]) (by simp) ?_
                      refine vv_loc (L' := [(0, .ref (Y.2.1 (0))), (1, .int (nI (s))), (2, .int (x)), (3, .int (nI (wn))), (4, .int (nI (0))), (5, .int (nI (i))), (6, .int (pm_px σ n r s x wn i (d + 1))), (7, .int (nI ((d + 1))))]) (by rw [show pm_px σ n r s x wn i (d + 1) = (pm_px σ n r s x wn i d ^^^ _) ^^^ _ from rfl, if_neg c_93, if_neg (fun z => c_93 (z.2.mpr c_141))]) ?_
                      exact ih_75 (d + 1) (by first | omega | (dsimp only; omega))  (by omega)
                · refine vv_iconst (q := 97) hC (nI 1) dX4_stripeIs_96 (by decide) rfl ?_
                  refine vv_goto (tgt := 101) hC dX4_stripeIs_97 (by decide) ?_
                  refine vv_istore (L' := [(0, .ref (Y.2.1 (0))), (1, .int (nI (s))), (2, .int (x)), (3, .int (nI (wn))), (4, .int (nI (0))), (5, .int (nI (i))), (6, .int (pm_px σ n r s x wn i d)), (7, .int (nI (d))), (8, .int (nI (1)))]) (q := 103) hC dX4_stripeIs_101 (by decide) rfl rfl rfl ?_
                  refine vv_iload (q := 105) hC dX4_stripeIs_103 (x := pm_px σ n r s x wn i d) rfl rfl ?_
                  refine vv_iload (q := 107) hC dX4_stripeIs_105 (x := nI (1)) rfl rfl ?_
                  refine vv_if_eq (x := nI (1)) (q := 110) (tgt := 126) hC dX4_stripeIs_107 (by decide) rfl (fun c_107 => absurd c_107 (by decide)) (fun c_107 => ?_)
                  refine vv_aload_n (q := 111) hC dX4_stripeIs_110 (x := Y.2.1 (0)) rfl rfl ?_
                  refine pm_gM (q := 114) hY hC 24 hi_X4 hf_given (by decide) rfl (v := .ref (Y.2.1 (15))) rfl dX4_stripeIs_111 rfl ?_
                  refine vv_bipush (q := 116) hC (nI 8) dX4_stripeIs_114 (by decide) rfl ?_
                  refine vv_iload (q := 118) hC dX4_stripeIs_116 (x := nI (d)) rfl rfl ?_
                  refine vv_mulN (x := 8) (y := d) (q := 119) hC dX4_stripeIs_118 rfl ?_
                  refine vv_iload (q := 121) hC dX4_stripeIs_119 (x := nI (i)) rfl rfl ?_
                  refine vv_addN (x := 8 * d) (y := i) (q := 122) hC dX4_stripeIs_121 rfl ?_
                  refine pm_ld_given (q := 123) hY hC (i := (8 * d) + i) (by omega) dX4_stripeIs_122 rfl ?_
                  refine vv_top (y := σ 15 (8 * d + i)) (by unfold pm_wi; rw [vv_row_s]; exact if_neg (by omega)) ?_
                  refine vv_goto (tgt := 127) hC dX4_stripeIs_123 (by decide) ?_
                  refine vv_ixor (x := pm_px σ n r s x wn i d) (y := σ 15 (8 * d + i)) (q := 128) hC dX4_stripeIs_127 rfl ?_
                  refine vv_istore (L' := [(0, .ref (Y.2.1 (0))), (1, .int (nI (s))), (2, .int (x)), (3, .int (nI (wn))), (4, .int (nI (0))), (5, .int (nI (i))), (6, .int ((pm_px σ n r s x wn i d) ^^^ (σ 15 (8 * d + i)))), (7, .int (nI (d))), (8, .int (nI (1)))]) (q := 130) hC dX4_stripeIs_128 (by decide) rfl rfl rfl ?_
                  refine vv_iload (q := 132) hC dX4_stripeIs_130 (x := (pm_px σ n r s x wn i d) ^^^ (σ 15 (8 * d + i))) rfl rfl ?_
                  refine vv_iload_n (q := 133) hC dX4_stripeIs_132 (x := nI (wn)) rfl rfl ?_
                  refine vv_iconst (q := 134) hC (nI 1) dX4_stripeIs_133 (by decide) rfl ?_
                  refine vv_icmpN_le (x := wn) (y := 1) (q := 137) (tgt := 164) hC dX4_stripeIs_134 (by decide) (by omega) (by omega) rfl (fun c_134 => ?_) (fun c_134 => ?_)
                  · refine vv_iconst (q := 165) hC (nI 0) dX4_stripeIs_164 (by decide) rfl ?_
                    refine vv_ixor (x := (pm_px σ n r s x wn i d) ^^^ (σ 15 (8 * d + i))) (y := nI (0)) (q := 166) hC dX4_stripeIs_165 rfl ?_
                    refine vv_istore (L' := [(0, .ref (Y.2.1 (0))), (1, .int (nI (s))), (2, .int (x)), (3, .int (nI (wn))), (4, .int (nI (0))), (5, .int (nI (i))), (6, .int (((pm_px σ n r s x wn i d) ^^^ (σ 15 (8 * d + i))) ^^^ (nI (0)))), (7, .int (nI (d))), (8, .int (nI (1)))]) (q := 168) hC dX4_stripeIs_166 (by decide) rfl rfl rfl ?_
                    refine vv_iincN (x := d) (L' := [(0, .ref (Y.2.1 (0))), (1, .int (nI (s))), (2, .int (x)), (3, .int (nI (wn))), (4, .int (nI (0))), (5, .int (nI (i))), (6, .int (((pm_px σ n r s x wn i d) ^^^ (σ 15 (8 * d + i))) ^^^ (nI (0)))), (7, .int (nI (d + 1))), (8, .int (nI (1)))]) (q := 171) hC dX4_stripeIs_168 rfl (by decide) rfl rfl rfl ?_
                    refine vv_goto (tgt := 75) hC dX4_stripeIs_171 (by decide) ?_
                    refine vv_sub (L' := [(0, .ref (Y.2.1 (0))), (1, .int (nI (s))), (2, .int (x)), (3, .int (nI (wn))), (4, .int (nI (0))), (5, .int (nI (i))), (6, .int (((pm_px σ n r s x wn i d) ^^^ (σ 15 (8 * d + i))) ^^^ (nI (0)))), (7, .int (nI (d + 1)))]) (by simp) ?_
                    refine vv_loc (L' := [(0, .ref (Y.2.1 (0))), (1, .int (nI (s))), (2, .int (x)), (3, .int (nI (wn))), (4, .int (nI (0))), (5, .int (nI (i))), (6, .int (pm_px σ n r s x wn i (d + 1))), (7, .int (nI ((d + 1))))]) (by rw [show pm_px σ n r s x wn i (d + 1) = (pm_px σ n r s x wn i d ^^^ _) ^^^ _ from rfl, if_pos c_93, if_neg (fun z => absurd z.1 (by omega))]) ?_
                    exact ih_75 (d + 1) (by first | omega | (dsimp only; omega))  (by omega)
                  · refine vv_iload (q := 139) hC dX4_stripeIs_137 (x := nI (1)) rfl rfl ?_
                    refine vv_iload_n (q := 140) hC dX4_stripeIs_139 (x := nI (wn)) rfl rfl ?_
                    refine vv_iconst (q := 141) hC (nI 2) dX4_stripeIs_140 (by decide) rfl ?_
                    refine vv_icmpN_ne (x := wn) (y := 2) (q := 144) (tgt := 148) hC dX4_stripeIs_141 (by decide) (by omega) (by omega) rfl (fun c_141 => ?_) (fun c_141 => ?_)
                    · refine vv_iconst (q := 149) hC (nI 0) dX4_stripeIs_148 (by decide) rfl ?_
                      refine vv_icmpN_ne (x := 1) (y := 0) (q := 152) (tgt := 164) hC dX4_stripeIs_149 (by decide) (by omega) (by omega) rfl (fun c_149 => ?_) (fun c_149 => absurd c_149 (by decide))
                      refine vv_iconst (q := 165) hC (nI 0) dX4_stripeIs_164 (by decide) rfl ?_
                      refine vv_ixor (x := (pm_px σ n r s x wn i d) ^^^ (σ 15 (8 * d + i))) (y := nI (0)) (q := 166) hC dX4_stripeIs_165 rfl ?_
                      refine vv_istore (L' := [(0, .ref (Y.2.1 (0))), (1, .int (nI (s))), (2, .int (x)), (3, .int (nI (wn))), (4, .int (nI (0))), (5, .int (nI (i))), (6, .int (((pm_px σ n r s x wn i d) ^^^ (σ 15 (8 * d + i))) ^^^ (nI (0)))), (7, .int (nI (d))), (8, .int (nI (1)))]) (q := 168) hC dX4_stripeIs_166 (by decide) rfl rfl rfl ?_
                      refine vv_iincN (x := d) (L' := [(0, .ref (Y.2.1 (0))), (1, .int (nI (s))), (2, .int (x)), (3, .int (nI (wn))), (4, .int (nI (0))), (5, .int (nI (i))), (6, .int (((pm_px σ n r s x wn i d) ^^^ (σ 15 (8 * d + i))) ^^^ (nI (0)))), (7, .int (nI (d + 1))), (8, .int (nI (1)))]) (q := 171) hC dX4_stripeIs_168 rfl (by decide) rfl rfl rfl ?_
                      refine vv_goto (tgt := 75) hC dX4_stripeIs_171 (by decide) ?_
                      refine vv_sub (L' := [(0, .ref (Y.2.1 (0))), (1, .int (nI (s))), (2, .int (x)), (3, .int (nI (wn))), (4, .int (nI (0))), (5, .int (nI (i))), (6, .int (((pm_px σ n r s x wn i d) ^^^ (σ 15 (8 * d + i))) ^^^ (nI (0)))), (7, .int (nI (d + 1)))]) (by simp) ?_
                      refine vv_loc (L' := [(0, .ref (Y.2.1 (0))), (1, .int (nI (s))), (2, .int (x)), (3, .int (nI (wn))), (4, .int (nI (0))), (5, .int (nI (i))), (6, .int (pm_px σ n r s x wn i (d + 1))), (7, .int (nI ((d + 1))))]) (by rw [show pm_px σ n r s x wn i (d + 1) = (pm_px σ n r s x wn i d ^^^ _) ^^^ _ from rfl, if_pos c_93, if_neg (fun z => c_141 (z.2.mp c_93))]) ?_
                      exact ih_75 (d + 1) (by first | omega | (dsimp only; omega))  (by omega)
                    · refine vv_iconst (q := 145) hC (nI 1) dX4_stripeIs_144 (by decide) rfl ?_
                      refine vv_goto (tgt := 149) hC dX4_stripeIs_145 (by decide) ?_
                      refine vv_icmpN_ne (x := 1) (y := 1) (q := 152) (tgt := 164) hC dX4_stripeIs_149 (by decide) (by omega) (by omega) rfl (fun c_149 => absurd c_149 (by decide)) (fun c_149 => ?_)
                      refine vv_aload_n (q := 153) hC dX4_stripeIs_152 (x := Y.2.1 (0)) rfl rfl ?_
                      refine vv_iload_n (q := 154) hC dX4_stripeIs_153 (x := nI (s)) rfl rfl ?_
                      refine vv_iload (q := 156) hC dX4_stripeIs_154 (x := nI (d)) rfl rfl ?_
                      refine vv_iload (q := 158) hC dX4_stripeIs_156 (x := nI (i)) rfl rfl ?_
                      refine vv_callV (n := 3) (k := 0) (As := [.int (nI (s)), .int (nI (d)), .int (nI (i))]) (st := [.int ((pm_px σ n r s x wn i d) ^^^ (σ 15 (8 * d + i)))]) (q := 161) hC (hY.k (by decide)) (hY.M _) (by rw [hY.cl]; rfl) (cm_X4_newest _ Y n hY (pm_wi σ n r s x wn i) r s d i (by rw [pm_wi_o (by decide) (by decide)]; exact hr) (by omega) (by omega) (Or.inr (by omega)) (by omega)) gX4_stripeIs_X4_newest rfl (by decide +kernel) dX4_stripeIs_158 rfl rfl rfl (vv_kR ?_)
                      refine vv_top (y := pm_nw σ n r s d i) (pm_nw_congr (fun k h13 h15 => pm_wi_o h13 h15)) ?_
                      refine vv_goto (tgt := 165) hC dX4_stripeIs_161 (by decide) ?_
                      refine vv_ixor (x := (pm_px σ n r s x wn i d) ^^^ (σ 15 (8 * d + i))) (y := pm_nw σ n r s d i) (q := 166) hC dX4_stripeIs_165 rfl ?_
                      refine vv_istore (L' := [(0, .ref (Y.2.1 (0))), (1, .int (nI (s))), (2, .int (x)), (3, .int (nI (wn))), (4, .int (nI (0))), (5, .int (nI (i))), (6, .int (((pm_px σ n r s x wn i d) ^^^ (σ 15 (8 * d + i))) ^^^ (pm_nw σ n r s d i))), (7, .int (nI (d))), (8, .int (nI (1)))]) (q := 168) hC dX4_stripeIs_166 (by decide) rfl rfl rfl ?_
                      refine vv_iincN (x := d) (L' := [(0, .ref (Y.2.1 (0))), (1, .int (nI (s))), (2, .int (x)), (3, .int (nI (wn))), (4, .int (nI (0))), (5, .int (nI (i))), (6, .int (((pm_px σ n r s x wn i d) ^^^ (σ 15 (8 * d + i))) ^^^ (pm_nw σ n r s d i))), (7, .int (nI (d + 1))), (8, .int (nI (1)))]) (q := 171) hC dX4_stripeIs_168 rfl (by decide) rfl rfl rfl ?_
                      refine vv_goto (tgt := 75) hC dX4_stripeIs_171 (by decide) ?_
                      refine vv_sub (L' := [(0, .ref (Y.2.1 (0))), (1, .int (nI (s))), (2, .int (x)), (3, .int (nI (wn))), (4, .int (nI (0))), (5, .int (nI (i))), (6, .int (((pm_px σ n r s x wn i d) ^^^ (σ 15 (8 * d + i))) ^^^ (pm_nw σ n r s d i))), (7, .int (nI (d + 1)))]) (by simp) ?_
                      refine vv_loc (L' := [(0, .ref (Y.2.1 (0))), (1, .int (nI (s))), (2, .int (x)), (3, .int (nI (wn))), (4, .int (nI (0))), (5, .int (nI (i))), (6, .int (pm_px σ n r s x wn i (d + 1))), (7, .int (nI ((d + 1))))]) (by rw [show pm_px σ n r s x wn i (d + 1) = (pm_px σ n r s x wn i d ^^^ _) ^^^ _ from rfl, if_pos c_93, if_pos ⟨by omega, iff_of_true c_93 c_141⟩]) ?_
                      exact ih_75 (d + 1) (by first | omega | (dsimp only; omega))  (by omega)
            refine vv_loc (L' := [(0, .ref (Y.2.1 (0))), (1, .int (nI (s))), (2, .int (x)), (3, .int (nI (wn))), (4, .int (nI (0))), (5, .int (nI (i))), (6, .int (pm_px σ n r s x wn i 0)), (7, .int (nI (0)))]) (by rw [show pm_px σ n r s x wn i 0 = _ from if_neg c_55]) ?_
            exact lp_75 0 (by omega)
          · refine vv_aload_n (q := 59) hC dX4_stripeIs_58 (x := Y.2.1 (0)) rfl rfl ?_
            refine vv_iload_n (q := 60) hC dX4_stripeIs_59 (x := nI (s)) rfl rfl ?_
            refine vv_iconst (q := 61) hC (nI 5) dX4_stripeIs_60 (by decide) rfl ?_
            refine vv_iload (q := 63) hC dX4_stripeIs_61 (x := nI (i)) rfl rfl ?_
            refine vv_callV (n := 3) (k := 0) (As := [.int (nI (s)), .int (nI (5)), .int (nI (i))]) (st := []) (q := 66) hC (hY.k (by decide)) (hY.M _) (by rw [hY.cl]; rfl) (cm_X4_newest _ Y n hY (pm_wi σ n r s x wn i) r s 5 i (by rw [pm_wi_o (by decide) (by decide)]; exact hr) (by omega) (by omega) (Or.inl rfl) (by omega)) gX4_stripeIs_X4_newest rfl (by decide +kernel) dX4_stripeIs_63 rfl rfl rfl (vv_kR ?_)
            refine vv_top (y := pm_nw σ n r s 5 i) (pm_nw_congr (fun k h13 h15 => pm_wi_o h13 h15)) ?_
            refine vv_goto (tgt := 70) hC dX4_stripeIs_66 (by decide) ?_
            refine vv_istore (L' := [(0, .ref (Y.2.1 (0))), (1, .int (nI (s))), (2, .int (x)), (3, .int (nI (wn))), (4, .int (nI (0))), (5, .int (nI (i))), (6, .int (pm_nw σ n r s 5 i))]) (q := 72) hC dX4_stripeIs_70 (by decide) rfl rfl rfl ?_
            refine vv_iconst (q := 73) hC (nI 0) dX4_stripeIs_72 (by decide) rfl ?_
            refine vv_istore (L' := [(0, .ref (Y.2.1 (0))), (1, .int (nI (s))), (2, .int (x)), (3, .int (nI (wn))), (4, .int (nI (0))), (5, .int (nI (i))), (6, .int (pm_nw σ n r s 5 i)), (7, .int (nI (0)))]) (q := 75) hC dX4_stripeIs_73 (by decide) rfl rfl rfl ?_
            have lp_75 : ∀ d : Nat, (d ≤ n - 1) → vv_V Y 9 Z (pm_wi σ n r s x wn i) 75 [(0, .ref (Y.2.1 (0))), (1, .int (nI (s))), (2, .int (x)), (3, .int (nI (wn))), (4, .int (nI (0))), (5, .int (nI (i))), (6, .int (pm_px σ n r s x wn i d)), (7, .int (nI (d)))] [] := by
              refine vv_ind (fun d => n - d) (fun d ih_75 => ?_)
              intro hd
              refine vv_iload (q := 77) hC dX4_stripeIs_75 (x := nI (d)) rfl rfl ?_
              refine vv_aload_n (q := 78) hC dX4_stripeIs_77 (x := Y.2.1 (0)) rfl rfl ?_
              refine pm_gM (q := 81) hY hC 1 hi_X4 hf_many (by decide) rfl (v := .int (nI (n))) rfl dX4_stripeIs_78 rfl ?_
              refine vv_iconst (q := 82) hC (nI 1) dX4_stripeIs_81 (by decide) rfl ?_
              refine vv_subN (x := n) (y := 1) (q := 83) hC dX4_stripeIs_82 (by omega) rfl ?_
              refine vv_icmpN_ge (x := d) (y := n - 1) (q := 86) (tgt := 174) hC dX4_stripeIs_83 (by decide) (by omega) (by omega) rfl (fun c_83 => ?_) (fun c_83 => ?_)
              · have ed : d = n - 1 := by omega
                refine vv_loc (L' := [(0, .ref (Y.2.1 (0))), (1, .int (nI (s))), (2, .int (x)), (3, .int (nI (wn))), (4, .int (nI (0))), (5, .int (nI (i))), (6, .int (pm_px σ n r s x wn i (n - 1))), (7, .int (nI (d)))]) (by rw [ed]) ?_
                refine vv_aload_n (q := 175) hC dX4_stripeIs_174 (x := Y.2.1 (0)) rfl rfl ?_
                refine pm_gM (q := 178) hY hC 24 hi_X4 hf_given (by decide) rfl (v := .ref (Y.2.1 (15))) rfl dX4_stripeIs_175 rfl ?_
                refine vv_bipush (q := 180) hC (nI 40) dX4_stripeIs_178 (by decide) rfl ?_
                refine vv_iload (q := 182) hC dX4_stripeIs_180 (x := nI (i)) rfl rfl ?_
                refine vv_addN (x := 40) (y := i) (q := 183) hC dX4_stripeIs_182 rfl ?_
                refine vv_iload (q := 185) hC dX4_stripeIs_183 (x := pm_px σ n r s x wn i (n - 1)) rfl rfl ?_
                refine pm_st_given (q := 186) hY hC (i := 40 + i) (x := pm_px σ n r s x wn i (n - 1)) (by omega) dX4_stripeIs_185 rfl ?_
                refine vv_iincN (x := i) (L' := [(0, .ref (Y.2.1 (0))), (1, .int (nI (s))), (2, .int (x)), (3, .int (nI (wn))), (4, .int (nI (0))), (5, .int (nI (i + 1))), (6, .int (pm_px σ n r s x wn i (n - 1))), (7, .int (nI (d)))]) (q := 189) hC dX4_stripeIs_186 rfl (by decide) rfl rfl rfl ?_
                refine vv_goto (tgt := 46) hC dX4_stripeIs_189 (by decide) ?_
                refine vv_sub (L' := [(0, .ref (Y.2.1 (0))), (1, .int (nI (s))), (2, .int (x)), (3, .int (nI (wn))), (4, .int (nI (0))), (5, .int (nI (i + 1)))]) (by simp) ?_
                refine vv_st (σ' := pm_wi σ n r s x wn (i + 1)) (by unfold pm_wi; rw [vv_up_row]; exact congrArg (vv_row (pm_w1 σ n r s x wn) 15) (vv_upd_rng (F := fun j => pm_px σ n r s x wn j (n - 1)))) ?_
                exact ih_46 (i + 1) (by first | omega | (dsimp only; omega))  (by omega)
              · refine vv_iload_n (q := 87) hC dX4_stripeIs_86 (x := x) rfl rfl ?_
                refine vv_iload (q := 89) hC dX4_stripeIs_87 (x := nI (d)) rfl rfl ?_
                refine vv_ishr (x := x) (y := nI (d)) (q := 90) hC dX4_stripeIs_89 rfl ?_
                refine vv_iconst (q := 91) hC (nI 1) dX4_stripeIs_90 (by decide) rfl ?_
                refine vv_iand (x := x >>> ((nI (d)) &&& 31)) (y := nI (1)) (q := 92) hC dX4_stripeIs_91 rfl ?_
                refine vv_iconst (q := 93) hC (nI 1) dX4_stripeIs_92 (by decide) rfl ?_
                refine vv_icmp_ne (x := (x >>> ((nI (d)) &&& 31)) &&& (nI (1))) (y := nI (1)) (q := 96) (tgt := 100) hC dX4_stripeIs_93 (by decide) rfl (fun c_93 => ?_) (fun c_93 => ?_)
                · refine vv_iconst (q := 101) hC (nI 0) dX4_stripeIs_100 (by decide) rfl ?_
                  refine vv_istore (L' := [(0, .ref (Y.2.1 (0))), (1, .int (nI (s))), (2, .int (x)), (3, .int (nI (wn))), (4, .int (nI (0))), (5, .int (nI (i))), (6, .int (pm_px σ n r s x wn i d)), (7, .int (nI (d))), (8, .int (nI (0)))]) (q := 103) hC dX4_stripeIs_101 (by decide) rfl rfl rfl ?_
                  refine vv_iload (q := 105) hC dX4_stripeIs_103 (x := pm_px σ n r s x wn i d) rfl rfl ?_
                  refine vv_iload (q := 107) hC dX4_stripeIs_105 (x := nI (0)) rfl rfl ?_
                  refine vv_if_eq (x := nI (0)) (q := 110) (tgt := 126) hC dX4_stripeIs_107 (by decide) rfl (fun c_107 => ?_) (fun c_107 => absurd c_107 (by decide))
                  refine vv_iconst (q := 127) hC (nI 0) dX4_stripeIs_126 (by decide) rfl ?_
                  refine vv_ixor (x := pm_px σ n r s x wn i d) (y := nI (0)) (q := 128) hC dX4_stripeIs_127 rfl ?_
                  refine vv_istore (L' := [(0, .ref (Y.2.1 (0))), (1, .int (nI (s))), (2, .int (x)), (3, .int (nI (wn))), (4, .int (nI (0))), (5, .int (nI (i))), (6, .int ((pm_px σ n r s x wn i d) ^^^ (nI (0)))), (7, .int (nI (d))), (8, .int (nI (0)))]) (q := 130) hC dX4_stripeIs_128 (by decide) rfl rfl rfl ?_
                  refine vv_iload (q := 132) hC dX4_stripeIs_130 (x := (pm_px σ n r s x wn i d) ^^^ (nI (0))) rfl rfl ?_
                  refine vv_iload_n (q := 133) hC dX4_stripeIs_132 (x := nI (wn)) rfl rfl ?_
                  refine vv_iconst (q := 134) hC (nI 1) dX4_stripeIs_133 (by decide) rfl ?_
                  refine vv_icmpN_le (x := wn) (y := 1) (q := 137) (tgt := 164) hC dX4_stripeIs_134 (by decide) (by omega) (by omega) rfl (fun c_134 => ?_) (fun c_134 => ?_)
                  · refine vv_iconst (q := 165) hC (nI 0) dX4_stripeIs_164 (by decide) rfl ?_
                    refine vv_ixor (x := (pm_px σ n r s x wn i d) ^^^ (nI (0))) (y := nI (0)) (q := 166) hC dX4_stripeIs_165 rfl ?_
                    refine vv_istore (L' := [(0, .ref (Y.2.1 (0))), (1, .int (nI (s))), (2, .int (x)), (3, .int (nI (wn))), (4, .int (nI (0))), (5, .int (nI (i))), (6, .int (((pm_px σ n r s x wn i d) ^^^ (nI (0))) ^^^ (nI (0)))), (7, .int (nI (d))), (8, .int (nI (0)))]) (q := 168) hC dX4_stripeIs_166 (by decide) rfl rfl rfl ?_
                    refine vv_iincN (x := d) (L' := [(0, .ref (Y.2.1 (0))), (1, .int (nI (s))), (2, .int (x)), (3, .int (nI (wn))), (4, .int (nI (0))), (5, .int (nI (i))), (6, .int (((pm_px σ n r s x wn i d) ^^^ (nI (0))) ^^^ (nI (0)))), (7, .int (nI (d + 1))), (8, .int (nI (0)))]) (q := 171) hC dX4_stripeIs_168 rfl (by decide) rfl rfl rfl ?_
                    refine vv_goto (tgt := 75) hC dX4_stripeIs_171 (by decide) ?_
                    refine vv_sub (L' := [(0, .ref (Y.2.1 (0))), (1, .int (nI (s))), (2, .int (x)), (3, .int (nI (wn))), (4, .int (nI (0))), (5, .int (nI (i))), (6, .int (((pm_px σ n r s x wn i d) ^^^ (nI (0))) ^^^ (nI (0)))), (7, .int (nI (d + 1)))]) (by simp) ?_
                    refine vv_loc (L' := [(0, .ref (Y.2.1 (0))), (1, .int (nI (s))), (2, .int (x)), (3, .int (nI (wn))), (4, .int (nI (0))), (5, .int (nI (i))), (6, .int (pm_px σ n r s x wn i (d + 1))), (7, .int (nI ((d + 1))))]) (by rw [show pm_px σ n r s x wn i (d + 1) = (pm_px σ n r s x wn i d ^^^ _) ^^^ _ from rfl, if_neg c_93, if_neg (fun z => absurd z.1 (by omega))]) ?_
                    exact ih_75 (d + 1) (by first | omega | (dsimp only; omega))  (by omega)
                  · refine vv_iload (q := 139) hC dX4_stripeIs_137 (x := nI (0)) rfl rfl ?_
                    refine vv_iload_n (q := 140) hC dX4_stripeIs_139 (x := nI (wn)) rfl rfl ?_
                    refine vv_iconst (q := 141) hC (nI 2) dX4_stripeIs_140 (by decide) rfl ?_
                    refine vv_icmpN_ne (x := wn) (y := 2) (q := 144) (tgt := 148) hC dX4_stripeIs_141 (by decide) (by omega) (by omega) rfl (fun c_141 => ?_) (fun c_141 => ?_)
                    · refine vv_iconst (q := 149) hC (nI 0) dX4_stripeIs_148 (by decide) rfl ?_
                      refine vv_icmpN_ne (x := 0) (y := 0) (q := 152) (tgt := 164) hC dX4_stripeIs_149 (by decide) (by omega) (by omega) rfl (fun c_149 => absurd c_149 (by decide)) (fun c_149 => ?_)
                      refine vv_aload_n (q := 153) hC dX4_stripeIs_152 (x := Y.2.1 (0)) rfl rfl ?_
                      refine vv_iload_n (q := 154) hC dX4_stripeIs_153 (x := nI (s)) rfl rfl ?_
                      refine vv_iload (q := 156) hC dX4_stripeIs_154 (x := nI (d)) rfl rfl ?_
                      refine vv_iload (q := 158) hC dX4_stripeIs_156 (x := nI (i)) rfl rfl ?_
                      refine vv_callV (n := 3) (k := 0) (As := [.int (nI (s)), .int (nI (d)), .int (nI (i))]) (st := [.int ((pm_px σ n r s x wn i d) ^^^ (nI (0)))]) (q := 161) hC (hY.k (by decide)) (hY.M _) (by rw [hY.cl]; rfl) (cm_X4_newest _ Y n hY (pm_wi σ n r s x wn i) r s d i (by rw [pm_wi_o (by decide) (by decide)]; exact hr) (by omega) (by omega) (Or.inr (by omega)) (by omega)) gX4_stripeIs_X4_newest rfl (by decide +kernel) dX4_stripeIs_158 rfl rfl rfl (vv_kR ?_)
                      refine vv_top (y := pm_nw σ n r s d i) (pm_nw_congr (fun k h13 h15 => pm_wi_o h13 h15)) ?_
                      refine vv_goto (tgt := 165) hC dX4_stripeIs_161 (by decide) ?_
                      refine vv_ixor (x := (pm_px σ n r s x wn i d) ^^^ (nI (0))) (y := pm_nw σ n r s d i) (q := 166) hC dX4_stripeIs_165 rfl ?_
                      refine vv_istore (L' := [(0, .ref (Y.2.1 (0))), (1, .int (nI (s))), (2, .int (x)), (3, .int (nI (wn))), (4, .int (nI (0))), (5, .int (nI (i))), (6, .int (((pm_px σ n r s x wn i d) ^^^ (nI (0))) ^^^ (pm_nw σ n r s d i))), (7, .int (nI (d))), (8, .int (nI (0)))]) (q := 168) hC dX4_stripeIs_166 (by decide) rfl rfl rfl ?_
                      refine vv_iincN (x := d) (L' := [(0, .ref (Y.2.1 (0))), (1, .int (nI (s))), (2, .int (x)), (3, .int (nI (wn))), (4, .int (nI (0))), (5, .int (nI (i))), (6, .int (((pm_px σ n r s x wn i d) ^^^ (nI (0))) ^^^ (pm_nw σ n r s d i))), (7, .int (nI (d + 1))), (8, .int (nI (0)))]) (q := 171) hC dX4_stripeIs_168 rfl (by decide) rfl rfl rfl ?_
                      refine vv_goto (tgt := 75) hC dX4_stripeIs_171 (by decide) ?_
                      refine vv_sub (L' := [(0, .ref (Y.2.1 (0))), (1, .int (nI (s))), (2, .int (x)), (3, .int (nI (wn))), (4, .int (nI (0))), (5, .int (nI (i))), (6, .int (((pm_px σ n r s x wn i d) ^^^ (nI (0))) ^^^ (pm_nw σ n r s d i))), (7, .int (nI (d + 1)))]) (by simp) ?_
                      refine vv_loc (L' := [(0, .ref (Y.2.1 (0))), (1, .int (nI (s))), (2, .int (x)), (3, .int (nI (wn))), (4, .int (nI (0))), (5, .int (nI (i))), (6, .int (pm_px σ n r s x wn i (d + 1))), (7, .int (nI ((d + 1))))]) (by rw [show pm_px σ n r s x wn i (d + 1) = (pm_px σ n r s x wn i d ^^^ _) ^^^ _ from rfl, if_neg c_93, if_pos ⟨by omega, iff_of_false c_93 c_141⟩]) ?_
                      exact ih_75 (d + 1) (by first | omega | (dsimp only; omega))  (by omega)
                    · refine vv_iconst (q := 145) hC (nI 1) dX4_stripeIs_144 (by decide) rfl ?_
                      refine vv_goto (tgt := 149) hC dX4_stripeIs_145 (by decide) ?_
                      refine vv_icmpN_ne (x := 0) (y := 1) (q := 152) (tgt := 164) hC dX4_stripeIs_149 (by decide) (by omega) (by omega) rfl (fun c_149 => ?_) (fun c_149 => absurd c_149 (by decide))
                      refine vv_iconst (q := 165) hC (nI 0) dX4_stripeIs_164 (by decide) rfl ?_
                      refine vv_ixor (x := (pm_px σ n r s x wn i d) ^^^ (nI (0))) (y := nI (0)) (q := 166) hC dX4_stripeIs_165 rfl ?_
                      refine vv_istore (L' := [(0, .ref (Y.2.1 (0))), (1, .int (nI (s))), (2, .int (x)), (3, .int (nI (wn))), (4, .int (nI (0))), (5, .int (nI (i))), (6, .int (((pm_px σ n r s x wn i d) ^^^ (nI (0))) ^^^ (nI (0)))), (7, .int (nI (d))), (8, .int (nI (0)))]) (q := 168) hC dX4_stripeIs_166 (by decide) rfl rfl rfl ?_
                      refine vv_iincN (x := d) (L' := [(0, .ref (Y.2.1 (0))), (1, .int (nI (s))), (2, .int (x)), (3, .int (nI (wn))), (4, .int (nI (0))), (5, .int (nI (i))), (6, .int (((pm_px σ n r s x wn i d) ^^^ (nI (0))) ^^^ (nI (0)))), (7, .int (nI (d + 1))), (8, .int (nI (0)))]) (q := 171) hC dX4_stripeIs_168 rfl (by decide) rfl rfl rfl ?_
                      refine vv_goto (tgt := 75) hC dX4_stripeIs_171 (by decide) ?_
                      refine vv_sub (L' := [(0, .ref (Y.2.1 (0))), (1, .int (nI (s))), (2, .int (x)), (3, .int (nI (wn))), (4, .int (nI (0))), (5, .int (nI (i))), (6, .int (((pm_px σ n r s x wn i d) ^^^ (nI (0))) ^^^ (nI (0)))), (7, .int (nI (d + 1)))]) (by simp) ?_
                      refine vv_loc (L' := [(0, .ref (Y.2.1 (0))), (1, .int (nI (s))), (2, .int (x)), (3, .int (nI (wn))), (4, .int (nI (0))), (5, .int (nI (i))), (6, .int (pm_px σ n r s x wn i (d + 1))), (7, .int (nI ((d + 1))))]) (by rw [show pm_px σ n r s x wn i (d + 1) = (pm_px σ n r s x wn i d ^^^ _) ^^^ _ from rfl, if_neg c_93, if_neg (fun z => c_93 (z.2.mpr c_141))]) ?_
                      exact ih_75 (d + 1) (by first | omega | (dsimp only; omega))  (by omega)
                · refine vv_iconst (q := 97) hC (nI 1) dX4_stripeIs_96 (by decide) rfl ?_
                  refine vv_goto (tgt := 101) hC dX4_stripeIs_97 (by decide) ?_
                  refine vv_istore (L' := [(0, .ref (Y.2.1 (0))), (1, .int (nI (s))), (2, .int (x)), (3, .int (nI (wn))), (4, .int (nI (0))), (5, .int (nI (i))), (6, .int (pm_px σ n r s x wn i d)), (7, .int (nI (d))), (8, .int (nI (1)))]) (q := 103) hC dX4_stripeIs_101 (by decide) rfl rfl rfl ?_
                  refine vv_iload (q := 105) hC dX4_stripeIs_103 (x := pm_px σ n r s x wn i d) rfl rfl ?_
                  refine vv_iload (q := 107) hC dX4_stripeIs_105 (x := nI (1)) rfl rfl ?_
                  refine vv_if_eq (x := nI (1)) (q := 110) (tgt := 126) hC dX4_stripeIs_107 (by decide) rfl (fun c_107 => absurd c_107 (by decide)) (fun c_107 => ?_)
                  refine vv_aload_n (q := 111) hC dX4_stripeIs_110 (x := Y.2.1 (0)) rfl rfl ?_
                  refine pm_gM (q := 114) hY hC 24 hi_X4 hf_given (by decide) rfl (v := .ref (Y.2.1 (15))) rfl dX4_stripeIs_111 rfl ?_
                  refine vv_bipush (q := 116) hC (nI 8) dX4_stripeIs_114 (by decide) rfl ?_
                  refine vv_iload (q := 118) hC dX4_stripeIs_116 (x := nI (d)) rfl rfl ?_
                  refine vv_mulN (x := 8) (y := d) (q := 119) hC dX4_stripeIs_118 rfl ?_
                  refine vv_iload (q := 121) hC dX4_stripeIs_119 (x := nI (i)) rfl rfl ?_
                  refine vv_addN (x := 8 * d) (y := i) (q := 122) hC dX4_stripeIs_121 rfl ?_
                  refine pm_ld_given (q := 123) hY hC (i := (8 * d) + i) (by omega) dX4_stripeIs_122 rfl ?_
                  refine vv_top (y := σ 15 (8 * d + i)) (by unfold pm_wi; rw [vv_row_s]; exact if_neg (by omega)) ?_
                  refine vv_goto (tgt := 127) hC dX4_stripeIs_123 (by decide) ?_
                  refine vv_ixor (x := pm_px σ n r s x wn i d) (y := σ 15 (8 * d + i)) (q := 128) hC dX4_stripeIs_127 rfl ?_
                  refine vv_istore (L' := [(0, .ref (Y.2.1 (0))), (1, .int (nI (s))), (2, .int (x)), (3, .int (nI (wn))), (4, .int (nI (0))), (5, .int (nI (i))), (6, .int ((pm_px σ n r s x wn i d) ^^^ (σ 15 (8 * d + i)))), (7, .int (nI (d))), (8, .int (nI (1)))]) (q := 130) hC dX4_stripeIs_128 (by decide) rfl rfl rfl ?_
                  refine vv_iload (q := 132) hC dX4_stripeIs_130 (x := (pm_px σ n r s x wn i d) ^^^ (σ 15 (8 * d + i))) rfl rfl ?_
                  refine vv_iload_n (q := 133) hC dX4_stripeIs_132 (x := nI (wn)) rfl rfl ?_
                  refine vv_iconst (q := 134) hC (nI 1) dX4_stripeIs_133 (by decide) rfl ?_
                  refine vv_icmpN_le (x := wn) (y := 1) (q := 137) (tgt := 164) hC dX4_stripeIs_134 (by decide) (by omega) (by omega) rfl (fun c_134 => ?_) (fun c_134 => ?_)
                  · refine vv_iconst (q := 165) hC (nI 0) dX4_stripeIs_164 (by decide) rfl ?_
                    refine vv_ixor (x := (pm_px σ n r s x wn i d) ^^^ (σ 15 (8 * d + i))) (y := nI (0)) (q := 166) hC dX4_stripeIs_165 rfl ?_
                    refine vv_istore (L' := [(0, .ref (Y.2.1 (0))), (1, .int (nI (s))), (2, .int (x)), (3, .int (nI (wn))), (4, .int (nI (0))), (5, .int (nI (i))), (6, .int (((pm_px σ n r s x wn i d) ^^^ (σ 15 (8 * d + i))) ^^^ (nI (0)))), (7, .int (nI (d))), (8, .int (nI (1)))]) (q := 168) hC dX4_stripeIs_166 (by decide) rfl rfl rfl ?_
                    refine vv_iincN (x := d) (L' := [(0, .ref (Y.2.1 (0))), (1, .int (nI (s))), (2, .int (x)), (3, .int (nI (wn))), (4, .int (nI (0))), (5, .int (nI (i))), (6, .int (((pm_px σ n r s x wn i d) ^^^ (σ 15 (8 * d + i))) ^^^ (nI (0)))), (7, .int (nI (d + 1))), (8, .int (nI (1)))]) (q := 171) hC dX4_stripeIs_168 rfl (by decide) rfl rfl rfl ?_
                    refine vv_goto (tgt := 75) hC dX4_stripeIs_171 (by decide) ?_
                    refine vv_sub (L' := [(0, .ref (Y.2.1 (0))), (1, .int (nI (s))), (2, .int (x)), (3, .int (nI (wn))), (4, .int (nI (0))), (5, .int (nI (i))), (6, .int (((pm_px σ n r s x wn i d) ^^^ (σ 15 (8 * d + i))) ^^^ (nI (0)))), (7, .int (nI (d + 1)))]) (by simp) ?_
                    refine vv_loc (L' := [(0, .ref (Y.2.1 (0))), (1, .int (nI (s))), (2, .int (x)), (3, .int (nI (wn))), (4, .int (nI (0))), (5, .int (nI (i))), (6, .int (pm_px σ n r s x wn i (d + 1))), (7, .int (nI ((d + 1))))]) (by rw [show pm_px σ n r s x wn i (d + 1) = (pm_px σ n r s x wn i d ^^^ _) ^^^ _ from rfl, if_pos c_93, if_neg (fun z => absurd z.1 (by omega))]) ?_
                    exact ih_75 (d + 1) (by first | omega | (dsimp only; omega))  (by omega)
                  · refine vv_iload (q := 139) hC dX4_stripeIs_137 (x := nI (1)) rfl rfl ?_
                    refine vv_iload_n (q := 140) hC dX4_stripeIs_139 (x := nI (wn)) rfl rfl ?_
                    refine vv_iconst (q := 141) hC (nI 2) dX4_stripeIs_140 (by decide) rfl ?_
                    refine vv_icmpN_ne (x := wn) (y := 2) (q := 144) (tgt := 148) hC dX4_stripeIs_141 (by decide) (by omega) (by omega) rfl (fun c_141 => ?_) (fun c_141 => ?_)
                    · refine vv_iconst (q := 149) hC (nI 0) dX4_stripeIs_148 (by decide) rfl ?_
                      refine vv_icmpN_ne (x := 1) (y := 0) (q := 152) (tgt := 164) hC dX4_stripeIs_149 (by decide) (by omega) (by omega) rfl (fun c_149 => ?_) (fun c_149 => absurd c_149 (by decide))
                      refine vv_iconst (q := 165) hC (nI 0) dX4_stripeIs_164 (by decide) rfl ?_
                      refine vv_ixor (x := (pm_px σ n r s x wn i d) ^^^ (σ 15 (8 * d + i))) (y := nI (0)) (q := 166) hC dX4_stripeIs_165 rfl ?_
                      refine vv_istore (L' := [(0, .ref (Y.2.1 (0))), (1, .int (nI (s))), (2, .int (x)), (3, .int (nI (wn))), (4, .int (nI (0))), (5, .int (nI (i))), (6, .int (((pm_px σ n r s x wn i d) ^^^ (σ 15 (8 * d + i))) ^^^ (nI (0)))), (7, .int (nI (d))), (8, .int (nI (1)))]) (q := 168) hC dX4_stripeIs_166 (by decide) rfl rfl rfl ?_
                      refine vv_iincN (x := d) (L' := [(0, .ref (Y.2.1 (0))), (1, .int (nI (s))), (2, .int (x)), (3, .int (nI (wn))), (4, .int (nI (0))), (5, .int (nI (i))), (6, .int (((pm_px σ n r s x wn i d) ^^^ (σ 15 (8 * d + i))) ^^^ (nI (0)))), (7, .int (nI (d + 1))), (8, .int (nI (1)))]) (q := 171) hC dX4_stripeIs_168 rfl (by decide) rfl rfl rfl ?_
                      refine vv_goto (tgt := 75) hC dX4_stripeIs_171 (by decide) ?_
                      refine vv_sub (L' := [(0, .ref (Y.2.1 (0))), (1, .int (nI (s))), (2, .int (x)), (3, .int (nI (wn))), (4, .int (nI (0))), (5, .int (nI (i))), (6, .int (((pm_px σ n r s x wn i d) ^^^ (σ 15 (8 * d + i))) ^^^ (nI (0)))), (7, .int (nI (d + 1)))]) (by simp) ?_
                      refine vv_loc (L' := [(0, .ref (Y.2.1 (0))), (1, .int (nI (s))), (2, .int (x)), (3, .int (nI (wn))), (4, .int (nI (0))), (5, .int (nI (i))), (6, .int (pm_px σ n r s x wn i (d + 1))), (7, .int (nI ((d + 1))))]) (by rw [show pm_px σ n r s x wn i (d + 1) = (pm_px σ n r s x wn i d ^^^ _) ^^^ _ from rfl, if_pos c_93, if_neg (fun z => c_141 (z.2.mp c_93))]) ?_
                      exact ih_75 (d + 1) (by first | omega | (dsimp only; omega))  (by omega)
                    · refine vv_iconst (q := 145) hC (nI 1) dX4_stripeIs_144 (by decide) rfl ?_
                      refine vv_goto (tgt := 149) hC dX4_stripeIs_145 (by decide) ?_
                      refine vv_icmpN_ne (x := 1) (y := 1) (q := 152) (tgt := 164) hC dX4_stripeIs_149 (by decide) (by omega) (by omega) rfl (fun c_149 => absurd c_149 (by decide)) (fun c_149 => ?_)
                      refine vv_aload_n (q := 153) hC dX4_stripeIs_152 (x := Y.2.1 (0)) rfl rfl ?_
                      refine vv_iload_n (q := 154) hC dX4_stripeIs_153 (x := nI (s)) rfl rfl ?_
                      refine vv_iload (q := 156) hC dX4_stripeIs_154 (x := nI (d)) rfl rfl ?_
                      refine vv_iload (q := 158) hC dX4_stripeIs_156 (x := nI (i)) rfl rfl ?_
                      refine vv_callV (n := 3) (k := 0) (As := [.int (nI (s)), .int (nI (d)), .int (nI (i))]) (st := [.int ((pm_px σ n r s x wn i d) ^^^ (σ 15 (8 * d + i)))]) (q := 161) hC (hY.k (by decide)) (hY.M _) (by rw [hY.cl]; rfl) (cm_X4_newest _ Y n hY (pm_wi σ n r s x wn i) r s d i (by rw [pm_wi_o (by decide) (by decide)]; exact hr) (by omega) (by omega) (Or.inr (by omega)) (by omega)) gX4_stripeIs_X4_newest rfl (by decide +kernel) dX4_stripeIs_158 rfl rfl rfl (vv_kR ?_)
                      refine vv_top (y := pm_nw σ n r s d i) (pm_nw_congr (fun k h13 h15 => pm_wi_o h13 h15)) ?_
                      refine vv_goto (tgt := 165) hC dX4_stripeIs_161 (by decide) ?_
                      refine vv_ixor (x := (pm_px σ n r s x wn i d) ^^^ (σ 15 (8 * d + i))) (y := pm_nw σ n r s d i) (q := 166) hC dX4_stripeIs_165 rfl ?_
                      refine vv_istore (L' := [(0, .ref (Y.2.1 (0))), (1, .int (nI (s))), (2, .int (x)), (3, .int (nI (wn))), (4, .int (nI (0))), (5, .int (nI (i))), (6, .int (((pm_px σ n r s x wn i d) ^^^ (σ 15 (8 * d + i))) ^^^ (pm_nw σ n r s d i))), (7, .int (nI (d))), (8, .int (nI (1)))]) (q := 168) hC dX4_stripeIs_166 (by decide) rfl rfl rfl ?_
                      refine vv_iincN (x := d) (L' := [(0, .ref (Y.2.1 (0))), (1, .int (nI (s))), (2, .int (x)), (3, .int (nI (wn))), (4, .int (nI (0))), (5, .int (nI (i))), (6, .int (((pm_px σ n r s x wn i d) ^^^ (σ 15 (8 * d + i))) ^^^ (pm_nw σ n r s d i))), (7, .int (nI (d + 1))), (8, .int (nI (1)))]) (q := 171) hC dX4_stripeIs_168 rfl (by decide) rfl rfl rfl ?_
                      refine vv_goto (tgt := 75) hC dX4_stripeIs_171 (by decide) ?_
                      refine vv_sub (L' := [(0, .ref (Y.2.1 (0))), (1, .int (nI (s))), (2, .int (x)), (3, .int (nI (wn))), (4, .int (nI (0))), (5, .int (nI (i))), (6, .int (((pm_px σ n r s x wn i d) ^^^ (σ 15 (8 * d + i))) ^^^ (pm_nw σ n r s d i))), (7, .int (nI (d + 1)))]) (by simp) ?_
                      refine vv_loc (L' := [(0, .ref (Y.2.1 (0))), (1, .int (nI (s))), (2, .int (x)), (3, .int (nI (wn))), (4, .int (nI (0))), (5, .int (nI (i))), (6, .int (pm_px σ n r s x wn i (d + 1))), (7, .int (nI ((d + 1))))]) (by rw [show pm_px σ n r s x wn i (d + 1) = (pm_px σ n r s x wn i d ^^^ _) ^^^ _ from rfl, if_pos c_93, if_pos ⟨by omega, iff_of_true c_93 c_141⟩]) ?_
                      exact ih_75 (d + 1) (by first | omega | (dsimp only; omega))  (by omega)
            refine vv_loc (L' := [(0, .ref (Y.2.1 (0))), (1, .int (nI (s))), (2, .int (x)), (3, .int (nI (wn))), (4, .int (nI (0))), (5, .int (nI (i))), (6, .int (pm_px σ n r s x wn i 0)), (7, .int (nI (0)))]) (by rw [show pm_px σ n r s x wn i 0 = _ from if_pos c_55]) ?_
            exact lp_75 0 (by omega)
      refine vv_st (σ' := pm_wi σ n r s x wn 0) (by unfold pm_wi; exact (vv_row_of (by funext j; rw [if_neg (by omega)]; exact congrFun (vv_up_n (by decide)).symm j)).symm) ?_
      exact lp_46 0 (by omega)
    · refine vv_iconst (q := 37) hC (nI 1) dX4_stripeIs_36 (by decide) rfl ?_
      refine vv_goto (tgt := 41) hC dX4_stripeIs_37 (by decide) ?_
      refine vv_istore (L' := [(0, .ref (Y.2.1 (0))), (1, .int (nI (s))), (2, .int (x)), (3, .int (nI (wn))), (4, .int (nI (1)))]) (q := 43) hC dX4_stripeIs_41 (by decide) rfl rfl rfl ?_
      refine vv_iconst (q := 44) hC (nI 0) dX4_stripeIs_43 (by decide) rfl ?_
      refine vv_istore (L' := [(0, .ref (Y.2.1 (0))), (1, .int (nI (s))), (2, .int (x)), (3, .int (nI (wn))), (4, .int (nI (1))), (5, .int (nI (0)))]) (q := 46) hC dX4_stripeIs_44 (by decide) rfl rfl rfl ?_
      have lp_46 : ∀ i : Nat, (i ≤ 8) → vv_V Y 9 Z (pm_wi σ n r s x wn i) 46 [(0, .ref (Y.2.1 (0))), (1, .int (nI (s))), (2, .int (x)), (3, .int (nI (wn))), (4, .int (nI (1))), (5, .int (nI (i)))] [] := by
        refine vv_ind (fun i => 8 - i) (fun i ih_46 => ?_)
        intro hi8
        refine vv_iload (q := 48) hC dX4_stripeIs_46 (x := nI (i)) rfl rfl ?_
        refine vv_bipush (q := 50) hC (nI 8) dX4_stripeIs_48 (by decide) rfl ?_
        refine vv_icmpN_ge (x := i) (y := 8) (q := 53) (tgt := 192) hC dX4_stripeIs_50 (by decide) (by omega) (by omega) rfl (fun c_50 => ?_) (fun c_50 => ?_)
        · have ei : i = 8 := by omega
          refine vv_st (σ' := pm_wi σ n r s x wn 8) (by rw [ei]) ?_
          refine vv_iload (q := 194) hC dX4_stripeIs_192 (x := nI (1)) rfl rfl ?_
          refine vv_if_eq (x := nI (1)) (q := 197) (tgt := 201) hC dX4_stripeIs_194 (by decide) rfl (fun c_194 => absurd c_194 (by decide)) (fun c_194 => ?_)
          refine vv_iconst (q := 198) hC (nI 3) dX4_stripeIs_197 (by decide) rfl ?_
          refine vv_goto (tgt := 202) hC dX4_stripeIs_198 (by decide) ?_
          refine vv_istore (L' := [(0, .ref (Y.2.1 (0))), (1, .int (nI (s))), (2, .int (x)), (3, .int (nI (wn))), (4, .int (nI (1))), (5, .int (nI (3)))]) (q := 204) hC dX4_stripeIs_202 (by decide) rfl rfl rfl ?_
          refine vv_iconst (q := 205) hC (nI 0) dX4_stripeIs_204 (by decide) rfl ?_
          refine vv_istore (L' := [(0, .ref (Y.2.1 (0))), (1, .int (nI (s))), (2, .int (x)), (3, .int (nI (wn))), (4, .int (nI (1))), (5, .int (nI (3))), (6, .int (nI (0)))]) (q := 207) hC dX4_stripeIs_205 (by decide) rfl rfl rfl ?_
          have lp_207 : ∀ d : Nat, (d ≤ n - 1) → (pm_nb x d ≤ d) → vv_V Y 9 Z (pm_wi σ n r s x wn 8) 207 [(0, .ref (Y.2.1 (0))), (1, .int (nI (s))), (2, .int (x)), (3, .int (nI (wn))), (4, .int (nI (1))), (5, .int (nI ((if wn = 1 then 2 else 3) + pm_nb x d))), (6, .int (nI (d)))] [] := by
            refine vv_ind (fun d => n - d) (fun d ih_207 => ?_)
            intro hd hnd
            have hif : (if wn = 1 then 2 else 3) ≤ 3 := by split <;> omega
            refine vv_iload (q := 209) hC dX4_stripeIs_207 (x := nI (d)) rfl rfl ?_
            refine vv_aload_n (q := 210) hC dX4_stripeIs_209 (x := Y.2.1 (0)) rfl rfl ?_
            refine pm_gM (q := 213) hY hC 1 hi_X4 hf_many (by decide) rfl (v := .int (nI (n))) rfl dX4_stripeIs_210 rfl ?_
            refine vv_iconst (q := 214) hC (nI 1) dX4_stripeIs_213 (by decide) rfl ?_
            refine vv_subN (x := n) (y := 1) (q := 215) hC dX4_stripeIs_214 (by omega) rfl ?_
            refine vv_icmpN_ge (x := d) (y := n - 1) (q := 218) (tgt := 235) hC dX4_stripeIs_215 (by decide) (by omega) (by omega) rfl (fun c_215 => ?_) (fun c_215 => ?_)
            · have lp_235 : ∀ f : Nat, ∀ τ : vv_S, (pm_r τ = f) → (pm_J τ) → (pm_sd σ n r s x wn = pm_dw n cc9 f τ) → vv_V Y 9 Z τ 235 [(0, .ref (Y.2.1 (0))), (1, .int (nI (s))), (2, .int (x)), (3, .int (nI (wn))), (4, .int (nI (1))), (5, .int (nI (cc9)))] [] := by
                refine vv_ind (fun f => f) (fun f ih_235 => ?_)
                intro τ hf hJt hv
                refine vv_aload_n (q := 236) hC dX4_stripeIs_235 (x := Y.2.1 (0)) rfl rfl ?_
                refine vv_callV (n := 0) (k := 0) (As := []) (st := []) (q := 239) hC (hY.k (by decide)) (hY.M _) (by rw [hY.cl]; rfl) (cm_X4_free _ Y n hY τ (pm_r τ) hJt.1.1 (by have := hJt.1.2; omega)) gX4_stripeIs_X4_free rfl (by decide +kernel) dX4_stripeIs_236 rfl rfl rfl (vv_kR ?_)
                refine vv_iload (q := 241) hC dX4_stripeIs_239 (x := nI (cc9)) rfl rfl ?_
                refine vv_icmp_ge (x := pm_fr τ n (pm_r τ)) (y := nI (cc9)) (q := 244) (tgt := 254) hC dX4_stripeIs_241 (by decide) rfl (fun c_241 => ?_) (fun c_241 => ?_)
                · have hd2 : pm_sd σ n r s x wn = (true, τ) := by
                    rw [hv]
                    rcases f with _ | f
                    · rfl
                    · exact if_neg (fun z => absurd z (Int32.not_lt.mpr c_241))
                  refine vv_iconst (q := 255) hC (nI 0) dX4_stripeIs_254 (by decide) rfl ?_
                  refine vv_istore (L' := [(0, .ref (Y.2.1 (0))), (1, .int (nI (s))), (2, .int (x)), (3, .int (nI (wn))), (4, .int (nI (1))), (5, .int (nI (cc9))), (6, .int (nI (0)))]) (q := 257) hC dX4_stripeIs_255 (by decide) rfl rfl rfl ?_
                  have lp_257 : ∀ k : Nat, ∀ τ : vv_S, (k ≤ cc9) → (pm_sc σ n r s x wn = pm_cl n (cc9 - k) τ) → vv_V Y 9 Z τ 257 [(0, .ref (Y.2.1 (0))), (1, .int (nI (s))), (2, .int (x)), (3, .int (nI (wn))), (4, .int (nI (1))), (5, .int (nI (cc9))), (6, .int (nI (k)))] [] := by
                    refine vv_ind (fun k => cc9 - k) (fun k ih_257 => ?_)
                    intro τ hk hv
                    refine vv_iload (q := 259) hC dX4_stripeIs_257 (x := nI (k)) rfl rfl ?_
                    refine vv_iload (q := 261) hC dX4_stripeIs_259 (x := nI (cc9)) rfl rfl ?_
                    refine vv_icmpN_ge (x := k) (y := cc9) (q := 264) (tgt := 290) hC dX4_stripeIs_261 (by decide) (by omega) (by omega) rfl (fun c_261 => ?_) (fun c_261 => ?_)
                    · have hc2 : pm_sc σ n r s x wn = (true, τ) := by rw [hv, show cc9 - k = 0 by omega]; rfl
                      have hJc : pm_J τ := by
                        have := pm_cl_J (n := n) (c := cc9) hJt
                        unfold pm_sc at hc2
                        rw [← hcc, hd2] at hc2
                        rw [hc2] at this
                        exact this
                      have hrc := hJc.1.2
                      refine vv_aload_n (q := 291) hC dX4_stripeIs_290 (x := Y.2.1 (0)) rfl rfl ?_
                      refine pm_gM (q := 294) hY hC 9 hi_X4 hf_stripes (by decide) rfl (v := .ref (Y.2.1 (7))) rfl dX4_stripeIs_291 rfl ?_
                      refine vv_aload_n (q := 295) hC dX4_stripeIs_294 (x := Y.2.1 (0)) rfl rfl ?_
                      refine pm_gM (q := 298) hY hC 8 hi_X4 hf_records (by decide) rfl (v := .int (τ 0 8)) rfl dX4_stripeIs_295 rfl ?_
                      refine vv_top (y := nI (pm_r τ)) (hJc.1.1) ?_
                      refine vv_iload_n (q := 299) hC dX4_stripeIs_298 (x := nI (s)) rfl rfl ?_
                      refine pm_st_stripes (q := 300) hY hC (i := pm_r τ) (x := nI (s)) (by omega) dX4_stripeIs_299 rfl ?_
                      refine vv_aload_n (q := 301) hC dX4_stripeIs_300 (x := Y.2.1 (0)) rfl rfl ?_
                      refine pm_gM (q := 304) hY hC 10 hi_X4 hf_serials (by decide) rfl (v := .ref (Y.2.1 (8))) rfl dX4_stripeIs_301 rfl ?_
                      refine vv_aload_n (q := 305) hC dX4_stripeIs_304 (x := Y.2.1 (0)) rfl rfl ?_
                      refine pm_gM (q := 308) hY hC 8 hi_X4 hf_records (by decide) rfl (v := .int ((vv_up τ 7 (pm_r τ) (nI (s))) 0 8)) rfl dX4_stripeIs_305 rfl ?_
                      refine vv_top (y := nI (pm_r τ)) (hJc.1.1) ?_
                      refine vv_aload_n (q := 309) hC dX4_stripeIs_308 (x := Y.2.1 (0)) rfl rfl ?_
                      refine pm_gM (q := 312) hY hC 17 hi_X4 hf_nextSerial (by decide) rfl (v := .int ((vv_up τ 7 (pm_r τ) (nI (s))) 0 17)) rfl dX4_stripeIs_309 rfl ?_
                      refine vv_top (y := τ 0 17) (rfl) ?_
                      refine pm_st_serials (q := 313) hY hC (i := pm_r τ) (x := τ 0 17) (by omega) dX4_stripeIs_312 rfl ?_
                      refine vv_aload_n (q := 314) hC dX4_stripeIs_313 (x := Y.2.1 (0)) rfl rfl ?_
                      refine pm_gM (q := 317) hY hC 11 hi_X4 hf_bits (by decide) rfl (v := .ref (Y.2.1 (9))) rfl dX4_stripeIs_314 rfl ?_
                      refine vv_aload_n (q := 318) hC dX4_stripeIs_317 (x := Y.2.1 (0)) rfl rfl ?_
                      refine pm_gM (q := 321) hY hC 8 hi_X4 hf_records (by decide) rfl (v := .int ((vv_up (vv_up τ 7 (pm_r τ) (nI (s))) 8 (pm_r τ) (τ 0 17)) 0 8)) rfl dX4_stripeIs_318 rfl ?_
                      refine vv_top (y := nI (pm_r τ)) (hJc.1.1) ?_
                      refine vv_iload_n (q := 322) hC dX4_stripeIs_321 (x := x) rfl rfl ?_
                      refine pm_st_bits (q := 323) hY hC (i := pm_r τ) (x := x) (by omega) dX4_stripeIs_322 rfl ?_
                      refine vv_aload_n (q := 324) hC dX4_stripeIs_323 (x := Y.2.1 (0)) rfl rfl ?_
                      refine pm_gM (q := 327) hY hC 12 hi_X4 hf_hasParity (by decide) rfl (v := .ref (Y.2.1 (10))) rfl dX4_stripeIs_324 rfl ?_
                      refine vv_aload_n (q := 328) hC dX4_stripeIs_327 (x := Y.2.1 (0)) rfl rfl ?_
                      refine pm_gM (q := 331) hY hC 8 hi_X4 hf_records (by decide) rfl (v := .int ((vv_up (vv_up (vv_up τ 7 (pm_r τ) (nI (s))) 8 (pm_r τ) (τ 0 17)) 9 (pm_r τ) x) 0 8)) rfl dX4_stripeIs_328 rfl ?_
                      refine vv_top (y := nI (pm_r τ)) (hJc.1.1) ?_
                      refine vv_iload (q := 333) hC dX4_stripeIs_331 (x := nI (1)) rfl rfl ?_
                      refine pm_st_hasParity (q := 334) hY hC (i := pm_r τ) (x := nI (1)) (by omega) dX4_stripeIs_333 rfl ?_
                      refine vv_aload_n (q := 335) hC dX4_stripeIs_334 (x := Y.2.1 (0)) rfl rfl ?_
                      refine pm_gM (q := 338) hY hC 13 hi_X4 hf_ways (by decide) rfl (v := .ref (Y.2.1 (11))) rfl dX4_stripeIs_335 rfl ?_
                      refine vv_aload_n (q := 339) hC dX4_stripeIs_338 (x := Y.2.1 (0)) rfl rfl ?_
                      refine pm_gM (q := 342) hY hC 8 hi_X4 hf_records (by decide) rfl (v := .int ((vv_up (vv_up (vv_up (vv_up τ 7 (pm_r τ) (nI (s))) 8 (pm_r τ) (τ 0 17)) 9 (pm_r τ) x) 10 (pm_r τ) (vp_nar .boolean (nI (1)))) 0 8)) rfl dX4_stripeIs_339 rfl ?_
                      refine vv_top (y := nI (pm_r τ)) (hJc.1.1) ?_
                      refine vv_iload_n (q := 343) hC dX4_stripeIs_342 (x := nI (wn)) rfl rfl ?_
                      refine pm_st_ways (q := 344) hY hC (i := pm_r τ) (x := nI (wn)) (by omega) dX4_stripeIs_343 rfl ?_
                      refine vv_st (σ' := pm_a1 τ s x wn) (by unfold pm_a1; rw [show vp_nar .boolean (nI 1) = nI 1 from by decide, if_neg c_33]) ?_
                      refine vv_iconst (q := 345) hC (nI 0) dX4_stripeIs_344 (by decide) rfl ?_
                      refine vv_istore (L' := [(0, .ref (Y.2.1 (0))), (1, .int (nI (s))), (2, .int (x)), (3, .int (nI (wn))), (4, .int (nI (1))), (5, .int (nI (cc9))), (6, .int (nI (0)))]) (q := 347) hC dX4_stripeIs_345 (by decide) rfl rfl rfl ?_
                      have lp_347 : ∀ i : Nat, (i ≤ 48) → vv_V Y 9 Z (pm_a2 τ s x wn i) 347 [(0, .ref (Y.2.1 (0))), (1, .int (nI (s))), (2, .int (x)), (3, .int (nI (wn))), (4, .int (nI (1))), (5, .int (nI (cc9))), (6, .int (nI (i)))] [] := by
                        refine vv_ind (fun i => 48 - i) (fun i ih_347 => ?_)
                        intro hi
                        refine vv_iload (q := 349) hC dX4_stripeIs_347 (x := nI (i)) rfl rfl ?_
                        refine vv_bipush (q := 351) hC (nI 48) dX4_stripeIs_349 (by decide) rfl ?_
                        refine vv_icmpN_ge (x := i) (y := 48) (q := 354) (tgt := 382) hC dX4_stripeIs_351 (by decide) (by omega) (by omega) rfl (fun c_351 => ?_) (fun c_351 => ?_)
                        · have e48 : i = 48 := by omega
                          refine vv_st (σ' := pm_a2 τ s x wn 48) (by rw [e48]) ?_
                          refine vv_aload_n (q := 383) hC dX4_stripeIs_382 (x := Y.2.1 (0)) rfl rfl ?_
                          refine vv_dup (q := 384) hC dX4_stripeIs_383 rfl rfl ?_
                          refine pm_gM (q := 387) hY hC 8 hi_X4 hf_records (by decide) rfl (v := .int ((pm_a2 τ s x wn 48) 0 8)) rfl dX4_stripeIs_384 rfl ?_
                          refine vv_top (y := nI (pm_r τ)) (hJc.1.1) ?_
                          refine vv_iconst (q := 388) hC (nI 1) dX4_stripeIs_387 (by decide) rfl ?_
                          refine vv_addN (x := pm_r τ) (y := 1) (q := 389) hC dX4_stripeIs_388 rfl ?_
                          refine pm_pM (q := 392) hY hC 8 hi_X4 hf_records (by decide) rfl rfl (x := nI ((pm_r τ) + 1)) (ty := .int) (by decide +kernel) rfl rfl (fun _ => rfl) dX4_stripeIs_389 rfl ?_
                          refine vv_aload_n (q := 393) hC dX4_stripeIs_392 (x := Y.2.1 (0)) rfl rfl ?_
                          refine vv_dup (q := 394) hC dX4_stripeIs_393 rfl rfl ?_
                          refine pm_gM (q := 397) hY hC 17 hi_X4 hf_nextSerial (by decide) rfl (v := .int ((vv_up (pm_a2 τ s x wn 48) 0 8 (nI ((pm_r τ) + 1))) 0 17)) rfl dX4_stripeIs_394 rfl ?_
                          refine vv_top (y := τ 0 17) (rfl) ?_
                          refine vv_iconst (q := 398) hC (nI 1) dX4_stripeIs_397 (by decide) rfl ?_
                          refine vv_iadd (x := τ 0 17) (y := nI (1)) (q := 399) hC dX4_stripeIs_398 rfl ?_
                          refine pm_pM (q := 402) hY hC 17 hi_X4 hf_nextSerial (by decide) rfl rfl (x := (τ 0 17) + (nI (1))) (ty := .int) (by decide +kernel) rfl rfl (fun _ => rfl) dX4_stripeIs_399 rfl ?_
                          refine vv_st (σ' := pm_a3 τ s x wn) (rfl) ?_
                          refine vv_aload_n (q := 403) hC dX4_stripeIs_402 (x := Y.2.1 (0)) rfl rfl ?_
                          refine pm_gM (q := 406) hY hC 22 hi_X4 hf_counts (by decide) rfl (v := .ref (Y.2.1 (13))) rfl dX4_stripeIs_403 rfl ?_
                          refine vv_iconst (q := 407) hC (nI 4) dX4_stripeIs_406 (by decide) rfl ?_
                          refine vv_dup2 (q := 408) hC dX4_stripeIs_407 rfl rfl rfl ?_
                          refine pm_ld_counts (q := 409) hY hC (i := 4) (by omega) dX4_stripeIs_408 rfl ?_
                          refine vv_iconst (q := 410) hC (nI 1) dX4_stripeIs_409 (by decide) rfl ?_
                          refine vv_iadd (x := (pm_a3 τ s x wn) 13 4) (y := nI (1)) (q := 411) hC dX4_stripeIs_410 rfl ?_
                          refine pm_st_counts (q := 412) hY hC (i := 4) (x := ((pm_a3 τ s x wn) 13 4) + (nI (1))) (by omega) dX4_stripeIs_411 rfl ?_
                          refine vv_st (σ' := pm_tl (pm_a3 τ s x wn) 4) (rfl) ?_
                          refine vv_aload_n (q := 413) hC dX4_stripeIs_412 (x := Y.2.1 (0)) rfl rfl ?_
                          refine pm_gM (q := 416) hY hC 22 hi_X4 hf_counts (by decide) rfl (v := .ref (Y.2.1 (13))) rfl dX4_stripeIs_413 rfl ?_
                          refine vv_bipush (q := 418) hC (nI 9) dX4_stripeIs_416 (by decide) rfl ?_
                          refine vv_iload_n (q := 419) hC dX4_stripeIs_418 (x := nI (wn)) rfl rfl ?_
                          refine vv_addN (x := 9) (y := wn) (q := 420) hC dX4_stripeIs_419 rfl ?_
                          refine vv_dup2 (q := 421) hC dX4_stripeIs_420 rfl rfl rfl ?_
                          refine pm_ld_counts (q := 422) hY hC (i := 9 + wn) (by omega) dX4_stripeIs_421 rfl ?_
                          refine vv_iconst (q := 423) hC (nI 1) dX4_stripeIs_422 (by decide) rfl ?_
                          refine vv_iadd (x := (pm_tl (pm_a3 τ s x wn) 4) 13 (9 + wn)) (y := nI (1)) (q := 424) hC dX4_stripeIs_423 rfl ?_
                          refine pm_st_counts (q := 425) hY hC (i := 9 + wn) (x := ((pm_tl (pm_a3 τ s x wn) 4) 13 (9 + wn)) + (nI (1))) (by omega) dX4_stripeIs_424 rfl ?_
                          refine vv_iconst (q := 426) hC (nI 0) dX4_stripeIs_425 (by decide) rfl ?_
                          refine vv_iret (v := nI (0)) hC dX4_stripeIs_426 ?_
                          rw [hp]
                          rw [hst]
                          unfold pm_stw
                          rw [hd2, if_pos rfl, hc2, if_pos rfl]
                          exact ⟨rfl, rfl⟩
                        · refine vv_aload_n (q := 355) hC dX4_stripeIs_354 (x := Y.2.1 (0)) rfl rfl ?_
                          refine pm_gM (q := 358) hY hC 14 hi_X4 hf_kept (by decide) rfl (v := .ref (Y.2.1 (12))) rfl dX4_stripeIs_355 rfl ?_
                          refine vv_bipush (q := 360) hC (nI 48) dX4_stripeIs_358 (by decide) rfl ?_
                          refine vv_aload_n (q := 361) hC dX4_stripeIs_360 (x := Y.2.1 (0)) rfl rfl ?_
                          refine pm_gM (q := 364) hY hC 8 hi_X4 hf_records (by decide) rfl (v := .int ((pm_a2 τ s x wn i) 0 8)) rfl dX4_stripeIs_361 rfl ?_
                          refine vv_top (y := nI (pm_r τ)) (hJc.1.1) ?_
                          refine vv_mulN (x := 48) (y := pm_r τ) (q := 365) hC dX4_stripeIs_364 rfl ?_
                          refine vv_iload (q := 367) hC dX4_stripeIs_365 (x := nI (i)) rfl rfl ?_
                          refine vv_addN (x := 48 * (pm_r τ)) (y := i) (q := 368) hC dX4_stripeIs_367 rfl ?_
                          refine vv_aload_n (q := 369) hC dX4_stripeIs_368 (x := Y.2.1 (0)) rfl rfl ?_
                          refine pm_gM (q := 372) hY hC 24 hi_X4 hf_given (by decide) rfl (v := .ref (Y.2.1 (15))) rfl dX4_stripeIs_369 rfl ?_
                          refine vv_iload (q := 374) hC dX4_stripeIs_372 (x := nI (i)) rfl rfl ?_
                          refine pm_ld_given (q := 375) hY hC (i := i) (by omega) dX4_stripeIs_374 rfl ?_
                          refine vv_top (y := τ 15 i) (by unfold pm_a2 pm_a1; rw [vv_row_n (by decide), vv_up_n (by decide), vv_up_n (by decide), vv_up_n (by decide), vv_up_n (by decide), vv_up_n (by decide)]) ?_
                          refine pm_st_kept (q := 376) hY hC (i := (48 * (pm_r τ)) + i) (x := τ 15 i) (by omega) dX4_stripeIs_375 rfl ?_
                          refine vv_iincN (x := i) (L' := [(0, .ref (Y.2.1 (0))), (1, .int (nI (s))), (2, .int (x)), (3, .int (nI (wn))), (4, .int (nI (1))), (5, .int (nI (cc9))), (6, .int (nI (i + 1)))]) (q := 379) hC dX4_stripeIs_376 rfl (by decide) rfl rfl rfl ?_
                          refine vv_goto (tgt := 347) hC dX4_stripeIs_379 (by decide) ?_
                          refine vv_st (σ' := pm_a2 τ s x wn (i + 1)) (by unfold pm_a2; rw [vv_up_row]; exact congrArg (vv_row (pm_a1 τ s x wn) 12) (vv_upd_rng (F := τ 15))) ?_
                          exact ih_347 (i + 1) (by first | omega | (dsimp only; omega))  (by omega)
                      refine vv_st (σ' := pm_a2 τ s x wn 0) (by unfold pm_a2; exact (vv_row_of (by funext j; rw [if_neg (by omega)]; rfl)).symm) ?_
                      exact lp_347 0 (by omega)
                    · refine vv_aload_n (q := 265) hC dX4_stripeIs_264 (x := Y.2.1 (0)) rfl rfl ?_
                      refine pm_gM (q := 268) hY hC 22 hi_X4 hf_counts (by decide) rfl (v := .ref (Y.2.1 (13))) rfl dX4_stripeIs_265 rfl ?_
                      refine vv_iconst (q := 269) hC (nI 1) dX4_stripeIs_268 (by decide) rfl ?_
                      refine vv_dup2 (q := 270) hC dX4_stripeIs_269 rfl rfl rfl ?_
                      refine pm_ld_counts (q := 271) hY hC (i := 1) (by omega) dX4_stripeIs_270 rfl ?_
                      refine vv_iconst (q := 272) hC (nI 1) dX4_stripeIs_271 (by decide) rfl ?_
                      refine vv_iadd (x := τ 13 1) (y := nI (1)) (q := 273) hC dX4_stripeIs_272 rfl ?_
                      refine pm_st_counts (q := 274) hY hC (i := 1) (x := (τ 13 1) + (nI (1))) (by omega) dX4_stripeIs_273 rfl ?_
                      refine vv_st (σ' := pm_tl τ 1) (rfl) ?_
                      refine vv_aload_n (q := 275) hC dX4_stripeIs_274 (x := Y.2.1 (0)) rfl rfl ?_
                      refine vv_callV (n := 0) (k := 0) (As := []) (st := []) (q := 278) hC (hY.k (by decide)) (hY.M _) (by rw [hY.cl]; rfl) (cm_X4_goes _ Y n hY (pm_tl τ 1)  ) gX4_stripeIs_X4_goes rfl (by decide +kernel) dX4_stripeIs_275 rfl rfl rfl (vv_kR ?_)
                      refine vv_ifB_eq (b := (pm_tl τ 1) 0 19 = 0) (q := 281) (tgt := 284) hC dX4_stripeIs_278 (by decide) rfl (fun c_278 => ?_) (fun c_278 => ?_)
                      · refine vv_iincN (x := k) (L' := [(0, .ref (Y.2.1 (0))), (1, .int (nI (s))), (2, .int (x)), (3, .int (nI (wn))), (4, .int (nI (1))), (5, .int (nI (cc9))), (6, .int (nI (k + 1)))]) (q := 287) hC dX4_stripeIs_284 rfl (by decide) rfl rfl rfl ?_
                        refine vv_goto (tgt := 257) hC dX4_stripeIs_287 (by decide) ?_
                        exact ih_257 (k + 1) (by first | omega | (dsimp only; omega)) (pm_go (pm_tl τ 1) n) (by omega) (by rw [hv, show cc9 - k = (cc9 - (k + 1)) + 1 by omega]; exact if_neg (show ¬ τ 0 19 = 0 from c_278))
                      · refine vv_bipush (q := 283) hC ((-106)) dX4_stripeIs_281 (by decide) rfl ?_
                        refine vv_iret (v := (-106)) hC dX4_stripeIs_283 ?_
                        rw [hp]
                        rw [hst]
                        unfold pm_stw
                        have hc2 : pm_sc σ n r s x wn = (false, pm_go (pm_tl τ 1) n) := by
                          rw [hv, show cc9 - k = (cc9 - (k + 1)) + 1 by omega]
                          exact if_pos (show τ 0 19 = 0 from c_278)
                        rw [hd2, if_pos rfl, hc2, if_neg (fun z => by cases z)]
                        exact ⟨rfl, rfl⟩
                  exact lp_257 0 τ (by omega) (by unfold pm_sc; rw [← hcc, hd2]; rfl)
                · have hrp : 0 < pm_r τ := by
                    rcases Nat.eq_zero_or_pos (pm_r τ) with z | z
                    · exfalso; apply c_241; rw [z]; show nI cc9 ≤ nI 32; exact nI_le (by omega) (by decide)
                    · exact z
                  refine vv_aload_n (q := 245) hC dX4_stripeIs_244 (x := Y.2.1 (0)) rfl rfl ?_
                  refine vv_callV (n := 0) (k := 0) (As := []) (st := []) (q := 248) hC (hY.k (by decide)) (hY.M _) (by rw [hY.cl]; rfl) (cm_X4_drained _ Y n hY τ  hJt hrp) gX4_stripeIs_X4_drained rfl (by decide +kernel) dX4_stripeIs_245 rfl rfl rfl (vv_kR ?_)
                  refine vv_ifB_ne (b := (pm_dr1 n τ).1 = true) (q := 251) (tgt := 235) hC dX4_stripeIs_248 (by decide) rfl (fun c_248 => ?_) (fun c_248 => ?_)
                  · exact ih_235 (f - 1) (by first | omega | (dsimp only; omega)) ((pm_dr1 n τ).2) (by rw [(pm_dr1_J hJt hrp).2 c_248, hf]) (pm_dr1_J hJt hrp).1 (by rw [hv, show f = (f - 1) + 1 by omega]; exact (if_pos (Int32.not_le.mp c_241)).trans (if_pos c_248))
                  · refine vv_bipush (q := 253) hC ((-106)) dX4_stripeIs_251 (by decide) rfl ?_
                    refine vv_iret (v := (-106)) hC dX4_stripeIs_253 ?_
                    rw [hp]
                    rw [hst]
                    unfold pm_stw
                    have hd2 : pm_sd σ n r s x wn = (false, (pm_dr1 n τ).2) := by
                      rw [hv, show f = (f - 1) + 1 by omega]
                      exact (if_pos (Int32.not_le.mp c_241)).trans (if_neg c_248)
                    rw [hd2, if_neg (fun z => by cases z)]
                    exact ⟨rfl, rfl⟩
              refine vv_sub (L' := [(0, .ref (Y.2.1 (0))), (1, .int (nI (s))), (2, .int (x)), (3, .int (nI (wn))), (4, .int (nI (1))), (5, .int (nI ((if wn = 1 then 2 else 3) + pm_nb x d)))]) (by simp) ?_
              refine vv_loc (L' := [(0, .ref (Y.2.1 (0))), (1, .int (nI (s))), (2, .int (x)), (3, .int (nI (wn))), (4, .int (nI (1))), (5, .int (nI (cc9)))]) (by rw [hcc, show d = n - 1 by omega]; rfl) ?_
              exact lp_235 r (pm_wi σ n r s x wn 8) (by rw [pm_r_eq (by rw [pm_wi_o (by decide) (by decide)]; exact hr) (by omega)]) (pm_wi_J hJ) (by unfold pm_sd; rw [← hcc])
            · refine vv_iload (q := 220) hC dX4_stripeIs_218 (x := nI ((if wn = 1 then 2 else 3) + pm_nb x d)) rfl rfl ?_
              refine vv_iload_n (q := 221) hC dX4_stripeIs_220 (x := x) rfl rfl ?_
              refine vv_iload (q := 223) hC dX4_stripeIs_221 (x := nI (d)) rfl rfl ?_
              refine vv_ishr (x := x) (y := nI (d)) (q := 224) hC dX4_stripeIs_223 rfl ?_
              refine vv_iconst (q := 225) hC (nI 1) dX4_stripeIs_224 (by decide) rfl ?_
              refine vv_iand (x := x >>> ((nI (d)) &&& 31)) (y := nI (1)) (q := 226) hC dX4_stripeIs_225 rfl ?_
              refine vv_top (y := nI (if pc_bit x d then 1 else 0)) (pm_bit01 _ _) ?_
              refine vv_addN (x := (if wn = 1 then 2 else 3) + pm_nb x d) (y := if pc_bit x d then 1 else 0) (q := 227) hC dX4_stripeIs_226 rfl ?_
              refine vv_istore (L' := [(0, .ref (Y.2.1 (0))), (1, .int (nI (s))), (2, .int (x)), (3, .int (nI (wn))), (4, .int (nI (1))), (5, .int (nI (((if wn = 1 then 2 else 3) + pm_nb x d) + (if pc_bit x d then 1 else 0)))), (6, .int (nI (d)))]) (q := 229) hC dX4_stripeIs_227 (by decide) rfl rfl rfl ?_
              refine vv_iincN (x := d) (L' := [(0, .ref (Y.2.1 (0))), (1, .int (nI (s))), (2, .int (x)), (3, .int (nI (wn))), (4, .int (nI (1))), (5, .int (nI (((if wn = 1 then 2 else 3) + pm_nb x d) + (if pc_bit x d then 1 else 0)))), (6, .int (nI (d + 1)))]) (q := 232) hC dX4_stripeIs_229 rfl (by decide) rfl rfl rfl ?_
              refine vv_goto (tgt := 207) hC dX4_stripeIs_232 (by decide) ?_
              refine vv_loc (L' := [(0, .ref (Y.2.1 (0))), (1, .int (nI (s))), (2, .int (x)), (3, .int (nI (wn))), (4, .int (nI (1))), (5, .int (nI ((if wn = 1 then 2 else 3) + pm_nb x (d + 1)))), (6, .int (nI ((d + 1))))]) (by rw [show pm_nb x (d + 1) = pm_nb x d + (if pc_bit x d then 1 else 0) from rfl, Nat.add_assoc]) ?_
              exact ih_207 (d + 1) (by first | omega | (dsimp only; omega))  (by omega) pm_nb_le
          refine vv_loc (L' := [(0, .ref (Y.2.1 (0))), (1, .int (nI (s))), (2, .int (x)), (3, .int (nI (wn))), (4, .int (nI (1))), (5, .int (nI ((if wn = 1 then 2 else 3) + pm_nb x 0))), (6, .int (nI (0)))]) (by rw [if_neg c_33]; rfl) ?_
          exact lp_207 0 (by omega) (Nat.le_refl 0)
        · refine vv_iload_n (q := 54) hC dX4_stripeIs_53 (x := nI (wn)) rfl rfl ?_
          refine vv_iconst (q := 55) hC (nI 2) dX4_stripeIs_54 (by decide) rfl ?_
          refine vv_icmpN_ne (x := wn) (y := 2) (q := 58) (tgt := 69) hC dX4_stripeIs_55 (by decide) (by omega) (by omega) rfl (fun c_55 => ?_) (fun c_55 => ?_)
          · refine vv_iconst (q := 70) hC (nI 0) dX4_stripeIs_69 (by decide) rfl ?_
            refine vv_istore (L' := [(0, .ref (Y.2.1 (0))), (1, .int (nI (s))), (2, .int (x)), (3, .int (nI (wn))), (4, .int (nI (1))), (5, .int (nI (i))), (6, .int (nI (0)))]) (q := 72) hC dX4_stripeIs_70 (by decide) rfl rfl rfl ?_
            refine vv_iconst (q := 73) hC (nI 0) dX4_stripeIs_72 (by decide) rfl ?_
            refine vv_istore (L' := [(0, .ref (Y.2.1 (0))), (1, .int (nI (s))), (2, .int (x)), (3, .int (nI (wn))), (4, .int (nI (1))), (5, .int (nI (i))), (6, .int (nI (0))), (7, .int (nI (0)))]) (q := 75) hC dX4_stripeIs_73 (by decide) rfl rfl rfl ?_
            have lp_75 : ∀ d : Nat, (d ≤ n - 1) → vv_V Y 9 Z (pm_wi σ n r s x wn i) 75 [(0, .ref (Y.2.1 (0))), (1, .int (nI (s))), (2, .int (x)), (3, .int (nI (wn))), (4, .int (nI (1))), (5, .int (nI (i))), (6, .int (pm_px σ n r s x wn i d)), (7, .int (nI (d)))] [] := by
              refine vv_ind (fun d => n - d) (fun d ih_75 => ?_)
              intro hd
              refine vv_iload (q := 77) hC dX4_stripeIs_75 (x := nI (d)) rfl rfl ?_
              refine vv_aload_n (q := 78) hC dX4_stripeIs_77 (x := Y.2.1 (0)) rfl rfl ?_
              refine pm_gM (q := 81) hY hC 1 hi_X4 hf_many (by decide) rfl (v := .int (nI (n))) rfl dX4_stripeIs_78 rfl ?_
              refine vv_iconst (q := 82) hC (nI 1) dX4_stripeIs_81 (by decide) rfl ?_
              refine vv_subN (x := n) (y := 1) (q := 83) hC dX4_stripeIs_82 (by omega) rfl ?_
              refine vv_icmpN_ge (x := d) (y := n - 1) (q := 86) (tgt := 174) hC dX4_stripeIs_83 (by decide) (by omega) (by omega) rfl (fun c_83 => ?_) (fun c_83 => ?_)
              · have ed : d = n - 1 := by omega
                refine vv_loc (L' := [(0, .ref (Y.2.1 (0))), (1, .int (nI (s))), (2, .int (x)), (3, .int (nI (wn))), (4, .int (nI (1))), (5, .int (nI (i))), (6, .int (pm_px σ n r s x wn i (n - 1))), (7, .int (nI (d)))]) (by rw [ed]) ?_
                refine vv_aload_n (q := 175) hC dX4_stripeIs_174 (x := Y.2.1 (0)) rfl rfl ?_
                refine pm_gM (q := 178) hY hC 24 hi_X4 hf_given (by decide) rfl (v := .ref (Y.2.1 (15))) rfl dX4_stripeIs_175 rfl ?_
                refine vv_bipush (q := 180) hC (nI 40) dX4_stripeIs_178 (by decide) rfl ?_
                refine vv_iload (q := 182) hC dX4_stripeIs_180 (x := nI (i)) rfl rfl ?_
                refine vv_addN (x := 40) (y := i) (q := 183) hC dX4_stripeIs_182 rfl ?_
                refine vv_iload (q := 185) hC dX4_stripeIs_183 (x := pm_px σ n r s x wn i (n - 1)) rfl rfl ?_
                refine pm_st_given (q := 186) hY hC (i := 40 + i) (x := pm_px σ n r s x wn i (n - 1)) (by omega) dX4_stripeIs_185 rfl ?_
                refine vv_iincN (x := i) (L' := [(0, .ref (Y.2.1 (0))), (1, .int (nI (s))), (2, .int (x)), (3, .int (nI (wn))), (4, .int (nI (1))), (5, .int (nI (i + 1))), (6, .int (pm_px σ n r s x wn i (n - 1))), (7, .int (nI (d)))]) (q := 189) hC dX4_stripeIs_186 rfl (by decide) rfl rfl rfl ?_
                refine vv_goto (tgt := 46) hC dX4_stripeIs_189 (by decide) ?_
                refine vv_sub (L' := [(0, .ref (Y.2.1 (0))), (1, .int (nI (s))), (2, .int (x)), (3, .int (nI (wn))), (4, .int (nI (1))), (5, .int (nI (i + 1)))]) (by simp) ?_
                refine vv_st (σ' := pm_wi σ n r s x wn (i + 1)) (by unfold pm_wi; rw [vv_up_row]; exact congrArg (vv_row (pm_w1 σ n r s x wn) 15) (vv_upd_rng (F := fun j => pm_px σ n r s x wn j (n - 1)))) ?_
                exact ih_46 (i + 1) (by first | omega | (dsimp only; omega))  (by omega)
              · refine vv_iload_n (q := 87) hC dX4_stripeIs_86 (x := x) rfl rfl ?_
                refine vv_iload (q := 89) hC dX4_stripeIs_87 (x := nI (d)) rfl rfl ?_
                refine vv_ishr (x := x) (y := nI (d)) (q := 90) hC dX4_stripeIs_89 rfl ?_
                refine vv_iconst (q := 91) hC (nI 1) dX4_stripeIs_90 (by decide) rfl ?_
                refine vv_iand (x := x >>> ((nI (d)) &&& 31)) (y := nI (1)) (q := 92) hC dX4_stripeIs_91 rfl ?_
                refine vv_iconst (q := 93) hC (nI 1) dX4_stripeIs_92 (by decide) rfl ?_
                refine vv_icmp_ne (x := (x >>> ((nI (d)) &&& 31)) &&& (nI (1))) (y := nI (1)) (q := 96) (tgt := 100) hC dX4_stripeIs_93 (by decide) rfl (fun c_93 => ?_) (fun c_93 => ?_)
                · refine vv_iconst (q := 101) hC (nI 0) dX4_stripeIs_100 (by decide) rfl ?_
                  refine vv_istore (L' := [(0, .ref (Y.2.1 (0))), (1, .int (nI (s))), (2, .int (x)), (3, .int (nI (wn))), (4, .int (nI (1))), (5, .int (nI (i))), (6, .int (pm_px σ n r s x wn i d)), (7, .int (nI (d))), (8, .int (nI (0)))]) (q := 103) hC dX4_stripeIs_101 (by decide) rfl rfl rfl ?_
                  refine vv_iload (q := 105) hC dX4_stripeIs_103 (x := pm_px σ n r s x wn i d) rfl rfl ?_
                  refine vv_iload (q := 107) hC dX4_stripeIs_105 (x := nI (0)) rfl rfl ?_
                  refine vv_if_eq (x := nI (0)) (q := 110) (tgt := 126) hC dX4_stripeIs_107 (by decide) rfl (fun c_107 => ?_) (fun c_107 => absurd c_107 (by decide))
                  refine vv_iconst (q := 127) hC (nI 0) dX4_stripeIs_126 (by decide) rfl ?_
                  refine vv_ixor (x := pm_px σ n r s x wn i d) (y := nI (0)) (q := 128) hC dX4_stripeIs_127 rfl ?_
                  refine vv_istore (L' := [(0, .ref (Y.2.1 (0))), (1, .int (nI (s))), (2, .int (x)), (3, .int (nI (wn))), (4, .int (nI (1))), (5, .int (nI (i))), (6, .int ((pm_px σ n r s x wn i d) ^^^ (nI (0)))), (7, .int (nI (d))), (8, .int (nI (0)))]) (q := 130) hC dX4_stripeIs_128 (by decide) rfl rfl rfl ?_
                  refine vv_iload (q := 132) hC dX4_stripeIs_130 (x := (pm_px σ n r s x wn i d) ^^^ (nI (0))) rfl rfl ?_
                  refine vv_iload_n (q := 133) hC dX4_stripeIs_132 (x := nI (wn)) rfl rfl ?_
                  refine vv_iconst (q := 134) hC (nI 1) dX4_stripeIs_133 (by decide) rfl ?_
                  refine vv_icmpN_le (x := wn) (y := 1) (q := 137) (tgt := 164) hC dX4_stripeIs_134 (by decide) (by omega) (by omega) rfl (fun c_134 => ?_) (fun c_134 => ?_)
                  · refine vv_iconst (q := 165) hC (nI 0) dX4_stripeIs_164 (by decide) rfl ?_
                    refine vv_ixor (x := (pm_px σ n r s x wn i d) ^^^ (nI (0))) (y := nI (0)) (q := 166) hC dX4_stripeIs_165 rfl ?_
                    refine vv_istore (L' := [(0, .ref (Y.2.1 (0))), (1, .int (nI (s))), (2, .int (x)), (3, .int (nI (wn))), (4, .int (nI (1))), (5, .int (nI (i))), (6, .int (((pm_px σ n r s x wn i d) ^^^ (nI (0))) ^^^ (nI (0)))), (7, .int (nI (d))), (8, .int (nI (0)))]) (q := 168) hC dX4_stripeIs_166 (by decide) rfl rfl rfl ?_
                    refine vv_iincN (x := d) (L' := [(0, .ref (Y.2.1 (0))), (1, .int (nI (s))), (2, .int (x)), (3, .int (nI (wn))), (4, .int (nI (1))), (5, .int (nI (i))), (6, .int (((pm_px σ n r s x wn i d) ^^^ (nI (0))) ^^^ (nI (0)))), (7, .int (nI (d + 1))), (8, .int (nI (0)))]) (q := 171) hC dX4_stripeIs_168 rfl (by decide) rfl rfl rfl ?_
                    refine vv_goto (tgt := 75) hC dX4_stripeIs_171 (by decide) ?_
                    refine vv_sub (L' := [(0, .ref (Y.2.1 (0))), (1, .int (nI (s))), (2, .int (x)), (3, .int (nI (wn))), (4, .int (nI (1))), (5, .int (nI (i))), (6, .int (((pm_px σ n r s x wn i d) ^^^ (nI (0))) ^^^ (nI (0)))), (7, .int (nI (d + 1)))]) (by simp) ?_
                    refine vv_loc (L' := [(0, .ref (Y.2.1 (0))), (1, .int (nI (s))), (2, .int (x)), (3, .int (nI (wn))), (4, .int (nI (1))), (5, .int (nI (i))), (6, .int (pm_px σ n r s x wn i (d + 1))), (7, .int (nI ((d + 1))))]) (by rw [show pm_px σ n r s x wn i (d + 1) = (pm_px σ n r s x wn i d ^^^ _) ^^^ _ from rfl, if_neg c_93, if_neg (fun z => absurd z.1 (by omega))]) ?_
                    exact ih_75 (d + 1) (by first | omega | (dsimp only; omega))  (by omega)
                  · refine vv_iload (q := 139) hC dX4_stripeIs_137 (x := nI (0)) rfl rfl ?_
                    refine vv_iload_n (q := 140) hC dX4_stripeIs_139 (x := nI (wn)) rfl rfl ?_
                    refine vv_iconst (q := 141) hC (nI 2) dX4_stripeIs_140 (by decide) rfl ?_
                    refine vv_icmpN_ne (x := wn) (y := 2) (q := 144) (tgt := 148) hC dX4_stripeIs_141 (by decide) (by omega) (by omega) rfl (fun c_141 => ?_) (fun c_141 => ?_)
                    · refine vv_iconst (q := 149) hC (nI 0) dX4_stripeIs_148 (by decide) rfl ?_
                      refine vv_icmpN_ne (x := 0) (y := 0) (q := 152) (tgt := 164) hC dX4_stripeIs_149 (by decide) (by omega) (by omega) rfl (fun c_149 => absurd c_149 (by decide)) (fun c_149 => ?_)
                      refine vv_aload_n (q := 153) hC dX4_stripeIs_152 (x := Y.2.1 (0)) rfl rfl ?_
                      refine vv_iload_n (q := 154) hC dX4_stripeIs_153 (x := nI (s)) rfl rfl ?_
                      refine vv_iload (q := 156) hC dX4_stripeIs_154 (x := nI (d)) rfl rfl ?_
                      refine vv_iload (q := 158) hC dX4_stripeIs_156 (x := nI (i)) rfl rfl ?_
                      refine vv_callV (n := 3) (k := 0) (As := [.int (nI (s)), .int (nI (d)), .int (nI (i))]) (st := [.int ((pm_px σ n r s x wn i d) ^^^ (nI (0)))]) (q := 161) hC (hY.k (by decide)) (hY.M _) (by rw [hY.cl]; rfl) (cm_X4_newest _ Y n hY (pm_wi σ n r s x wn i) r s d i (by rw [pm_wi_o (by decide) (by decide)]; exact hr) (by omega) (by omega) (Or.inr (by omega)) (by omega)) gX4_stripeIs_X4_newest rfl (by decide +kernel) dX4_stripeIs_158 rfl rfl rfl (vv_kR ?_)
                      refine vv_top (y := pm_nw σ n r s d i) (pm_nw_congr (fun k h13 h15 => pm_wi_o h13 h15)) ?_
                      refine vv_goto (tgt := 165) hC dX4_stripeIs_161 (by decide) ?_
                      refine vv_ixor (x := (pm_px σ n r s x wn i d) ^^^ (nI (0))) (y := pm_nw σ n r s d i) (q := 166) hC dX4_stripeIs_165 rfl ?_
                      refine vv_istore (L' := [(0, .ref (Y.2.1 (0))), (1, .int (nI (s))), (2, .int (x)), (3, .int (nI (wn))), (4, .int (nI (1))), (5, .int (nI (i))), (6, .int (((pm_px σ n r s x wn i d) ^^^ (nI (0))) ^^^ (pm_nw σ n r s d i))), (7, .int (nI (d))), (8, .int (nI (0)))]) (q := 168) hC dX4_stripeIs_166 (by decide) rfl rfl rfl ?_
                      refine vv_iincN (x := d) (L' := [(0, .ref (Y.2.1 (0))), (1, .int (nI (s))), (2, .int (x)), (3, .int (nI (wn))), (4, .int (nI (1))), (5, .int (nI (i))), (6, .int (((pm_px σ n r s x wn i d) ^^^ (nI (0))) ^^^ (pm_nw σ n r s d i))), (7, .int (nI (d + 1))), (8, .int (nI (0)))]) (q := 171) hC dX4_stripeIs_168 rfl (by decide) rfl rfl rfl ?_
                      refine vv_goto (tgt := 75) hC dX4_stripeIs_171 (by decide) ?_
                      refine vv_sub (L' := [(0, .ref (Y.2.1 (0))), (1, .int (nI (s))), (2, .int (x)), (3, .int (nI (wn))), (4, .int (nI (1))), (5, .int (nI (i))), (6, .int (((pm_px σ n r s x wn i d) ^^^ (nI (0))) ^^^ (pm_nw σ n r s d i))), (7, .int (nI (d + 1)))]) (by simp) ?_
                      refine vv_loc (L' := [(0, .ref (Y.2.1 (0))), (1, .int (nI (s))), (2, .int (x)), (3, .int (nI (wn))), (4, .int (nI (1))), (5, .int (nI (i))), (6, .int (pm_px σ n r s x wn i (d + 1))), (7, .int (nI ((d + 1))))]) (by rw [show pm_px σ n r s x wn i (d + 1) = (pm_px σ n r s x wn i d ^^^ _) ^^^ _ from rfl, if_neg c_93, if_pos ⟨by omega, iff_of_false c_93 c_141⟩]) ?_
                      exact ih_75 (d + 1) (by first | omega | (dsimp only; omega))  (by omega)
                    · refine vv_iconst (q := 145) hC (nI 1) dX4_stripeIs_144 (by decide) rfl ?_
                      refine vv_goto (tgt := 149) hC dX4_stripeIs_145 (by decide) ?_
                      refine vv_icmpN_ne (x := 0) (y := 1) (q := 152) (tgt := 164) hC dX4_stripeIs_149 (by decide) (by omega) (by omega) rfl (fun c_149 => ?_) (fun c_149 => absurd c_149 (by decide))
                      refine vv_iconst (q := 165) hC (nI 0) dX4_stripeIs_164 (by decide) rfl ?_
                      refine vv_ixor (x := (pm_px σ n r s x wn i d) ^^^ (nI (0))) (y := nI (0)) (q := 166) hC dX4_stripeIs_165 rfl ?_
                      refine vv_istore (L' := [(0, .ref (Y.2.1 (0))), (1, .int (nI (s))), (2, .int (x)), (3, .int (nI (wn))), (4, .int (nI (1))), (5, .int (nI (i))), (6, .int (((pm_px σ n r s x wn i d) ^^^ (nI (0))) ^^^ (nI (0)))), (7, .int (nI (d))), (8, .int (nI (0)))]) (q := 168) hC dX4_stripeIs_166 (by decide) rfl rfl rfl ?_
                      refine vv_iincN (x := d) (L' := [(0, .ref (Y.2.1 (0))), (1, .int (nI (s))), (2, .int (x)), (3, .int (nI (wn))), (4, .int (nI (1))), (5, .int (nI (i))), (6, .int (((pm_px σ n r s x wn i d) ^^^ (nI (0))) ^^^ (nI (0)))), (7, .int (nI (d + 1))), (8, .int (nI (0)))]) (q := 171) hC dX4_stripeIs_168 rfl (by decide) rfl rfl rfl ?_
                      refine vv_goto (tgt := 75) hC dX4_stripeIs_171 (by decide) ?_
                      refine vv_sub (L' := [(0, .ref (Y.2.1 (0))), (1, .int (nI (s))), (2, .int (x)), (3, .int (nI (wn))), (4, .int (nI (1))), (5, .int (nI (i))), (6, .int (((pm_px σ n r s x wn i d) ^^^ (nI (0))) ^^^ (nI (0)))), (7, .int (nI (d + 1)))]) (by simp) ?_
                      refine vv_loc (L' := [(0, .ref (Y.2.1 (0))), (1, .int (nI (s))), (2, .int (x)), (3, .int (nI (wn))), (4, .int (nI (1))), (5, .int (nI (i))), (6, .int (pm_px σ n r s x wn i (d + 1))), (7, .int (nI ((d + 1))))]) (by rw [show pm_px σ n r s x wn i (d + 1) = (pm_px σ n r s x wn i d ^^^ _) ^^^ _ from rfl, if_neg c_93, if_neg (fun z => c_93 (z.2.mpr c_141))]) ?_
                      exact ih_75 (d + 1) (by first | omega | (dsimp only; omega))  (by omega)
                · refine vv_iconst (q := 97) hC (nI 1) dX4_stripeIs_96 (by decide) rfl ?_
                  refine vv_goto (tgt := 101) hC dX4_stripeIs_97 (by decide) ?_
                  refine vv_istore (L' := [(0, .ref (Y.2.1 (0))), (1, .int (nI (s))), (2, .int (x)), (3, .int (nI (wn))), (4, .int (nI (1))), (5, .int (nI (i))), (6, .int (pm_px σ n r s x wn i d)), (7, .int (nI (d))), (8, .int (nI (1)))]) (q := 103) hC dX4_stripeIs_101 (by decide) rfl rfl rfl ?_
                  refine vv_iload (q := 105) hC dX4_stripeIs_103 (x := pm_px σ n r s x wn i d) rfl rfl ?_
                  refine vv_iload (q := 107) hC dX4_stripeIs_105 (x := nI (1)) rfl rfl ?_
                  refine vv_if_eq (x := nI (1)) (q := 110) (tgt := 126) hC dX4_stripeIs_107 (by decide) rfl (fun c_107 => absurd c_107 (by decide)) (fun c_107 => ?_)
                  refine vv_aload_n (q := 111) hC dX4_stripeIs_110 (x := Y.2.1 (0)) rfl rfl ?_
                  refine pm_gM (q := 114) hY hC 24 hi_X4 hf_given (by decide) rfl (v := .ref (Y.2.1 (15))) rfl dX4_stripeIs_111 rfl ?_
                  refine vv_bipush (q := 116) hC (nI 8) dX4_stripeIs_114 (by decide) rfl ?_
                  refine vv_iload (q := 118) hC dX4_stripeIs_116 (x := nI (d)) rfl rfl ?_
                  refine vv_mulN (x := 8) (y := d) (q := 119) hC dX4_stripeIs_118 rfl ?_
                  refine vv_iload (q := 121) hC dX4_stripeIs_119 (x := nI (i)) rfl rfl ?_
                  refine vv_addN (x := 8 * d) (y := i) (q := 122) hC dX4_stripeIs_121 rfl ?_
                  refine pm_ld_given (q := 123) hY hC (i := (8 * d) + i) (by omega) dX4_stripeIs_122 rfl ?_
                  refine vv_top (y := σ 15 (8 * d + i)) (by unfold pm_wi; rw [vv_row_s]; exact if_neg (by omega)) ?_
                  refine vv_goto (tgt := 127) hC dX4_stripeIs_123 (by decide) ?_
                  refine vv_ixor (x := pm_px σ n r s x wn i d) (y := σ 15 (8 * d + i)) (q := 128) hC dX4_stripeIs_127 rfl ?_
                  refine vv_istore (L' := [(0, .ref (Y.2.1 (0))), (1, .int (nI (s))), (2, .int (x)), (3, .int (nI (wn))), (4, .int (nI (1))), (5, .int (nI (i))), (6, .int ((pm_px σ n r s x wn i d) ^^^ (σ 15 (8 * d + i)))), (7, .int (nI (d))), (8, .int (nI (1)))]) (q := 130) hC dX4_stripeIs_128 (by decide) rfl rfl rfl ?_
                  refine vv_iload (q := 132) hC dX4_stripeIs_130 (x := (pm_px σ n r s x wn i d) ^^^ (σ 15 (8 * d + i))) rfl rfl ?_
                  refine vv_iload_n (q := 133) hC dX4_stripeIs_132 (x := nI (wn)) rfl rfl ?_
                  refine vv_iconst (q := 134) hC (nI 1) dX4_stripeIs_133 (by decide) rfl ?_
                  refine vv_icmpN_le (x := wn) (y := 1) (q := 137) (tgt := 164) hC dX4_stripeIs_134 (by decide) (by omega) (by omega) rfl (fun c_134 => ?_) (fun c_134 => ?_)
                  · refine vv_iconst (q := 165) hC (nI 0) dX4_stripeIs_164 (by decide) rfl ?_
                    refine vv_ixor (x := (pm_px σ n r s x wn i d) ^^^ (σ 15 (8 * d + i))) (y := nI (0)) (q := 166) hC dX4_stripeIs_165 rfl ?_
                    refine vv_istore (L' := [(0, .ref (Y.2.1 (0))), (1, .int (nI (s))), (2, .int (x)), (3, .int (nI (wn))), (4, .int (nI (1))), (5, .int (nI (i))), (6, .int (((pm_px σ n r s x wn i d) ^^^ (σ 15 (8 * d + i))) ^^^ (nI (0)))), (7, .int (nI (d))), (8, .int (nI (1)))]) (q := 168) hC dX4_stripeIs_166 (by decide) rfl rfl rfl ?_
                    refine vv_iincN (x := d) (L' := [(0, .ref (Y.2.1 (0))), (1, .int (nI (s))), (2, .int (x)), (3, .int (nI (wn))), (4, .int (nI (1))), (5, .int (nI (i))), (6, .int (((pm_px σ n r s x wn i d) ^^^ (σ 15 (8 * d + i))) ^^^ (nI (0)))), (7, .int (nI (d + 1))), (8, .int (nI (1)))]) (q := 171) hC dX4_stripeIs_168 rfl (by decide) rfl rfl rfl ?_
                    refine vv_goto (tgt := 75) hC dX4_stripeIs_171 (by decide) ?_
                    refine vv_sub (L' := [(0, .ref (Y.2.1 (0))), (1, .int (nI (s))), (2, .int (x)), (3, .int (nI (wn))), (4, .int (nI (1))), (5, .int (nI (i))), (6, .int (((pm_px σ n r s x wn i d) ^^^ (σ 15 (8 * d + i))) ^^^ (nI (0)))), (7, .int (nI (d + 1)))]) (by simp) ?_
                    refine vv_loc (L' := [(0, .ref (Y.2.1 (0))), (1, .int (nI (s))), (2, .int (x)), (3, .int (nI (wn))), (4, .int (nI (1))), (5, .int (nI (i))), (6, .int (pm_px σ n r s x wn i (d + 1))), (7, .int (nI ((d + 1))))]) (by rw [show pm_px σ n r s x wn i (d + 1) = (pm_px σ n r s x wn i d ^^^ _) ^^^ _ from rfl, if_pos c_93, if_neg (fun z => absurd z.1 (by omega))]) ?_
                    exact ih_75 (d + 1) (by first | omega | (dsimp only; omega))  (by omega)
                  · refine vv_iload (q := 139) hC dX4_stripeIs_137 (x := nI (1)) rfl rfl ?_
                    refine vv_iload_n (q := 140) hC dX4_stripeIs_139 (x := nI (wn)) rfl rfl ?_
                    refine vv_iconst (q := 141) hC (nI 2) dX4_stripeIs_140 (by decide) rfl ?_
                    refine vv_icmpN_ne (x := wn) (y := 2) (q := 144) (tgt := 148) hC dX4_stripeIs_141 (by decide) (by omega) (by omega) rfl (fun c_141 => ?_) (fun c_141 => ?_)
                    · refine vv_iconst (q := 149) hC (nI 0) dX4_stripeIs_148 (by decide) rfl ?_
                      refine vv_icmpN_ne (x := 1) (y := 0) (q := 152) (tgt := 164) hC dX4_stripeIs_149 (by decide) (by omega) (by omega) rfl (fun c_149 => ?_) (fun c_149 => absurd c_149 (by decide))
                      refine vv_iconst (q := 165) hC (nI 0) dX4_stripeIs_164 (by decide) rfl ?_
                      refine vv_ixor (x := (pm_px σ n r s x wn i d) ^^^ (σ 15 (8 * d + i))) (y := nI (0)) (q := 166) hC dX4_stripeIs_165 rfl ?_
                      refine vv_istore (L' := [(0, .ref (Y.2.1 (0))), (1, .int (nI (s))), (2, .int (x)), (3, .int (nI (wn))), (4, .int (nI (1))), (5, .int (nI (i))), (6, .int (((pm_px σ n r s x wn i d) ^^^ (σ 15 (8 * d + i))) ^^^ (nI (0)))), (7, .int (nI (d))), (8, .int (nI (1)))]) (q := 168) hC dX4_stripeIs_166 (by decide) rfl rfl rfl ?_
                      refine vv_iincN (x := d) (L' := [(0, .ref (Y.2.1 (0))), (1, .int (nI (s))), (2, .int (x)), (3, .int (nI (wn))), (4, .int (nI (1))), (5, .int (nI (i))), (6, .int (((pm_px σ n r s x wn i d) ^^^ (σ 15 (8 * d + i))) ^^^ (nI (0)))), (7, .int (nI (d + 1))), (8, .int (nI (1)))]) (q := 171) hC dX4_stripeIs_168 rfl (by decide) rfl rfl rfl ?_
                      refine vv_goto (tgt := 75) hC dX4_stripeIs_171 (by decide) ?_
                      refine vv_sub (L' := [(0, .ref (Y.2.1 (0))), (1, .int (nI (s))), (2, .int (x)), (3, .int (nI (wn))), (4, .int (nI (1))), (5, .int (nI (i))), (6, .int (((pm_px σ n r s x wn i d) ^^^ (σ 15 (8 * d + i))) ^^^ (nI (0)))), (7, .int (nI (d + 1)))]) (by simp) ?_
                      refine vv_loc (L' := [(0, .ref (Y.2.1 (0))), (1, .int (nI (s))), (2, .int (x)), (3, .int (nI (wn))), (4, .int (nI (1))), (5, .int (nI (i))), (6, .int (pm_px σ n r s x wn i (d + 1))), (7, .int (nI ((d + 1))))]) (by rw [show pm_px σ n r s x wn i (d + 1) = (pm_px σ n r s x wn i d ^^^ _) ^^^ _ from rfl, if_pos c_93, if_neg (fun z => c_141 (z.2.mp c_93))]) ?_
                      exact ih_75 (d + 1) (by first | omega | (dsimp only; omega))  (by omega)
                    · refine vv_iconst (q := 145) hC (nI 1) dX4_stripeIs_144 (by decide) rfl ?_
                      refine vv_goto (tgt := 149) hC dX4_stripeIs_145 (by decide) ?_
                      refine vv_icmpN_ne (x := 1) (y := 1) (q := 152) (tgt := 164) hC dX4_stripeIs_149 (by decide) (by omega) (by omega) rfl (fun c_149 => absurd c_149 (by decide)) (fun c_149 => ?_)
                      refine vv_aload_n (q := 153) hC dX4_stripeIs_152 (x := Y.2.1 (0)) rfl rfl ?_
                      refine vv_iload_n (q := 154) hC dX4_stripeIs_153 (x := nI (s)) rfl rfl ?_
                      refine vv_iload (q := 156) hC dX4_stripeIs_154 (x := nI (d)) rfl rfl ?_
                      refine vv_iload (q := 158) hC dX4_stripeIs_156 (x := nI (i)) rfl rfl ?_
                      refine vv_callV (n := 3) (k := 0) (As := [.int (nI (s)), .int (nI (d)), .int (nI (i))]) (st := [.int ((pm_px σ n r s x wn i d) ^^^ (σ 15 (8 * d + i)))]) (q := 161) hC (hY.k (by decide)) (hY.M _) (by rw [hY.cl]; rfl) (cm_X4_newest _ Y n hY (pm_wi σ n r s x wn i) r s d i (by rw [pm_wi_o (by decide) (by decide)]; exact hr) (by omega) (by omega) (Or.inr (by omega)) (by omega)) gX4_stripeIs_X4_newest rfl (by decide +kernel) dX4_stripeIs_158 rfl rfl rfl (vv_kR ?_)
                      refine vv_top (y := pm_nw σ n r s d i) (pm_nw_congr (fun k h13 h15 => pm_wi_o h13 h15)) ?_
                      refine vv_goto (tgt := 165) hC dX4_stripeIs_161 (by decide) ?_
                      refine vv_ixor (x := (pm_px σ n r s x wn i d) ^^^ (σ 15 (8 * d + i))) (y := pm_nw σ n r s d i) (q := 166) hC dX4_stripeIs_165 rfl ?_
                      refine vv_istore (L' := [(0, .ref (Y.2.1 (0))), (1, .int (nI (s))), (2, .int (x)), (3, .int (nI (wn))), (4, .int (nI (1))), (5, .int (nI (i))), (6, .int (((pm_px σ n r s x wn i d) ^^^ (σ 15 (8 * d + i))) ^^^ (pm_nw σ n r s d i))), (7, .int (nI (d))), (8, .int (nI (1)))]) (q := 168) hC dX4_stripeIs_166 (by decide) rfl rfl rfl ?_
                      refine vv_iincN (x := d) (L' := [(0, .ref (Y.2.1 (0))), (1, .int (nI (s))), (2, .int (x)), (3, .int (nI (wn))), (4, .int (nI (1))), (5, .int (nI (i))), (6, .int (((pm_px σ n r s x wn i d) ^^^ (σ 15 (8 * d + i))) ^^^ (pm_nw σ n r s d i))), (7, .int (nI (d + 1))), (8, .int (nI (1)))]) (q := 171) hC dX4_stripeIs_168 rfl (by decide) rfl rfl rfl ?_
                      refine vv_goto (tgt := 75) hC dX4_stripeIs_171 (by decide) ?_
                      refine vv_sub (L' := [(0, .ref (Y.2.1 (0))), (1, .int (nI (s))), (2, .int (x)), (3, .int (nI (wn))), (4, .int (nI (1))), (5, .int (nI (i))), (6, .int (((pm_px σ n r s x wn i d) ^^^ (σ 15 (8 * d + i))) ^^^ (pm_nw σ n r s d i))), (7, .int (nI (d + 1)))]) (by simp) ?_
                      refine vv_loc (L' := [(0, .ref (Y.2.1 (0))), (1, .int (nI (s))), (2, .int (x)), (3, .int (nI (wn))), (4, .int (nI (1))), (5, .int (nI (i))), (6, .int (pm_px σ n r s x wn i (d + 1))), (7, .int (nI ((d + 1))))]) (by rw [show pm_px σ n r s x wn i (d + 1) = (pm_px σ n r s x wn i d ^^^ _) ^^^ _ from rfl, if_pos c_93, if_pos ⟨by omega, iff_of_true c_93 c_141⟩]) ?_
                      exact ih_75 (d + 1) (by first | omega | (dsimp only; omega))  (by omega)
            refine vv_loc (L' := [(0, .ref (Y.2.1 (0))), (1, .int (nI (s))), (2, .int (x)), (3, .int (nI (wn))), (4, .int (nI (1))), (5, .int (nI (i))), (6, .int (pm_px σ n r s x wn i 0)), (7, .int (nI (0)))]) (by rw [show pm_px σ n r s x wn i 0 = _ from if_neg c_55]) ?_
            exact lp_75 0 (by omega)
          · refine vv_aload_n (q := 59) hC dX4_stripeIs_58 (x := Y.2.1 (0)) rfl rfl ?_
            refine vv_iload_n (q := 60) hC dX4_stripeIs_59 (x := nI (s)) rfl rfl ?_
            refine vv_iconst (q := 61) hC (nI 5) dX4_stripeIs_60 (by decide) rfl ?_
            refine vv_iload (q := 63) hC dX4_stripeIs_61 (x := nI (i)) rfl rfl ?_
            refine vv_callV (n := 3) (k := 0) (As := [.int (nI (s)), .int (nI (5)), .int (nI (i))]) (st := []) (q := 66) hC (hY.k (by decide)) (hY.M _) (by rw [hY.cl]; rfl) (cm_X4_newest _ Y n hY (pm_wi σ n r s x wn i) r s 5 i (by rw [pm_wi_o (by decide) (by decide)]; exact hr) (by omega) (by omega) (Or.inl rfl) (by omega)) gX4_stripeIs_X4_newest rfl (by decide +kernel) dX4_stripeIs_63 rfl rfl rfl (vv_kR ?_)
            refine vv_top (y := pm_nw σ n r s 5 i) (pm_nw_congr (fun k h13 h15 => pm_wi_o h13 h15)) ?_
            refine vv_goto (tgt := 70) hC dX4_stripeIs_66 (by decide) ?_
            refine vv_istore (L' := [(0, .ref (Y.2.1 (0))), (1, .int (nI (s))), (2, .int (x)), (3, .int (nI (wn))), (4, .int (nI (1))), (5, .int (nI (i))), (6, .int (pm_nw σ n r s 5 i))]) (q := 72) hC dX4_stripeIs_70 (by decide) rfl rfl rfl ?_
            refine vv_iconst (q := 73) hC (nI 0) dX4_stripeIs_72 (by decide) rfl ?_
            refine vv_istore (L' := [(0, .ref (Y.2.1 (0))), (1, .int (nI (s))), (2, .int (x)), (3, .int (nI (wn))), (4, .int (nI (1))), (5, .int (nI (i))), (6, .int (pm_nw σ n r s 5 i)), (7, .int (nI (0)))]) (q := 75) hC dX4_stripeIs_73 (by decide) rfl rfl rfl ?_
            have lp_75 : ∀ d : Nat, (d ≤ n - 1) → vv_V Y 9 Z (pm_wi σ n r s x wn i) 75 [(0, .ref (Y.2.1 (0))), (1, .int (nI (s))), (2, .int (x)), (3, .int (nI (wn))), (4, .int (nI (1))), (5, .int (nI (i))), (6, .int (pm_px σ n r s x wn i d)), (7, .int (nI (d)))] [] := by
              refine vv_ind (fun d => n - d) (fun d ih_75 => ?_)
              intro hd
              refine vv_iload (q := 77) hC dX4_stripeIs_75 (x := nI (d)) rfl rfl ?_
              refine vv_aload_n (q := 78) hC dX4_stripeIs_77 (x := Y.2.1 (0)) rfl rfl ?_
              refine pm_gM (q := 81) hY hC 1 hi_X4 hf_many (by decide) rfl (v := .int (nI (n))) rfl dX4_stripeIs_78 rfl ?_
              refine vv_iconst (q := 82) hC (nI 1) dX4_stripeIs_81 (by decide) rfl ?_
              refine vv_subN (x := n) (y := 1) (q := 83) hC dX4_stripeIs_82 (by omega) rfl ?_
              refine vv_icmpN_ge (x := d) (y := n - 1) (q := 86) (tgt := 174) hC dX4_stripeIs_83 (by decide) (by omega) (by omega) rfl (fun c_83 => ?_) (fun c_83 => ?_)
              · have ed : d = n - 1 := by omega
                refine vv_loc (L' := [(0, .ref (Y.2.1 (0))), (1, .int (nI (s))), (2, .int (x)), (3, .int (nI (wn))), (4, .int (nI (1))), (5, .int (nI (i))), (6, .int (pm_px σ n r s x wn i (n - 1))), (7, .int (nI (d)))]) (by rw [ed]) ?_
                refine vv_aload_n (q := 175) hC dX4_stripeIs_174 (x := Y.2.1 (0)) rfl rfl ?_
                refine pm_gM (q := 178) hY hC 24 hi_X4 hf_given (by decide) rfl (v := .ref (Y.2.1 (15))) rfl dX4_stripeIs_175 rfl ?_
                refine vv_bipush (q := 180) hC (nI 40) dX4_stripeIs_178 (by decide) rfl ?_
                refine vv_iload (q := 182) hC dX4_stripeIs_180 (x := nI (i)) rfl rfl ?_
                refine vv_addN (x := 40) (y := i) (q := 183) hC dX4_stripeIs_182 rfl ?_
                refine vv_iload (q := 185) hC dX4_stripeIs_183 (x := pm_px σ n r s x wn i (n - 1)) rfl rfl ?_
                refine pm_st_given (q := 186) hY hC (i := 40 + i) (x := pm_px σ n r s x wn i (n - 1)) (by omega) dX4_stripeIs_185 rfl ?_
                refine vv_iincN (x := i) (L' := [(0, .ref (Y.2.1 (0))), (1, .int (nI (s))), (2, .int (x)), (3, .int (nI (wn))), (4, .int (nI (1))), (5, .int (nI (i + 1))), (6, .int (pm_px σ n r s x wn i (n - 1))), (7, .int (nI (d)))]) (q := 189) hC dX4_stripeIs_186 rfl (by decide) rfl rfl rfl ?_
                refine vv_goto (tgt := 46) hC dX4_stripeIs_189 (by decide) ?_
                refine vv_sub (L' := [(0, .ref (Y.2.1 (0))), (1, .int (nI (s))), (2, .int (x)), (3, .int (nI (wn))), (4, .int (nI (1))), (5, .int (nI (i + 1)))]) (by simp) ?_
                refine vv_st (σ' := pm_wi σ n r s x wn (i + 1)) (by unfold pm_wi; rw [vv_up_row]; exact congrArg (vv_row (pm_w1 σ n r s x wn) 15) (vv_upd_rng (F := fun j => pm_px σ n r s x wn j (n - 1)))) ?_
                exact ih_46 (i + 1) (by first | omega | (dsimp only; omega))  (by omega)
              · refine vv_iload_n (q := 87) hC dX4_stripeIs_86 (x := x) rfl rfl ?_
                refine vv_iload (q := 89) hC dX4_stripeIs_87 (x := nI (d)) rfl rfl ?_
                refine vv_ishr (x := x) (y := nI (d)) (q := 90) hC dX4_stripeIs_89 rfl ?_
                refine vv_iconst (q := 91) hC (nI 1) dX4_stripeIs_90 (by decide) rfl ?_
                refine vv_iand (x := x >>> ((nI (d)) &&& 31)) (y := nI (1)) (q := 92) hC dX4_stripeIs_91 rfl ?_
                refine vv_iconst (q := 93) hC (nI 1) dX4_stripeIs_92 (by decide) rfl ?_
                refine vv_icmp_ne (x := (x >>> ((nI (d)) &&& 31)) &&& (nI (1))) (y := nI (1)) (q := 96) (tgt := 100) hC dX4_stripeIs_93 (by decide) rfl (fun c_93 => ?_) (fun c_93 => ?_)
                · refine vv_iconst (q := 101) hC (nI 0) dX4_stripeIs_100 (by decide) rfl ?_
                  refine vv_istore (L' := [(0, .ref (Y.2.1 (0))), (1, .int (nI (s))), (2, .int (x)), (3, .int (nI (wn))), (4, .int (nI (1))), (5, .int (nI (i))), (6, .int (pm_px σ n r s x wn i d)), (7, .int (nI (d))), (8, .int (nI (0)))]) (q := 103) hC dX4_stripeIs_101 (by decide) rfl rfl rfl ?_
                  refine vv_iload (q := 105) hC dX4_stripeIs_103 (x := pm_px σ n r s x wn i d) rfl rfl ?_
                  refine vv_iload (q := 107) hC dX4_stripeIs_105 (x := nI (0)) rfl rfl ?_
                  refine vv_if_eq (x := nI (0)) (q := 110) (tgt := 126) hC dX4_stripeIs_107 (by decide) rfl (fun c_107 => ?_) (fun c_107 => absurd c_107 (by decide))
                  refine vv_iconst (q := 127) hC (nI 0) dX4_stripeIs_126 (by decide) rfl ?_
                  refine vv_ixor (x := pm_px σ n r s x wn i d) (y := nI (0)) (q := 128) hC dX4_stripeIs_127 rfl ?_
                  refine vv_istore (L' := [(0, .ref (Y.2.1 (0))), (1, .int (nI (s))), (2, .int (x)), (3, .int (nI (wn))), (4, .int (nI (1))), (5, .int (nI (i))), (6, .int ((pm_px σ n r s x wn i d) ^^^ (nI (0)))), (7, .int (nI (d))), (8, .int (nI (0)))]) (q := 130) hC dX4_stripeIs_128 (by decide) rfl rfl rfl ?_
                  refine vv_iload (q := 132) hC dX4_stripeIs_130 (x := (pm_px σ n r s x wn i d) ^^^ (nI (0))) rfl rfl ?_
                  refine vv_iload_n (q := 133) hC dX4_stripeIs_132 (x := nI (wn)) rfl rfl ?_
                  refine vv_iconst (q := 134) hC (nI 1) dX4_stripeIs_133 (by decide) rfl ?_
                  refine vv_icmpN_le (x := wn) (y := 1) (q := 137) (tgt := 164) hC dX4_stripeIs_134 (by decide) (by omega) (by omega) rfl (fun c_134 => ?_) (fun c_134 => ?_)
                  · refine vv_iconst (q := 165) hC (nI 0) dX4_stripeIs_164 (by decide) rfl ?_
                    refine vv_ixor (x := (pm_px σ n r s x wn i d) ^^^ (nI (0))) (y := nI (0)) (q := 166) hC dX4_stripeIs_165 rfl ?_
                    refine vv_istore (L' := [(0, .ref (Y.2.1 (0))), (1, .int (nI (s))), (2, .int (x)), (3, .int (nI (wn))), (4, .int (nI (1))), (5, .int (nI (i))), (6, .int (((pm_px σ n r s x wn i d) ^^^ (nI (0))) ^^^ (nI (0)))), (7, .int (nI (d))), (8, .int (nI (0)))]) (q := 168) hC dX4_stripeIs_166 (by decide) rfl rfl rfl ?_
                    refine vv_iincN (x := d) (L' := [(0, .ref (Y.2.1 (0))), (1, .int (nI (s))), (2, .int (x)), (3, .int (nI (wn))), (4, .int (nI (1))), (5, .int (nI (i))), (6, .int (((pm_px σ n r s x wn i d) ^^^ (nI (0))) ^^^ (nI (0)))), (7, .int (nI (d + 1))), (8, .int (nI (0)))]) (q := 171) hC dX4_stripeIs_168 rfl (by decide) rfl rfl rfl ?_
                    refine vv_goto (tgt := 75) hC dX4_stripeIs_171 (by decide) ?_
                    refine vv_sub (L' := [(0, .ref (Y.2.1 (0))), (1, .int (nI (s))), (2, .int (x)), (3, .int (nI (wn))), (4, .int (nI (1))), (5, .int (nI (i))), (6, .int (((pm_px σ n r s x wn i d) ^^^ (nI (0))) ^^^ (nI (0)))), (7, .int (nI (d + 1)))]) (by simp) ?_
                    refine vv_loc (L' := [(0, .ref (Y.2.1 (0))), (1, .int (nI (s))), (2, .int (x)), (3, .int (nI (wn))), (4, .int (nI (1))), (5, .int (nI (i))), (6, .int (pm_px σ n r s x wn i (d + 1))), (7, .int (nI ((d + 1))))]) (by rw [show pm_px σ n r s x wn i (d + 1) = (pm_px σ n r s x wn i d ^^^ _) ^^^ _ from rfl, if_neg c_93, if_neg (fun z => absurd z.1 (by omega))]) ?_
                    exact ih_75 (d + 1) (by first | omega | (dsimp only; omega))  (by omega)
                  · refine vv_iload (q := 139) hC dX4_stripeIs_137 (x := nI (0)) rfl rfl ?_
                    refine vv_iload_n (q := 140) hC dX4_stripeIs_139 (x := nI (wn)) rfl rfl ?_
                    refine vv_iconst (q := 141) hC (nI 2) dX4_stripeIs_140 (by decide) rfl ?_
                    refine vv_icmpN_ne (x := wn) (y := 2) (q := 144) (tgt := 148) hC dX4_stripeIs_141 (by decide) (by omega) (by omega) rfl (fun c_141 => ?_) (fun c_141 => ?_)
                    · refine vv_iconst (q := 149) hC (nI 0) dX4_stripeIs_148 (by decide) rfl ?_
                      refine vv_icmpN_ne (x := 0) (y := 0) (q := 152) (tgt := 164) hC dX4_stripeIs_149 (by decide) (by omega) (by omega) rfl (fun c_149 => absurd c_149 (by decide)) (fun c_149 => ?_)
                      refine vv_aload_n (q := 153) hC dX4_stripeIs_152 (x := Y.2.1 (0)) rfl rfl ?_
                      refine vv_iload_n (q := 154) hC dX4_stripeIs_153 (x := nI (s)) rfl rfl ?_
                      refine vv_iload (q := 156) hC dX4_stripeIs_154 (x := nI (d)) rfl rfl ?_
                      refine vv_iload (q := 158) hC dX4_stripeIs_156 (x := nI (i)) rfl rfl ?_
                      refine vv_callV (n := 3) (k := 0) (As := [.int (nI (s)), .int (nI (d)), .int (nI (i))]) (st := [.int ((pm_px σ n r s x wn i d) ^^^ (nI (0)))]) (q := 161) hC (hY.k (by decide)) (hY.M _) (by rw [hY.cl]; rfl) (cm_X4_newest _ Y n hY (pm_wi σ n r s x wn i) r s d i (by rw [pm_wi_o (by decide) (by decide)]; exact hr) (by omega) (by omega) (Or.inr (by omega)) (by omega)) gX4_stripeIs_X4_newest rfl (by decide +kernel) dX4_stripeIs_158 rfl rfl rfl (vv_kR ?_)
                      refine vv_top (y := pm_nw σ n r s d i) (pm_nw_congr (fun k h13 h15 => pm_wi_o h13 h15)) ?_
                      refine vv_goto (tgt := 165) hC dX4_stripeIs_161 (by decide) ?_
                      refine vv_ixor (x := (pm_px σ n r s x wn i d) ^^^ (nI (0))) (y := pm_nw σ n r s d i) (q := 166) hC dX4_stripeIs_165 rfl ?_
                      refine vv_istore (L' := [(0, .ref (Y.2.1 (0))), (1, .int (nI (s))), (2, .int (x)), (3, .int (nI (wn))), (4, .int (nI (1))), (5, .int (nI (i))), (6, .int (((pm_px σ n r s x wn i d) ^^^ (nI (0))) ^^^ (pm_nw σ n r s d i))), (7, .int (nI (d))), (8, .int (nI (0)))]) (q := 168) hC dX4_stripeIs_166 (by decide) rfl rfl rfl ?_
                      refine vv_iincN (x := d) (L' := [(0, .ref (Y.2.1 (0))), (1, .int (nI (s))), (2, .int (x)), (3, .int (nI (wn))), (4, .int (nI (1))), (5, .int (nI (i))), (6, .int (((pm_px σ n r s x wn i d) ^^^ (nI (0))) ^^^ (pm_nw σ n r s d i))), (7, .int (nI (d + 1))), (8, .int (nI (0)))]) (q := 171) hC dX4_stripeIs_168 rfl (by decide) rfl rfl rfl ?_
                      refine vv_goto (tgt := 75) hC dX4_stripeIs_171 (by decide) ?_
                      refine vv_sub (L' := [(0, .ref (Y.2.1 (0))), (1, .int (nI (s))), (2, .int (x)), (3, .int (nI (wn))), (4, .int (nI (1))), (5, .int (nI (i))), (6, .int (((pm_px σ n r s x wn i d) ^^^ (nI (0))) ^^^ (pm_nw σ n r s d i))), (7, .int (nI (d + 1)))]) (by simp) ?_
                      refine vv_loc (L' := [(0, .ref (Y.2.1 (0))), (1, .int (nI (s))), (2, .int (x)), (3, .int (nI (wn))), (4, .int (nI (1))), (5, .int (nI (i))), (6, .int (pm_px σ n r s x wn i (d + 1))), (7, .int (nI ((d + 1))))]) (by rw [show pm_px σ n r s x wn i (d + 1) = (pm_px σ n r s x wn i d ^^^ _) ^^^ _ from rfl, if_neg c_93, if_pos ⟨by omega, iff_of_false c_93 c_141⟩]) ?_
                      exact ih_75 (d + 1) (by first | omega | (dsimp only; omega))  (by omega)
                    · refine vv_iconst (q := 145) hC (nI 1) dX4_stripeIs_144 (by decide) rfl ?_
                      refine vv_goto (tgt := 149) hC dX4_stripeIs_145 (by decide) ?_
                      refine vv_icmpN_ne (x := 0) (y := 1) (q := 152) (tgt := 164) hC dX4_stripeIs_149 (by decide) (by omega) (by omega) rfl (fun c_149 => ?_) (fun c_149 => absurd c_149 (by decide))
                      refine vv_iconst (q := 165) hC (nI 0) dX4_stripeIs_164 (by decide) rfl ?_
                      refine vv_ixor (x := (pm_px σ n r s x wn i d) ^^^ (nI (0))) (y := nI (0)) (q := 166) hC dX4_stripeIs_165 rfl ?_
                      refine vv_istore (L' := [(0, .ref (Y.2.1 (0))), (1, .int (nI (s))), (2, .int (x)), (3, .int (nI (wn))), (4, .int (nI (1))), (5, .int (nI (i))), (6, .int (((pm_px σ n r s x wn i d) ^^^ (nI (0))) ^^^ (nI (0)))), (7, .int (nI (d))), (8, .int (nI (0)))]) (q := 168) hC dX4_stripeIs_166 (by decide) rfl rfl rfl ?_
                      refine vv_iincN (x := d) (L' := [(0, .ref (Y.2.1 (0))), (1, .int (nI (s))), (2, .int (x)), (3, .int (nI (wn))), (4, .int (nI (1))), (5, .int (nI (i))), (6, .int (((pm_px σ n r s x wn i d) ^^^ (nI (0))) ^^^ (nI (0)))), (7, .int (nI (d + 1))), (8, .int (nI (0)))]) (q := 171) hC dX4_stripeIs_168 rfl (by decide) rfl rfl rfl ?_
                      refine vv_goto (tgt := 75) hC dX4_stripeIs_171 (by decide) ?_
                      refine vv_sub (L' := [(0, .ref (Y.2.1 (0))), (1, .int (nI (s))), (2, .int (x)), (3, .int (nI (wn))), (4, .int (nI (1))), (5, .int (nI (i))), (6, .int (((pm_px σ n r s x wn i d) ^^^ (nI (0))) ^^^ (nI (0)))), (7, .int (nI (d + 1)))]) (by simp) ?_
                      refine vv_loc (L' := [(0, .ref (Y.2.1 (0))), (1, .int (nI (s))), (2, .int (x)), (3, .int (nI (wn))), (4, .int (nI (1))), (5, .int (nI (i))), (6, .int (pm_px σ n r s x wn i (d + 1))), (7, .int (nI ((d + 1))))]) (by rw [show pm_px σ n r s x wn i (d + 1) = (pm_px σ n r s x wn i d ^^^ _) ^^^ _ from rfl, if_neg c_93, if_neg (fun z => c_93 (z.2.mpr c_141))]) ?_
                      exact ih_75 (d + 1) (by first | omega | (dsimp only; omega))  (by omega)
                · refine vv_iconst (q := 97) hC (nI 1) dX4_stripeIs_96 (by decide) rfl ?_
                  refine vv_goto (tgt := 101) hC dX4_stripeIs_97 (by decide) ?_
                  refine vv_istore (L' := [(0, .ref (Y.2.1 (0))), (1, .int (nI (s))), (2, .int (x)), (3, .int (nI (wn))), (4, .int (nI (1))), (5, .int (nI (i))), (6, .int (pm_px σ n r s x wn i d)), (7, .int (nI (d))), (8, .int (nI (1)))]) (q := 103) hC dX4_stripeIs_101 (by decide) rfl rfl rfl ?_
                  refine vv_iload (q := 105) hC dX4_stripeIs_103 (x := pm_px σ n r s x wn i d) rfl rfl ?_
                  refine vv_iload (q := 107) hC dX4_stripeIs_105 (x := nI (1)) rfl rfl ?_
                  refine vv_if_eq (x := nI (1)) (q := 110) (tgt := 126) hC dX4_stripeIs_107 (by decide) rfl (fun c_107 => absurd c_107 (by decide)) (fun c_107 => ?_)
                  refine vv_aload_n (q := 111) hC dX4_stripeIs_110 (x := Y.2.1 (0)) rfl rfl ?_
                  refine pm_gM (q := 114) hY hC 24 hi_X4 hf_given (by decide) rfl (v := .ref (Y.2.1 (15))) rfl dX4_stripeIs_111 rfl ?_
                  refine vv_bipush (q := 116) hC (nI 8) dX4_stripeIs_114 (by decide) rfl ?_
                  refine vv_iload (q := 118) hC dX4_stripeIs_116 (x := nI (d)) rfl rfl ?_
                  refine vv_mulN (x := 8) (y := d) (q := 119) hC dX4_stripeIs_118 rfl ?_
                  refine vv_iload (q := 121) hC dX4_stripeIs_119 (x := nI (i)) rfl rfl ?_
                  refine vv_addN (x := 8 * d) (y := i) (q := 122) hC dX4_stripeIs_121 rfl ?_
                  refine pm_ld_given (q := 123) hY hC (i := (8 * d) + i) (by omega) dX4_stripeIs_122 rfl ?_
                  refine vv_top (y := σ 15 (8 * d + i)) (by unfold pm_wi; rw [vv_row_s]; exact if_neg (by omega)) ?_
                  refine vv_goto (tgt := 127) hC dX4_stripeIs_123 (by decide) ?_
                  refine vv_ixor (x := pm_px σ n r s x wn i d) (y := σ 15 (8 * d + i)) (q := 128) hC dX4_stripeIs_127 rfl ?_
                  refine vv_istore (L' := [(0, .ref (Y.2.1 (0))), (1, .int (nI (s))), (2, .int (x)), (3, .int (nI (wn))), (4, .int (nI (1))), (5, .int (nI (i))), (6, .int ((pm_px σ n r s x wn i d) ^^^ (σ 15 (8 * d + i)))), (7, .int (nI (d))), (8, .int (nI (1)))]) (q := 130) hC dX4_stripeIs_128 (by decide) rfl rfl rfl ?_
                  refine vv_iload (q := 132) hC dX4_stripeIs_130 (x := (pm_px σ n r s x wn i d) ^^^ (σ 15 (8 * d + i))) rfl rfl ?_
                  refine vv_iload_n (q := 133) hC dX4_stripeIs_132 (x := nI (wn)) rfl rfl ?_
                  refine vv_iconst (q := 134) hC (nI 1) dX4_stripeIs_133 (by decide) rfl ?_
                  refine vv_icmpN_le (x := wn) (y := 1) (q := 137) (tgt := 164) hC dX4_stripeIs_134 (by decide) (by omega) (by omega) rfl (fun c_134 => ?_) (fun c_134 => ?_)
                  · refine vv_iconst (q := 165) hC (nI 0) dX4_stripeIs_164 (by decide) rfl ?_
                    refine vv_ixor (x := (pm_px σ n r s x wn i d) ^^^ (σ 15 (8 * d + i))) (y := nI (0)) (q := 166) hC dX4_stripeIs_165 rfl ?_
                    refine vv_istore (L' := [(0, .ref (Y.2.1 (0))), (1, .int (nI (s))), (2, .int (x)), (3, .int (nI (wn))), (4, .int (nI (1))), (5, .int (nI (i))), (6, .int (((pm_px σ n r s x wn i d) ^^^ (σ 15 (8 * d + i))) ^^^ (nI (0)))), (7, .int (nI (d))), (8, .int (nI (1)))]) (q := 168) hC dX4_stripeIs_166 (by decide) rfl rfl rfl ?_
                    refine vv_iincN (x := d) (L' := [(0, .ref (Y.2.1 (0))), (1, .int (nI (s))), (2, .int (x)), (3, .int (nI (wn))), (4, .int (nI (1))), (5, .int (nI (i))), (6, .int (((pm_px σ n r s x wn i d) ^^^ (σ 15 (8 * d + i))) ^^^ (nI (0)))), (7, .int (nI (d + 1))), (8, .int (nI (1)))]) (q := 171) hC dX4_stripeIs_168 rfl (by decide) rfl rfl rfl ?_
                    refine vv_goto (tgt := 75) hC dX4_stripeIs_171 (by decide) ?_
                    refine vv_sub (L' := [(0, .ref (Y.2.1 (0))), (1, .int (nI (s))), (2, .int (x)), (3, .int (nI (wn))), (4, .int (nI (1))), (5, .int (nI (i))), (6, .int (((pm_px σ n r s x wn i d) ^^^ (σ 15 (8 * d + i))) ^^^ (nI (0)))), (7, .int (nI (d + 1)))]) (by simp) ?_
                    refine vv_loc (L' := [(0, .ref (Y.2.1 (0))), (1, .int (nI (s))), (2, .int (x)), (3, .int (nI (wn))), (4, .int (nI (1))), (5, .int (nI (i))), (6, .int (pm_px σ n r s x wn i (d + 1))), (7, .int (nI ((d + 1))))]) (by rw [show pm_px σ n r s x wn i (d + 1) = (pm_px σ n r s x wn i d ^^^ _) ^^^ _ from rfl, if_pos c_93, if_neg (fun z => absurd z.1 (by omega))]) ?_
                    exact ih_75 (d + 1) (by first | omega | (dsimp only; omega))  (by omega)
                  · refine vv_iload (q := 139) hC dX4_stripeIs_137 (x := nI (1)) rfl rfl ?_
                    refine vv_iload_n (q := 140) hC dX4_stripeIs_139 (x := nI (wn)) rfl rfl ?_
                    refine vv_iconst (q := 141) hC (nI 2) dX4_stripeIs_140 (by decide) rfl ?_
                    refine vv_icmpN_ne (x := wn) (y := 2) (q := 144) (tgt := 148) hC dX4_stripeIs_141 (by decide) (by omega) (by omega) rfl (fun c_141 => ?_) (fun c_141 => ?_)
                    · refine vv_iconst (q := 149) hC (nI 0) dX4_stripeIs_148 (by decide) rfl ?_
                      refine vv_icmpN_ne (x := 1) (y := 0) (q := 152) (tgt := 164) hC dX4_stripeIs_149 (by decide) (by omega) (by omega) rfl (fun c_149 => ?_) (fun c_149 => absurd c_149 (by decide))
                      refine vv_iconst (q := 165) hC (nI 0) dX4_stripeIs_164 (by decide) rfl ?_
                      refine vv_ixor (x := (pm_px σ n r s x wn i d) ^^^ (σ 15 (8 * d + i))) (y := nI (0)) (q := 166) hC dX4_stripeIs_165 rfl ?_
                      refine vv_istore (L' := [(0, .ref (Y.2.1 (0))), (1, .int (nI (s))), (2, .int (x)), (3, .int (nI (wn))), (4, .int (nI (1))), (5, .int (nI (i))), (6, .int (((pm_px σ n r s x wn i d) ^^^ (σ 15 (8 * d + i))) ^^^ (nI (0)))), (7, .int (nI (d))), (8, .int (nI (1)))]) (q := 168) hC dX4_stripeIs_166 (by decide) rfl rfl rfl ?_
                      refine vv_iincN (x := d) (L' := [(0, .ref (Y.2.1 (0))), (1, .int (nI (s))), (2, .int (x)), (3, .int (nI (wn))), (4, .int (nI (1))), (5, .int (nI (i))), (6, .int (((pm_px σ n r s x wn i d) ^^^ (σ 15 (8 * d + i))) ^^^ (nI (0)))), (7, .int (nI (d + 1))), (8, .int (nI (1)))]) (q := 171) hC dX4_stripeIs_168 rfl (by decide) rfl rfl rfl ?_
                      refine vv_goto (tgt := 75) hC dX4_stripeIs_171 (by decide) ?_
                      refine vv_sub (L' := [(0, .ref (Y.2.1 (0))), (1, .int (nI (s))), (2, .int (x)), (3, .int (nI (wn))), (4, .int (nI (1))), (5, .int (nI (i))), (6, .int (((pm_px σ n r s x wn i d) ^^^ (σ 15 (8 * d + i))) ^^^ (nI (0)))), (7, .int (nI (d + 1)))]) (by simp) ?_
                      refine vv_loc (L' := [(0, .ref (Y.2.1 (0))), (1, .int (nI (s))), (2, .int (x)), (3, .int (nI (wn))), (4, .int (nI (1))), (5, .int (nI (i))), (6, .int (pm_px σ n r s x wn i (d + 1))), (7, .int (nI ((d + 1))))]) (by rw [show pm_px σ n r s x wn i (d + 1) = (pm_px σ n r s x wn i d ^^^ _) ^^^ _ from rfl, if_pos c_93, if_neg (fun z => c_141 (z.2.mp c_93))]) ?_
                      exact ih_75 (d + 1) (by first | omega | (dsimp only; omega))  (by omega)
                    · refine vv_iconst (q := 145) hC (nI 1) dX4_stripeIs_144 (by decide) rfl ?_
                      refine vv_goto (tgt := 149) hC dX4_stripeIs_145 (by decide) ?_
                      refine vv_icmpN_ne (x := 1) (y := 1) (q := 152) (tgt := 164) hC dX4_stripeIs_149 (by decide) (by omega) (by omega) rfl (fun c_149 => absurd c_149 (by decide)) (fun c_149 => ?_)
                      refine vv_aload_n (q := 153) hC dX4_stripeIs_152 (x := Y.2.1 (0)) rfl rfl ?_
                      refine vv_iload_n (q := 154) hC dX4_stripeIs_153 (x := nI (s)) rfl rfl ?_
                      refine vv_iload (q := 156) hC dX4_stripeIs_154 (x := nI (d)) rfl rfl ?_
                      refine vv_iload (q := 158) hC dX4_stripeIs_156 (x := nI (i)) rfl rfl ?_
                      refine vv_callV (n := 3) (k := 0) (As := [.int (nI (s)), .int (nI (d)), .int (nI (i))]) (st := [.int ((pm_px σ n r s x wn i d) ^^^ (σ 15 (8 * d + i)))]) (q := 161) hC (hY.k (by decide)) (hY.M _) (by rw [hY.cl]; rfl) (cm_X4_newest _ Y n hY (pm_wi σ n r s x wn i) r s d i (by rw [pm_wi_o (by decide) (by decide)]; exact hr) (by omega) (by omega) (Or.inr (by omega)) (by omega)) gX4_stripeIs_X4_newest rfl (by decide +kernel) dX4_stripeIs_158 rfl rfl rfl (vv_kR ?_)
                      refine vv_top (y := pm_nw σ n r s d i) (pm_nw_congr (fun k h13 h15 => pm_wi_o h13 h15)) ?_
                      refine vv_goto (tgt := 165) hC dX4_stripeIs_161 (by decide) ?_
                      refine vv_ixor (x := (pm_px σ n r s x wn i d) ^^^ (σ 15 (8 * d + i))) (y := pm_nw σ n r s d i) (q := 166) hC dX4_stripeIs_165 rfl ?_
                      refine vv_istore (L' := [(0, .ref (Y.2.1 (0))), (1, .int (nI (s))), (2, .int (x)), (3, .int (nI (wn))), (4, .int (nI (1))), (5, .int (nI (i))), (6, .int (((pm_px σ n r s x wn i d) ^^^ (σ 15 (8 * d + i))) ^^^ (pm_nw σ n r s d i))), (7, .int (nI (d))), (8, .int (nI (1)))]) (q := 168) hC dX4_stripeIs_166 (by decide) rfl rfl rfl ?_
                      refine vv_iincN (x := d) (L' := [(0, .ref (Y.2.1 (0))), (1, .int (nI (s))), (2, .int (x)), (3, .int (nI (wn))), (4, .int (nI (1))), (5, .int (nI (i))), (6, .int (((pm_px σ n r s x wn i d) ^^^ (σ 15 (8 * d + i))) ^^^ (pm_nw σ n r s d i))), (7, .int (nI (d + 1))), (8, .int (nI (1)))]) (q := 171) hC dX4_stripeIs_168 rfl (by decide) rfl rfl rfl ?_
                      refine vv_goto (tgt := 75) hC dX4_stripeIs_171 (by decide) ?_
                      refine vv_sub (L' := [(0, .ref (Y.2.1 (0))), (1, .int (nI (s))), (2, .int (x)), (3, .int (nI (wn))), (4, .int (nI (1))), (5, .int (nI (i))), (6, .int (((pm_px σ n r s x wn i d) ^^^ (σ 15 (8 * d + i))) ^^^ (pm_nw σ n r s d i))), (7, .int (nI (d + 1)))]) (by simp) ?_
                      refine vv_loc (L' := [(0, .ref (Y.2.1 (0))), (1, .int (nI (s))), (2, .int (x)), (3, .int (nI (wn))), (4, .int (nI (1))), (5, .int (nI (i))), (6, .int (pm_px σ n r s x wn i (d + 1))), (7, .int (nI ((d + 1))))]) (by rw [show pm_px σ n r s x wn i (d + 1) = (pm_px σ n r s x wn i d ^^^ _) ^^^ _ from rfl, if_pos c_93, if_pos ⟨by omega, iff_of_true c_93 c_141⟩]) ?_
                      exact ih_75 (d + 1) (by first | omega | (dsimp only; omega))  (by omega)
            refine vv_loc (L' := [(0, .ref (Y.2.1 (0))), (1, .int (nI (s))), (2, .int (x)), (3, .int (nI (wn))), (4, .int (nI (1))), (5, .int (nI (i))), (6, .int (pm_px σ n r s x wn i 0)), (7, .int (nI (0)))]) (by rw [show pm_px σ n r s x wn i 0 = _ from if_pos c_55]) ?_
            exact lp_75 0 (by omega)
      refine vv_st (σ' := pm_wi σ n r s x wn 0) (by unfold pm_wi; exact (vv_row_of (by funext j; rw [if_neg (by omega)]; exact congrFun (vv_up_n (by decide)).symm j)).symm) ?_
      exact lp_46 0 (by omega)
  · refine vv_bipush (q := 14) hC ((-105)) dX4_stripeIs_12 (by decide) rfl ?_
    refine vv_iret (v := (-105)) hC dX4_stripeIs_14 ?_
    rw [hp]
    unfold pm_st
    rw [if_pos (hw ▸ c_9)]
    exact ⟨rfl, rfl⟩
