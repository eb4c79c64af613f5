theorem pm_ox_congr {σ τ : vv_S} {x : Int32} {s i : Nat} (h : τ 1 = σ 1) : ∀ {k : Nat}, pm_ox τ x s i k = pm_ox σ x s i k
  | 0 => rfl
  | k + 1 => by unfold pm_ox; rw [pm_ox_congr h (k := k), h]
set_option maxRecDepth 100000 in
set_option maxHeartbeats 4000000 in
theorem cm_X4_reads (l : Launch) (Y : vv_Y) (n : Nat) (hY : pm_sys Y n) (σ : vv_S) (r : Nat) (s : Nat) (x : Int32) (w : Nat) (hr : σ 0 8 = nI r) (hr10 : r ≤ 15) (hs : s < 24) (hw : w ≤ 3) : vv_M l Y yX4_reads wsX4_reads { frames := 1, cells := 0, slots := 0, locals := 24 } [.ref (Y.2.1 (0)), .int (nI (s)), .int (x), .int (nI (w))] σ (vv_R (.int (nI (pm_rd σ n r s x w))) σ) := by
  refine vv_M.of (cc := cX4_reads) (maxL := 7) (ret := (some .int)) hY.ok (by decide) rfl (Nat.le_of_ble_eq_true rfl) ?_
  intro Z hl hp hC
  subst hl
  have hi_X4 : ∀ w ∈ u_ws RX4 TX4 25, w ∈ wsX4_reads := by decide +kernel
  have hf_many : Cond.fieldLink RX4 69 "ParityRowModel" (TX4 1).2.1 (TX4 1).2.2.1 ∈ wsX4_reads := by decide +kernel
  have hlo := hY.lo
  have hhi := hY.hi
  refine vv_loc (L' := [(0, .ref (Y.2.1 (0))), (1, .int (nI (s))), (2, .int (x)), (3, .int (nI (w)))]) rfl ?_
  refine vv_iload_n (q := 1) hC dX4_reads_0 (x := nI (w)) rfl rfl ?_
  refine vv_iconst (q := 2) hC (nI 2) dX4_reads_1 (by decide) rfl ?_
  refine vv_icmpN_ne (x := w) (y := 2) (q := 5) (tgt := 19) hC dX4_reads_2 (by decide) (by omega) (by omega) rfl (fun c_2 => ?_) (fun c_2 => ?_)
  · refine vv_iconst (q := 20) hC (nI 0) dX4_reads_19 (by decide) rfl ?_
    refine vv_istore (L' := [(0, .ref (Y.2.1 (0))), (1, .int (nI (s))), (2, .int (x)), (3, .int (nI (w))), (4, .int (nI (0)))]) (q := 22) hC dX4_reads_20 (by decide) rfl rfl rfl ?_
    refine vv_iconst (q := 23) hC (nI 0) dX4_reads_22 (by decide) rfl ?_
    refine vv_istore (L' := [(0, .ref (Y.2.1 (0))), (1, .int (nI (s))), (2, .int (x)), (3, .int (nI (w))), (4, .int (nI (0))), (5, .int (nI (0)))]) (q := 25) hC dX4_reads_23 (by decide) rfl rfl rfl ?_
    have lp_25 : ∀ d : Nat, (d ≤ n - 1) → (d = 0 ∨ 1 < w) → (pm_rdl σ r s x w d ≤ d + 1) → vv_V Y 7 Z σ 25 [(0, .ref (Y.2.1 (0))), (1, .int (nI (s))), (2, .int (x)), (3, .int (nI (w))), (4, .int (nI (pm_rdl σ r s x w d))), (5, .int (nI (d)))] [] := by
      refine vv_ind (fun d => n - d) (fun d ih_25 => ?_)
      intro hd hdw hrl
      refine vv_iload (q := 27) hC dX4_reads_25 (x := nI (d)) rfl rfl ?_
      refine vv_aload_n (q := 28) hC dX4_reads_27 (x := Y.2.1 (0)) rfl rfl ?_
      refine pm_gM (q := 31) hY hC 1 hi_X4 hf_many (by decide) rfl (v := .int (nI (n))) rfl dX4_reads_28 rfl ?_
      refine vv_iconst (q := 32) hC (nI 1) dX4_reads_31 (by decide) rfl ?_
      refine vv_subN (x := n) (y := 1) (q := 33) hC dX4_reads_32 (by omega) rfl ?_
      refine vv_icmpN_ge (x := d) (y := n - 1) (q := 36) (tgt := 100) hC dX4_reads_33 (by decide) (by omega) (by omega) rfl (fun c_33 => ?_) (fun c_33 => ?_)
      · refine vv_iload (q := 102) hC dX4_reads_100 (x := nI (pm_rdl σ r s x w d)) rfl rfl ?_
        refine vv_iret (v := nI (pm_rdl σ r s x w d)) hC dX4_reads_102 ?_
        rw [hp]
        unfold pm_rd
        by_cases hw1 : 1 < w
        · rw [if_pos hw1, show d = n - 1 by omega]
          exact ⟨rfl, rfl⟩
        · rw [if_neg hw1, show d = 0 by omega]
          exact ⟨rfl, rfl⟩
      · refine vv_iload_n (q := 37) hC dX4_reads_36 (x := nI (w)) rfl rfl ?_
        refine vv_iconst (q := 38) hC (nI 1) dX4_reads_37 (by decide) rfl ?_
        refine vv_icmpN_le (x := w) (y := 1) (q := 41) (tgt := 100) hC dX4_reads_38 (by decide) (by omega) (by omega) rfl (fun c_38 => ?_) (fun c_38 => ?_)
        · refine vv_iload (q := 102) hC dX4_reads_100 (x := nI (pm_rdl σ r s x w d)) rfl rfl ?_
          refine vv_iret (v := nI (pm_rdl σ r s x w d)) hC dX4_reads_102 ?_
          rw [hp]
          unfold pm_rd
          rw [if_neg (by omega), show d = 0 by omega]
          exact ⟨rfl, rfl⟩
        · refine vv_iload_n (q := 42) hC dX4_reads_41 (x := x) rfl rfl ?_
          refine vv_iload (q := 44) hC dX4_reads_42 (x := nI (d)) rfl rfl ?_
          refine vv_ishr (x := x) (y := nI (d)) (q := 45) hC dX4_reads_44 rfl ?_
          refine vv_iconst (q := 46) hC (nI 1) dX4_reads_45 (by decide) rfl ?_
          refine vv_iand (x := x >>> ((nI (d)) &&& 31)) (y := nI (1)) (q := 47) hC dX4_reads_46 rfl ?_
          refine vv_iconst (q := 48) hC (nI 1) dX4_reads_47 (by decide) rfl ?_
          refine vv_icmp_ne (x := (x >>> ((nI (d)) &&& 31)) &&& (nI (1))) (y := nI (1)) (q := 51) (tgt := 55) hC dX4_reads_48 (by decide) rfl (fun c_48 => ?_) (fun c_48 => ?_)
          · refine vv_iconst (q := 56) hC (nI 0) dX4_reads_55 (by decide) rfl ?_
            refine vv_istore (L' := [(0, .ref (Y.2.1 (0))), (1, .int (nI (s))), (2, .int (x)), (3, .int (nI (w))), (4, .int (nI (pm_rdl σ r s x w d))), (5, .int (nI (d))), (6, .int (nI (0)))]) (q := 58) hC dX4_reads_56 (by decide) rfl rfl rfl ?_
            refine vv_iload (q := 60) hC dX4_reads_58 (x := nI (pm_rdl σ r s x w d)) rfl rfl ?_
            refine vv_iload (q := 62) hC dX4_reads_60 (x := nI (0)) rfl rfl ?_
            refine vv_iload_n (q := 63) hC dX4_reads_62 (x := nI (w)) rfl rfl ?_
            refine vv_iconst (q := 64) hC (nI 2) dX4_reads_63 (by decide) rfl ?_
            refine vv_icmpN_ne (x := w) (y := 2) (q := 67) (tgt := 71) hC dX4_reads_64 (by decide) (by omega) (by omega) rfl (fun c_64 => ?_) (fun c_64 => ?_)
            · refine vv_iconst (q := 72) hC (nI 0) dX4_reads_71 (by decide) rfl ?_
              refine vv_icmpN_ne (x := 0) (y := 0) (q := 75) (tgt := 90) hC dX4_reads_72 (by decide) (by omega) (by omega) rfl (fun c_72 => absurd c_72 (by decide)) (fun c_72 => ?_)
              refine vv_aload_n (q := 76) hC dX4_reads_75 (x := Y.2.1 (0)) rfl rfl ?_
              refine vv_iload_n (q := 77) hC dX4_reads_76 (x := nI (s)) rfl rfl ?_
              refine vv_iload (q := 79) hC dX4_reads_77 (x := nI (d)) rfl rfl ?_
              refine vv_callV (n := 2) (k := 0) (As := [.int (nI (s)), .int (nI (d))]) (st := [.int (nI (pm_rdl σ r s x w d))]) (q := 82) hC (hY.k (by decide)) (hY.M _) (by rw [hY.cl]; rfl) (cm_X4_latest _ Y n hY σ r s d hr hr10 (by omega)) gX4_reads_X4_latest rfl (by decide +kernel) dX4_reads_79 rfl rfl rfl (vv_kR ?_)
              rcases hlat_79 : pm_lat σ s d r with _ | k
              · refine vv_stk (st' := [.int (-1), .int (nI (pm_rdl σ r s x w d))]) rfl ?_
                refine vv_iconst (q := 83) hC ((-1)) dX4_reads_82 (by decide) rfl ?_
                refine vv_icmp_ne (x := (-1)) (y := (-1)) (q := 86) (tgt := 90) hC dX4_reads_83 (by decide) rfl (fun c_83 => absurd rfl c_83) (fun c_83 => ?_)
                refine vv_iconst (q := 87) hC (nI 1) dX4_reads_86 (by decide) rfl ?_
                refine vv_goto (tgt := 91) hC dX4_reads_87 (by decide) ?_
                refine vv_addN (x := pm_rdl σ r s x w d) (y := 1) (q := 92) hC dX4_reads_91 rfl ?_
                refine vv_istore (L' := [(0, .ref (Y.2.1 (0))), (1, .int (nI (s))), (2, .int (x)), (3, .int (nI (w))), (4, .int (nI ((pm_rdl σ r s x w d) + 1))), (5, .int (nI (d))), (6, .int (nI (0)))]) (q := 94) hC dX4_reads_92 (by decide) rfl rfl rfl ?_
                refine vv_iincN (x := d) (L' := [(0, .ref (Y.2.1 (0))), (1, .int (nI (s))), (2, .int (x)), (3, .int (nI (w))), (4, .int (nI ((pm_rdl σ r s x w d) + 1))), (5, .int (nI (d + 1))), (6, .int (nI (0)))]) (q := 97) hC dX4_reads_94 rfl (by decide) rfl rfl rfl ?_
                refine vv_goto (tgt := 25) hC dX4_reads_97 (by decide) ?_
                refine vv_sub (L' := [(0, .ref (Y.2.1 (0))), (1, .int (nI (s))), (2, .int (x)), (3, .int (nI (w))), (4, .int (nI ((pm_rdl σ r s x w d) + 1))), (5, .int (nI (d + 1)))]) (by simp) ?_
                refine vv_loc (L' := [(0, .ref (Y.2.1 (0))), (1, .int (nI (s))), (2, .int (x)), (3, .int (nI (w))), (4, .int (nI (pm_rdl σ r s x w (d + 1)))), (5, .int (nI ((d + 1))))]) (by rw [show pm_rdl σ r s x w (d + 1) = _ from congrArg (fun z => pm_rdl σ r s x w d + z) (if_pos ⟨(iff_of_false c_48 c_64), hlat_79⟩)]) ?_
                exact ih_25 (d + 1) (by first | omega | (dsimp only; omega))  (by omega) (by omega) (by show pm_rdl σ r s x w d + _ ≤ _; split <;> omega)
              · have hl_k := pm_lat_lt hlat_79
                refine vv_stk (st' := [.int (nI (k)), .int (nI (pm_rdl σ r s x w d))]) rfl ?_
                refine vv_iconst (q := 83) hC ((-1)) dX4_reads_82 (by decide) rfl ?_
                refine vv_icmp_ne (x := nI (k)) (y := (-1)) (q := 86) (tgt := 90) hC dX4_reads_83 (by decide) rfl (fun c_83 => ?_) (fun c_83 => absurd c_83 (pm_ne1 (by omega)))
                refine vv_iconst (q := 91) hC (nI 0) dX4_reads_90 (by decide) rfl ?_
                refine vv_addN (x := pm_rdl σ r s x w d) (y := 0) (q := 92) hC dX4_reads_91 rfl ?_
                refine vv_istore (L' := [(0, .ref (Y.2.1 (0))), (1, .int (nI (s))), (2, .int (x)), (3, .int (nI (w))), (4, .int (nI ((pm_rdl σ r s x w d) + 0))), (5, .int (nI (d))), (6, .int (nI (0)))]) (q := 94) hC dX4_reads_92 (by decide) rfl rfl rfl ?_
                refine vv_iincN (x := d) (L' := [(0, .ref (Y.2.1 (0))), (1, .int (nI (s))), (2, .int (x)), (3, .int (nI (w))), (4, .int (nI ((pm_rdl σ r s x w d) + 0))), (5, .int (nI (d + 1))), (6, .int (nI (0)))]) (q := 97) hC dX4_reads_94 rfl (by decide) rfl rfl rfl ?_
                refine vv_goto (tgt := 25) hC dX4_reads_97 (by decide) ?_
                refine vv_sub (L' := [(0, .ref (Y.2.1 (0))), (1, .int (nI (s))), (2, .int (x)), (3, .int (nI (w))), (4, .int (nI ((pm_rdl σ r s x w d) + 0))), (5, .int (nI (d + 1)))]) (by simp) ?_
                refine vv_loc (L' := [(0, .ref (Y.2.1 (0))), (1, .int (nI (s))), (2, .int (x)), (3, .int (nI (w))), (4, .int (nI (pm_rdl σ r s x w (d + 1)))), (5, .int (nI ((d + 1))))]) (by rw [show pm_rdl σ r s x w (d + 1) = _ from congrArg (fun z => pm_rdl σ r s x w d + z) (if_neg (fun z => by cases hlat_79.symm.trans z.2))]) ?_
                exact ih_25 (d + 1) (by first | omega | (dsimp only; omega))  (by omega) (by omega) (by show pm_rdl σ r s x w d + _ ≤ _; split <;> omega)
            · refine vv_iconst (q := 68) hC (nI 1) dX4_reads_67 (by decide) rfl ?_
              refine vv_goto (tgt := 72) hC dX4_reads_68 (by decide) ?_
              refine vv_icmpN_ne (x := 0) (y := 1) (q := 75) (tgt := 90) hC dX4_reads_72 (by decide) (by omega) (by omega) rfl (fun c_72 => ?_) (fun c_72 => absurd c_72 (by decide))
              refine vv_iconst (q := 91) hC (nI 0) dX4_reads_90 (by decide) rfl ?_
              refine vv_addN (x := pm_rdl σ r s x w d) (y := 0) (q := 92) hC dX4_reads_91 rfl ?_
              refine vv_istore (L' := [(0, .ref (Y.2.1 (0))), (1, .int (nI (s))), (2, .int (x)), (3, .int (nI (w))), (4, .int (nI ((pm_rdl σ r s x w d) + 0))), (5, .int (nI (d))), (6, .int (nI (0)))]) (q := 94) hC dX4_reads_92 (by decide) rfl rfl rfl ?_
              refine vv_iincN (x := d) (L' := [(0, .ref (Y.2.1 (0))), (1, .int (nI (s))), (2, .int (x)), (3, .int (nI (w))), (4, .int (nI ((pm_rdl σ r s x w d) + 0))), (5, .int (nI (d + 1))), (6, .int (nI (0)))]) (q := 97) hC dX4_reads_94 rfl (by decide) rfl rfl rfl ?_
              refine vv_goto (tgt := 25) hC dX4_reads_97 (by decide) ?_
              refine vv_sub (L' := [(0, .ref (Y.2.1 (0))), (1, .int (nI (s))), (2, .int (x)), (3, .int (nI (w))), (4, .int (nI ((pm_rdl σ r s x w d) + 0))), (5, .int (nI (d + 1)))]) (by simp) ?_
              refine vv_loc (L' := [(0, .ref (Y.2.1 (0))), (1, .int (nI (s))), (2, .int (x)), (3, .int (nI (w))), (4, .int (nI (pm_rdl σ r s x w (d + 1)))), (5, .int (nI ((d + 1))))]) (by rw [show pm_rdl σ r s x w (d + 1) = _ from congrArg (fun z => pm_rdl σ r s x w d + z) (if_neg (fun z => c_48 (z.1.mpr c_64)))]) ?_
              exact ih_25 (d + 1) (by first | omega | (dsimp only; omega))  (by omega) (by omega) (by show pm_rdl σ r s x w d + _ ≤ _; split <;> omega)
          · refine vv_iconst (q := 52) hC (nI 1) dX4_reads_51 (by decide) rfl ?_
            refine vv_goto (tgt := 56) hC dX4_reads_52 (by decide) ?_
            refine vv_istore (L' := [(0, .ref (Y.2.1 (0))), (1, .int (nI (s))), (2, .int (x)), (3, .int (nI (w))), (4, .int (nI (pm_rdl σ r s x w d))), (5, .int (nI (d))), (6, .int (nI (1)))]) (q := 58) hC dX4_reads_56 (by decide) rfl rfl rfl ?_
            refine vv_iload (q := 60) hC dX4_reads_58 (x := nI (pm_rdl σ r s x w d)) rfl rfl ?_
            refine vv_iload (q := 62) hC dX4_reads_60 (x := nI (1)) rfl rfl ?_
            refine vv_iload_n (q := 63) hC dX4_reads_62 (x := nI (w)) rfl rfl ?_
            refine vv_iconst (q := 64) hC (nI 2) dX4_reads_63 (by decide) rfl ?_
            refine vv_icmpN_ne (x := w) (y := 2) (q := 67) (tgt := 71) hC dX4_reads_64 (by decide) (by omega) (by omega) rfl (fun c_64 => ?_) (fun c_64 => ?_)
            · refine vv_iconst (q := 72) hC (nI 0) dX4_reads_71 (by decide) rfl ?_
              refine vv_icmpN_ne (x := 1) (y := 0) (q := 75) (tgt := 90) hC dX4_reads_72 (by decide) (by omega) (by omega) rfl (fun c_72 => ?_) (fun c_72 => absurd c_72 (by decide))
              refine vv_iconst (q := 91) hC (nI 0) dX4_reads_90 (by decide) rfl ?_
              refine vv_addN (x := pm_rdl σ r s x w d) (y := 0) (q := 92) hC dX4_reads_91 rfl ?_
              refine vv_istore (L' := [(0, .ref (Y.2.1 (0))), (1, .int (nI (s))), (2, .int (x)), (3, .int (nI (w))), (4, .int (nI ((pm_rdl σ r s x w d) + 0))), (5, .int (nI (d))), (6, .int (nI (1)))]) (q := 94) hC dX4_reads_92 (by decide) rfl rfl rfl ?_
              refine vv_iincN (x := d) (L' := [(0, .ref (Y.2.1 (0))), (1, .int (nI (s))), (2, .int (x)), (3, .int (nI (w))), (4, .int (nI ((pm_rdl σ r s x w d) + 0))), (5, .int (nI (d + 1))), (6, .int (nI (1)))]) (q := 97) hC dX4_reads_94 rfl (by decide) rfl rfl rfl ?_
              refine vv_goto (tgt := 25) hC dX4_reads_97 (by decide) ?_
              refine vv_sub (L' := [(0, .ref (Y.2.1 (0))), (1, .int (nI (s))), (2, .int (x)), (3, .int (nI (w))), (4, .int (nI ((pm_rdl σ r s x w d) + 0))), (5, .int (nI (d + 1)))]) (by simp) ?_
              refine vv_loc (L' := [(0, .ref (Y.2.1 (0))), (1, .int (nI (s))), (2, .int (x)), (3, .int (nI (w))), (4, .int (nI (pm_rdl σ r s x w (d + 1)))), (5, .int (nI ((d + 1))))]) (by rw [show pm_rdl σ r s x w (d + 1) = _ from congrArg (fun z => pm_rdl σ r s x w d + z) (if_neg (fun z => c_64 (z.1.mp c_48)))]) ?_
              exact ih_25 (d + 1) (by first | omega | (dsimp only; omega))  (by omega) (by omega) (by show pm_rdl σ r s x w d + _ ≤ _; split <;> omega)
            · refine vv_iconst (q := 68) hC (nI 1) dX4_reads_67 (by decide) rfl ?_
              refine vv_goto (tgt := 72) hC dX4_reads_68 (by decide) ?_
              refine vv_icmpN_ne (x := 1) (y := 1) (q := 75) (tgt := 90) hC dX4_reads_72 (by decide) (by omega) (by omega) rfl (fun c_72 => absurd c_72 (by decide)) (fun c_72 => ?_)
              refine vv_aload_n (q := 76) hC dX4_reads_75 (x := Y.2.1 (0)) rfl rfl ?_
              refine vv_iload_n (q := 77) hC dX4_reads_76 (x := nI (s)) rfl rfl ?_
              refine vv_iload (q := 79) hC dX4_reads_77 (x := nI (d)) rfl rfl ?_
              refine vv_callV (n := 2) (k := 0) (As := [.int (nI (s)), .int (nI (d))]) (st := [.int (nI (pm_rdl σ r s x w d))]) (q := 82) hC (hY.k (by decide)) (hY.M _) (by rw [hY.cl]; rfl) (cm_X4_latest _ Y n hY σ r s d hr hr10 (by omega)) gX4_reads_X4_latest rfl (by decide +kernel) dX4_reads_79 rfl rfl rfl (vv_kR ?_)
              rcases hlat_79 : pm_lat σ s d r with _ | k
              · refine vv_stk (st' := [.int (-1), .int (nI (pm_rdl σ r s x w d))]) rfl ?_
                refine vv_iconst (q := 83) hC ((-1)) dX4_reads_82 (by decide) rfl ?_
                refine vv_icmp_ne (x := (-1)) (y := (-1)) (q := 86) (tgt := 90) hC dX4_reads_83 (by decide) rfl (fun c_83 => absurd rfl c_83) (fun c_83 => ?_)
                refine vv_iconst (q := 87) hC (nI 1) dX4_reads_86 (by decide) rfl ?_
                refine vv_goto (tgt := 91) hC dX4_reads_87 (by decide) ?_
                refine vv_addN (x := pm_rdl σ r s x w d) (y := 1) (q := 92) hC dX4_reads_91 rfl ?_
                refine vv_istore (L' := [(0, .ref (Y.2.1 (0))), (1, .int (nI (s))), (2, .int (x)), (3, .int (nI (w))), (4, .int (nI ((pm_rdl σ r s x w d) + 1))), (5, .int (nI (d))), (6, .int (nI (1)))]) (q := 94) hC dX4_reads_92 (by decide) rfl rfl rfl ?_
                refine vv_iincN (x := d) (L' := [(0, .ref (Y.2.1 (0))), (1, .int (nI (s))), (2, .int (x)), (3, .int (nI (w))), (4, .int (nI ((pm_rdl σ r s x w d) + 1))), (5, .int (nI (d + 1))), (6, .int (nI (1)))]) (q := 97) hC dX4_reads_94 rfl (by decide) rfl rfl rfl ?_
                refine vv_goto (tgt := 25) hC dX4_reads_97 (by decide) ?_
                refine vv_sub (L' := [(0, .ref (Y.2.1 (0))), (1, .int (nI (s))), (2, .int (x)), (3, .int (nI (w))), (4, .int (nI ((pm_rdl σ r s x w d) + 1))), (5, .int (nI (d + 1)))]) (by simp) ?_
                refine vv_loc (L' := [(0, .ref (Y.2.1 (0))), (1, .int (nI (s))), (2, .int (x)), (3, .int (nI (w))), (4, .int (nI (pm_rdl σ r s x w (d + 1)))), (5, .int (nI ((d + 1))))]) (by rw [show pm_rdl σ r s x w (d + 1) = _ from congrArg (fun z => pm_rdl σ r s x w d + z) (if_pos ⟨(iff_of_true c_48 c_64), hlat_79⟩)]) ?_
                exact ih_25 (d + 1) (by first | omega | (dsimp only; omega))  (by omega) (by omega) (by show pm_rdl σ r s x w d + _ ≤ _; split <;> omega)
              · have hl_k := pm_lat_lt hlat_79
                refine vv_stk (st' := [.int (nI (k)), .int (nI (pm_rdl σ r s x w d))]) rfl ?_
                refine vv_iconst (q := 83) hC ((-1)) dX4_reads_82 (by decide) rfl ?_
                refine vv_icmp_ne (x := nI (k)) (y := (-1)) (q := 86) (tgt := 90) hC dX4_reads_83 (by decide) rfl (fun c_83 => ?_) (fun c_83 => absurd c_83 (pm_ne1 (by omega)))
                refine vv_iconst (q := 91) hC (nI 0) dX4_reads_90 (by decide) rfl ?_
                refine vv_addN (x := pm_rdl σ r s x w d) (y := 0) (q := 92) hC dX4_reads_91 rfl ?_
                refine vv_istore (L' := [(0, .ref (Y.2.1 (0))), (1, .int (nI (s))), (2, .int (x)), (3, .int (nI (w))), (4, .int (nI ((pm_rdl σ r s x w d) + 0))), (5, .int (nI (d))), (6, .int (nI (1)))]) (q := 94) hC dX4_reads_92 (by decide) rfl rfl rfl ?_
                refine vv_iincN (x := d) (L' := [(0, .ref (Y.2.1 (0))), (1, .int (nI (s))), (2, .int (x)), (3, .int (nI (w))), (4, .int (nI ((pm_rdl σ r s x w d) + 0))), (5, .int (nI (d + 1))), (6, .int (nI (1)))]) (q := 97) hC dX4_reads_94 rfl (by decide) rfl rfl rfl ?_
                refine vv_goto (tgt := 25) hC dX4_reads_97 (by decide) ?_
                refine vv_sub (L' := [(0, .ref (Y.2.1 (0))), (1, .int (nI (s))), (2, .int (x)), (3, .int (nI (w))), (4, .int (nI ((pm_rdl σ r s x w d) + 0))), (5, .int (nI (d + 1)))]) (by simp) ?_
                refine vv_loc (L' := [(0, .ref (Y.2.1 (0))), (1, .int (nI (s))), (2, .int (x)), (3, .int (nI (w))), (4, .int (nI (pm_rdl σ r s x w (d + 1)))), (5, .int (nI ((d + 1))))]) (by rw [show pm_rdl σ r s x w (d + 1) = _ from congrArg (fun z => pm_rdl σ r s x w d + z) (if_neg (fun z => by cases hlat_79.symm.trans z.2))]) ?_
                exact ih_25 (d + 1) (by first | omega | (dsimp only; omega))  (by omega) (by omega) (by show pm_rdl σ r s x w d + _ ≤ _; split <;> omega)
    refine vv_loc (L' := [(0, .ref (Y.2.1 (0))), (1, .int (nI (s))), (2, .int (x)), (3, .int (nI (w))), (4, .int (nI (pm_rdl σ r s x w 0))), (5, .int (nI (0)))]) (by rw [show pm_rdl σ r s x w 0 = _ from if_neg (fun z => c_2 z.1)]) ?_
    exact lp_25 0 (by omega) (by omega) (by show pm_rd0 σ r s w ≤ 1; unfold pm_rd0; split <;> omega)
  · refine vv_aload_n (q := 6) hC dX4_reads_5 (x := Y.2.1 (0)) rfl rfl ?_
    refine vv_iload_n (q := 7) hC dX4_reads_6 (x := nI (s)) rfl rfl ?_
    refine vv_iconst (q := 8) hC (nI 5) dX4_reads_7 (by decide) rfl ?_
    refine vv_callV (n := 2) (k := 0) (As := [.int (nI (s)), .int (nI (5))]) (st := []) (q := 11) hC (hY.k (by decide)) (hY.M _) (by rw [hY.cl]; rfl) (cm_X4_latest _ Y n hY σ r s 5 hr hr10 (by omega)) gX4_reads_X4_latest rfl (by decide +kernel) dX4_reads_8 rfl rfl rfl (vv_kR ?_)
    rcases hlat_8 : pm_lat σ s 5 r with _ | k
    · refine vv_stk (st' := [.int (-1)]) rfl ?_
      refine vv_iconst (q := 12) hC ((-1)) dX4_reads_11 (by decide) rfl ?_
      refine vv_icmp_ne (x := (-1)) (y := (-1)) (q := 15) (tgt := 19) hC dX4_reads_12 (by decide) rfl (fun c_12 => absurd rfl c_12) (fun c_12 => ?_)
      refine vv_iconst (q := 16) hC (nI 1) dX4_reads_15 (by decide) rfl ?_
      refine vv_goto (tgt := 20) hC dX4_reads_16 (by decide) ?_
      refine vv_istore (L' := [(0, .ref (Y.2.1 (0))), (1, .int (nI (s))), (2, .int (x)), (3, .int (nI (w))), (4, .int (nI (1)))]) (q := 22) hC dX4_reads_20 (by decide) rfl rfl rfl ?_
      refine vv_iconst (q := 23) hC (nI 0) dX4_reads_22 (by decide) rfl ?_
      refine vv_istore (L' := [(0, .ref (Y.2.1 (0))), (1, .int (nI (s))), (2, .int (x)), (3, .int (nI (w))), (4, .int (nI (1))), (5, .int (nI (0)))]) (q := 25) hC dX4_reads_23 (by decide) rfl rfl rfl ?_
      have lp_25 : ∀ d : Nat, (d ≤ n - 1) → (d = 0 ∨ 1 < w) → (pm_rdl σ r s x w d ≤ d + 1) → vv_V Y 7 Z σ 25 [(0, .ref (Y.2.1 (0))), (1, .int (nI (s))), (2, .int (x)), (3, .int (nI (w))), (4, .int (nI (pm_rdl σ r s x w d))), (5, .int (nI (d)))] [] := by
        refine vv_ind (fun d => n - d) (fun d ih_25 => ?_)
        intro hd hdw hrl
        refine vv_iload (q := 27) hC dX4_reads_25 (x := nI (d)) rfl rfl ?_
        refine vv_aload_n (q := 28) hC dX4_reads_27 (x := Y.2.1 (0)) rfl rfl ?_
        refine pm_gM (q := 31) hY hC 1 hi_X4 hf_many (by decide) rfl (v := .int (nI (n))) rfl dX4_reads_28 rfl ?_
        refine vv_iconst (q := 32) hC (nI 1) dX4_reads_31 (by decide) rfl ?_
        refine vv_subN (x := n) (y := 1) (q := 33) hC dX4_reads_32 (by omega) rfl ?_
        refine vv_icmpN_ge (x := d) (y := n - 1) (q := 36) (tgt := 100) hC dX4_reads_33 (by decide) (by omega) (by omega) rfl (fun c_33 => ?_) (fun c_33 => ?_)
        · refine vv_iload (q := 102) hC dX4_reads_100 (x := nI (pm_rdl σ r s x w d)) rfl rfl ?_
          refine vv_iret (v := nI (pm_rdl σ r s x w d)) hC dX4_reads_102 ?_
          rw [hp]
          unfold pm_rd
          by_cases hw1 : 1 < w
          · rw [if_pos hw1, show d = n - 1 by omega]
            exact ⟨rfl, rfl⟩
          · rw [if_neg hw1, show d = 0 by omega]
            exact ⟨rfl, rfl⟩
        · refine vv_iload_n (q := 37) hC dX4_reads_36 (x := nI (w)) rfl rfl ?_
          refine vv_iconst (q := 38) hC (nI 1) dX4_reads_37 (by decide) rfl ?_
          refine vv_icmpN_le (x := w) (y := 1) (q := 41) (tgt := 100) hC dX4_reads_38 (by decide) (by omega) (by omega) rfl (fun c_38 => ?_) (fun c_38 => ?_)
          · refine vv_iload (q := 102) hC dX4_reads_100 (x := nI (pm_rdl σ r s x w d)) rfl rfl ?_
            refine vv_iret (v := nI (pm_rdl σ r s x w d)) hC dX4_reads_102 ?_
            rw [hp]
            unfold pm_rd
            rw [if_neg (by omega), show d = 0 by omega]
            exact ⟨rfl, rfl⟩
          · refine vv_iload_n (q := 42) hC dX4_reads_41 (x := x) rfl rfl ?_
            refine vv_iload (q := 44) hC dX4_reads_42 (x := nI (d)) rfl rfl ?_
            refine vv_ishr (x := x) (y := nI (d)) (q := 45) hC dX4_reads_44 rfl ?_
            refine vv_iconst (q := 46) hC (nI 1) dX4_reads_45 (by decide) rfl ?_
            refine vv_iand (x := x >>> ((nI (d)) &&& 31)) (y := nI (1)) (q := 47) hC dX4_reads_46 rfl ?_
            refine vv_iconst (q := 48) hC (nI 1) dX4_reads_47 (by decide) rfl ?_
            refine vv_icmp_ne (x := (x >>> ((nI (d)) &&& 31)) &&& (nI (1))) (y := nI (1)) (q := 51) (tgt := 55) hC dX4_reads_48 (by decide) rfl (fun c_48 => ?_) (fun c_48 => ?_)
            · refine vv_iconst (q := 56) hC (nI 0) dX4_reads_55 (by decide) rfl ?_
              refine vv_istore (L' := [(0, .ref (Y.2.1 (0))), (1, .int (nI (s))), (2, .int (x)), (3, .int (nI (w))), (4, .int (nI (pm_rdl σ r s x w d))), (5, .int (nI (d))), (6, .int (nI (0)))]) (q := 58) hC dX4_reads_56 (by decide) rfl rfl rfl ?_
              refine vv_iload (q := 60) hC dX4_reads_58 (x := nI (pm_rdl σ r s x w d)) rfl rfl ?_
              refine vv_iload (q := 62) hC dX4_reads_60 (x := nI (0)) rfl rfl ?_
              refine vv_iload_n (q := 63) hC dX4_reads_62 (x := nI (w)) rfl rfl ?_
              refine vv_iconst (q := 64) hC (nI 2) dX4_reads_63 (by decide) rfl ?_
              refine vv_icmpN_ne (x := w) (y := 2) (q := 67) (tgt := 71) hC dX4_reads_64 (by decide) (by omega) (by omega) rfl (fun c_64 => ?_) (fun c_64 => ?_)
              · refine vv_iconst (q := 72) hC (nI 0) dX4_reads_71 (by decide) rfl ?_
                refine vv_icmpN_ne (x := 0) (y := 0) (q := 75) (tgt := 90) hC dX4_reads_72 (by decide) (by omega) (by omega) rfl (fun c_72 => absurd c_72 (by decide)) (fun c_72 => ?_)
                refine vv_aload_n (q := 76) hC dX4_reads_75 (x := Y.2.1 (0)) rfl rfl ?_
                refine vv_iload_n (q := 77) hC dX4_reads_76 (x := nI (s)) rfl rfl ?_
                refine vv_iload (q := 79) hC dX4_reads_77 (x := nI (d)) rfl rfl ?_
                refine vv_callV (n := 2) (k := 0) (As := [.int (nI (s)), .int (nI (d))]) (st := [.int (nI (pm_rdl σ r s x w d))]) (q := 82) hC (hY.k (by decide)) (hY.M _) (by rw [hY.cl]; rfl) (cm_X4_latest _ Y n hY σ r s d hr hr10 (by omega)) gX4_reads_X4_latest rfl (by decide +kernel) dX4_reads_79 rfl rfl rfl (vv_kR ?_)
                rcases hlat_79 : pm_lat σ s d r with _ | k
                · refine vv_stk (st' := [.int (-1), .int (nI (pm_rdl σ r s x w d))]) rfl ?_
                  refine vv_iconst (q := 83) hC ((-1)) dX4_reads_82 (by decide) rfl ?_
                  refine vv_icmp_ne (x := (-1)) (y := (-1)) (q := 86) (tgt := 90) hC dX4_reads_83 (by decide) rfl (fun c_83 => absurd rfl c_83) (fun c_83 => ?_)
                  refine vv_iconst (q := 87) hC (nI 1) dX4_reads_86 (by decide) rfl ?_
                  refine vv_goto (tgt := 91) hC dX4_reads_87 (by decide) ?_
                  refine vv_addN (x := pm_rdl σ r s x w d) (y := 1) (q := 92) hC dX4_reads_91 rfl ?_
                  refine vv_istore (L' := [(0, .ref (Y.2.1 (0))), (1, .int (nI (s))), (2, .int (x)), (3, .int (nI (w))), (4, .int (nI ((pm_rdl σ r s x w d) + 1))), (5, .int (nI (d))), (6, .int (nI (0)))]) (q := 94) hC dX4_reads_92 (by decide) rfl rfl rfl ?_
                  refine vv_iincN (x := d) (L' := [(0, .ref (Y.2.1 (0))), (1, .int (nI (s))), (2, .int (x)), (3, .int (nI (w))), (4, .int (nI ((pm_rdl σ r s x w d) + 1))), (5, .int (nI (d + 1))), (6, .int (nI (0)))]) (q := 97) hC dX4_reads_94 rfl (by decide) rfl rfl rfl ?_
                  refine vv_goto (tgt := 25) hC dX4_reads_97 (by decide) ?_
                  refine vv_sub (L' := [(0, .ref (Y.2.1 (0))), (1, .int (nI (s))), (2, .int (x)), (3, .int (nI (w))), (4, .int (nI ((pm_rdl σ r s x w d) + 1))), (5, .int (nI (d + 1)))]) (by simp) ?_
                  refine vv_loc (L' := [(0, .ref (Y.2.1 (0))), (1, .int (nI (s))), (2, .int (x)), (3, .int (nI (w))), (4, .int (nI (pm_rdl σ r s x w (d + 1)))), (5, .int (nI ((d + 1))))]) (by rw [show pm_rdl σ r s x w (d + 1) = _ from congrArg (fun z => pm_rdl σ r s x w d + z) (if_pos ⟨(iff_of_false c_48 c_64), hlat_79⟩)]) ?_
                  exact ih_25 (d + 1) (by first | omega | (dsimp only; omega))  (by omega) (by omega) (by show pm_rdl σ r s x w d + _ ≤ _; split <;> omega)
                · have hl_k := pm_lat_lt hlat_79
                  refine vv_stk (st' := [.int (nI (k)), .int (nI (pm_rdl σ r s x w d))]) rfl ?_
                  refine vv_iconst (q := 83) hC ((-1)) dX4_reads_82 (by decide) rfl ?_
                  refine vv_icmp_ne (x := nI (k)) (y := (-1)) (q := 86) (tgt := 90) hC dX4_reads_83 (by decide) rfl (fun c_83 => ?_) (fun c_83 => absurd c_83 (pm_ne1 (by omega)))
                  refine vv_iconst (q := 91) hC (nI 0) dX4_reads_90 (by decide) rfl ?_
                  refine vv_addN (x := pm_rdl σ r s x w d) (y := 0) (q := 92) hC dX4_reads_91 rfl ?_
                  refine vv_istore (L' := [(0, .ref (Y.2.1 (0))), (1, .int (nI (s))), (2, .int (x)), (3, .int (nI (w))), (4, .int (nI ((pm_rdl σ r s x w d) + 0))), (5, .int (nI (d))), (6, .int (nI (0)))]) (q := 94) hC dX4_reads_92 (by decide) rfl rfl rfl ?_
                  refine vv_iincN (x := d) (L' := [(0, .ref (Y.2.1 (0))), (1, .int (nI (s))), (2, .int (x)), (3, .int (nI (w))), (4, .int (nI ((pm_rdl σ r s x w d) + 0))), (5, .int (nI (d + 1))), (6, .int (nI (0)))]) (q := 97) hC dX4_reads_94 rfl (by decide) rfl rfl rfl ?_
                  refine vv_goto (tgt := 25) hC dX4_reads_97 (by decide) ?_
                  refine vv_sub (L' := [(0, .ref (Y.2.1 (0))), (1, .int (nI (s))), (2, .int (x)), (3, .int (nI (w))), (4, .int (nI ((pm_rdl σ r s x w d) + 0))), (5, .int (nI (d + 1)))]) (by simp) ?_
                  refine vv_loc (L' := [(0, .ref (Y.2.1 (0))), (1, .int (nI (s))), (2, .int (x)), (3, .int (nI (w))), (4, .int (nI (pm_rdl σ r s x w (d + 1)))), (5, .int (nI ((d + 1))))]) (by rw [show pm_rdl σ r s x w (d + 1) = _ from congrArg (fun z => pm_rdl σ r s x w d + z) (if_neg (fun z => by cases hlat_79.symm.trans z.2))]) ?_
                  exact ih_25 (d + 1) (by first | omega | (dsimp only; omega))  (by omega) (by omega) (by show pm_rdl σ r s x w d + _ ≤ _; split <;> omega)
              · refine vv_iconst (q := 68) hC (nI 1) dX4_reads_67 (by decide) rfl ?_
                refine vv_goto (tgt := 72) hC dX4_reads_68 (by decide) ?_
                refine vv_icmpN_ne (x := 0) (y := 1) (q := 75) (tgt := 90) hC dX4_reads_72 (by decide) (by omega) (by omega) rfl (fun c_72 => ?_) (fun c_72 => absurd c_72 (by decide))
                refine vv_iconst (q := 91) hC (nI 0) dX4_reads_90 (by decide) rfl ?_
                refine vv_addN (x := pm_rdl σ r s x w d) (y := 0) (q := 92) hC dX4_reads_91 rfl ?_
                refine vv_istore (L' := [(0, .ref (Y.2.1 (0))), (1, .int (nI (s))), (2, .int (x)), (3, .int (nI (w))), (4, .int (nI ((pm_rdl σ r s x w d) + 0))), (5, .int (nI (d))), (6, .int (nI (0)))]) (q := 94) hC dX4_reads_92 (by decide) rfl rfl rfl ?_
                refine vv_iincN (x := d) (L' := [(0, .ref (Y.2.1 (0))), (1, .int (nI (s))), (2, .int (x)), (3, .int (nI (w))), (4, .int (nI ((pm_rdl σ r s x w d) + 0))), (5, .int (nI (d + 1))), (6, .int (nI (0)))]) (q := 97) hC dX4_reads_94 rfl (by decide) rfl rfl rfl ?_
                refine vv_goto (tgt := 25) hC dX4_reads_97 (by decide) ?_
                refine vv_sub (L' := [(0, .ref (Y.2.1 (0))), (1, .int (nI (s))), (2, .int (x)), (3, .int (nI (w))), (4, .int (nI ((pm_rdl σ r s x w d) + 0))), (5, .int (nI (d + 1)))]) (by simp) ?_
                refine vv_loc (L' := [(0, .ref (Y.2.1 (0))), (1, .int (nI (s))), (2, .int (x)), (3, .int (nI (w))), (4, .int (nI (pm_rdl σ r s x w (d + 1)))), (5, .int (nI ((d + 1))))]) (by rw [show pm_rdl σ r s x w (d + 1) = _ from congrArg (fun z => pm_rdl σ r s x w d + z) (if_neg (fun z => c_48 (z.1.mpr c_64)))]) ?_
                exact ih_25 (d + 1) (by first | omega | (dsimp only; omega))  (by omega) (by omega) (by show pm_rdl σ r s x w d + _ ≤ _; split <;> omega)
            · refine vv_iconst (q := 52) hC (nI 1) dX4_reads_51 (by decide) rfl ?_
              refine vv_goto (tgt := 56) hC dX4_reads_52 (by decide) ?_
              refine vv_istore (L' := [(0, .ref (Y.2.1 (0))), (1, .int (nI (s))), (2, .int (x)), (3, .int (nI (w))), (4, .int (nI (pm_rdl σ r s x w d))), (5, .int (nI (d))), (6, .int (nI (1)))]) (q := 58) hC dX4_reads_56 (by decide) rfl rfl rfl ?_
              refine vv_iload (q := 60) hC dX4_reads_58 (x := nI (pm_rdl σ r s x w d)) rfl rfl ?_
              refine vv_iload (q := 62) hC dX4_reads_60 (x := nI (1)) rfl rfl ?_
              refine vv_iload_n (q := 63) hC dX4_reads_62 (x := nI (w)) rfl rfl ?_
              refine vv_iconst (q := 64) hC (nI 2) dX4_reads_63 (by decide) rfl ?_
              refine vv_icmpN_ne (x := w) (y := 2) (q := 67) (tgt := 71) hC dX4_reads_64 (by decide) (by omega) (by omega) rfl (fun c_64 => ?_) (fun c_64 => ?_)
              · refine vv_iconst (q := 72) hC (nI 0) dX4_reads_71 (by decide) rfl ?_
                refine vv_icmpN_ne (x := 1) (y := 0) (q := 75) (tgt := 90) hC dX4_reads_72 (by decide) (by omega) (by omega) rfl (fun c_72 => ?_) (fun c_72 => absurd c_72 (by decide))
                refine vv_iconst (q := 91) hC (nI 0) dX4_reads_90 (by decide) rfl ?_
                refine vv_addN (x := pm_rdl σ r s x w d) (y := 0) (q := 92) hC dX4_reads_91 rfl ?_
                refine vv_istore (L' := [(0, .ref (Y.2.1 (0))), (1, .int (nI (s))), (2, .int (x)), (3, .int (nI (w))), (4, .int (nI ((pm_rdl σ r s x w d) + 0))), (5, .int (nI (d))), (6, .int (nI (1)))]) (q := 94) hC dX4_reads_92 (by decide) rfl rfl rfl ?_
                refine vv_iincN (x := d) (L' := [(0, .ref (Y.2.1 (0))), (1, .int (nI (s))), (2, .int (x)), (3, .int (nI (w))), (4, .int (nI ((pm_rdl σ r s x w d) + 0))), (5, .int (nI (d + 1))), (6, .int (nI (1)))]) (q := 97) hC dX4_reads_94 rfl (by decide) rfl rfl rfl ?_
                refine vv_goto (tgt := 25) hC dX4_reads_97 (by decide) ?_
                refine vv_sub (L' := [(0, .ref (Y.2.1 (0))), (1, .int (nI (s))), (2, .int (x)), (3, .int (nI (w))), (4, .int (nI ((pm_rdl σ r s x w d) + 0))), (5, .int (nI (d + 1)))]) (by simp) ?_
                refine vv_loc (L' := [(0, .ref (Y.2.1 (0))), (1, .int (nI (s))), (2, .int (x)), (3, .int (nI (w))), (4, .int (nI (pm_rdl σ r s x w (d + 1)))), (5, .int (nI ((d + 1))))]) (by rw [show pm_rdl σ r s x w (d + 1) = _ from congrArg (fun z => pm_rdl σ r s x w d + z) (if_neg (fun z => c_64 (z.1.mp c_48)))]) ?_
                exact ih_25 (d + 1) (by first | omega | (dsimp only; omega))  (by omega) (by omega) (by show pm_rdl σ r s x w d + _ ≤ _; split <;> omega)
              · refine vv_iconst (q := 68) hC (nI 1) dX4_reads_67 (by decide) rfl ?_
                refine vv_goto (tgt := 72) hC dX4_reads_68 (by decide) ?_
                refine vv_icmpN_ne (x := 1) (y := 1) (q := 75) (tgt := 90) hC dX4_reads_72 (by decide) (by omega) (by omega) rfl (fun c_72 => absurd c_72 (by decide)) (fun c_72 => ?_)
                refine vv_aload_n (q := 76) hC dX4_reads_75 (x := Y.2.1 (0)) rfl rfl ?_
                refine vv_iload_n (q := 77) hC dX4_reads_76 (x := nI (s)) rfl rfl ?_
                refine vv_iload (q := 79) hC dX4_reads_77 (x := nI (d)) rfl rfl ?_
                refine vv_callV (n := 2) (k := 0) (As := [.int (nI (s)), .int (nI (d))]) (st := [.int (nI (pm_rdl σ r s x w d))]) (q := 82) hC (hY.k (by decide)) (hY.M _) (by rw [hY.cl]; rfl) (cm_X4_latest _ Y n hY σ r s d hr hr10 (by omega)) gX4_reads_X4_latest rfl (by decide +kernel) dX4_reads_79 rfl rfl rfl (vv_kR ?_)
                rcases hlat_79 : pm_lat σ s d r with _ | k
                · refine vv_stk (st' := [.int (-1), .int (nI (pm_rdl σ r s x w d))]) rfl ?_
                  refine vv_iconst (q := 83) hC ((-1)) dX4_reads_82 (by decide) rfl ?_
                  refine vv_icmp_ne (x := (-1)) (y := (-1)) (q := 86) (tgt := 90) hC dX4_reads_83 (by decide) rfl (fun c_83 => absurd rfl c_83) (fun c_83 => ?_)
                  refine vv_iconst (q := 87) hC (nI 1) dX4_reads_86 (by decide) rfl ?_
                  refine vv_goto (tgt := 91) hC dX4_reads_87 (by decide) ?_
                  refine vv_addN (x := pm_rdl σ r s x w d) (y := 1) (q := 92) hC dX4_reads_91 rfl ?_
                  refine vv_istore (L' := [(0, .ref (Y.2.1 (0))), (1, .int (nI (s))), (2, .int (x)), (3, .int (nI (w))), (4, .int (nI ((pm_rdl σ r s x w d) + 1))), (5, .int (nI (d))), (6, .int (nI (1)))]) (q := 94) hC dX4_reads_92 (by decide) rfl rfl rfl ?_
                  refine vv_iincN (x := d) (L' := [(0, .ref (Y.2.1 (0))), (1, .int (nI (s))), (2, .int (x)), (3, .int (nI (w))), (4, .int (nI ((pm_rdl σ r s x w d) + 1))), (5, .int (nI (d + 1))), (6, .int (nI (1)))]) (q := 97) hC dX4_reads_94 rfl (by decide) rfl rfl rfl ?_
                  refine vv_goto (tgt := 25) hC dX4_reads_97 (by decide) ?_
                  refine vv_sub (L' := [(0, .ref (Y.2.1 (0))), (1, .int (nI (s))), (2, .int (x)), (3, .int (nI (w))), (4, .int (nI ((pm_rdl σ r s x w d) + 1))), (5, .int (nI (d + 1)))]) (by simp) ?_
                  refine vv_loc (L' := [(0, .ref (Y.2.1 (0))), (1, .int (nI (s))), (2, .int (x)), (3, .int (nI (w))), (4, .int (nI (pm_rdl σ r s x w (d + 1)))), (5, .int (nI ((d + 1))))]) (by rw [show pm_rdl σ r s x w (d + 1) = _ from congrArg (fun z => pm_rdl σ r s x w d + z) (if_pos ⟨(iff_of_true c_48 c_64), hlat_79⟩)]) ?_
                  exact ih_25 (d + 1) (by first | omega | (dsimp only; omega))  (by omega) (by omega) (by show pm_rdl σ r s x w d + _ ≤ _; split <;> omega)
                · have hl_k := pm_lat_lt hlat_79
                  refine vv_stk (st' := [.int (nI (k)), .int (nI (pm_rdl σ r s x w d))]) rfl ?_
                  refine vv_iconst (q := 83) hC ((-1)) dX4_reads_82 (by decide) rfl ?_
                  refine vv_icmp_ne (x := nI (k)) (y := (-1)) (q := 86) (tgt := 90) hC dX4_reads_83 (by decide) rfl (fun c_83 => ?_) (fun c_83 => absurd c_83 (pm_ne1 (by omega)))
                  refine vv_iconst (q := 91) hC (nI 0) dX4_reads_90 (by decide) rfl ?_
                  refine vv_addN (x := pm_rdl σ r s x w d) (y := 0) (q := 92) hC dX4_reads_91 rfl ?_
                  refine vv_istore (L' := [(0, .ref (Y.2.1 (0))), (1, .int (nI (s))), (2, .int (x)), (3, .int (nI (w))), (4, .int (nI ((pm_rdl σ r s x w d) + 0))), (5, .int (nI (d))), (6, .int (nI (1)))]) (q := 94) hC dX4_reads_92 (by decide) rfl rfl rfl ?_
                  refine vv_iincN (x := d) (L' := [(0, .ref (Y.2.1 (0))), (1, .int (nI (s))), (2, .int (x)), (3, .int (nI (w))), (4, .int (nI ((pm_rdl σ r s x w d) + 0))), (5, .int (nI (d + 1))), (6, .int (nI (1)))]) (q := 97) hC dX4_reads_94 rfl (by decide) rfl rfl rfl ?_
                  refine vv_goto (tgt := 25) hC dX4_reads_97 (by decide) ?_
                  refine vv_sub (L' := [(0, .ref (Y.2.1 (0))), (1, .int (nI (s))), (2, .int (x)), (3, .int (nI (w))), (4, .int (nI ((pm_rdl σ r s x w d) + 0))), (5, .int (nI (d + 1)))]) (by simp) ?_
                  refine vv_loc (L' := [(0, .ref (Y.2.1 (0))), (1, .int (nI (s))), (2, .int (x)), (3, .int (nI (w))), (4, .int (nI (pm_rdl σ r s x w (d + 1)))), (5, .int (nI ((d + 1))))]) (by rw [show pm_rdl σ r s x w (d + 1) = _ from congrArg (fun z => pm_rdl σ r s x w d + z) (if_neg (fun z => by cases hlat_79.symm.trans z.2))]) ?_
                  exact ih_25 (d + 1) (by first | omega | (dsimp only; omega))  (by omega) (by omega) (by show pm_rdl σ r s x w d + _ ≤ _; split <;> omega)
      refine vv_loc (L' := [(0, .ref (Y.2.1 (0))), (1, .int (nI (s))), (2, .int (x)), (3, .int (nI (w))), (4, .int (nI (pm_rdl σ r s x w 0))), (5, .int (nI (0)))]) (by rw [show pm_rdl σ r s x w 0 = _ from if_pos ⟨c_2, hlat_8⟩]) ?_
      exact lp_25 0 (by omega) (by omega) (by show pm_rd0 σ r s w ≤ 1; unfold pm_rd0; split <;> omega)
    · have hl_k := pm_lat_lt hlat_8
      refine vv_stk (st' := [.int (nI (k))]) rfl ?_
      refine vv_iconst (q := 12) hC ((-1)) dX4_reads_11 (by decide) rfl ?_
      refine vv_icmp_ne (x := nI (k)) (y := (-1)) (q := 15) (tgt := 19) hC dX4_reads_12 (by decide) rfl (fun c_12 => ?_) (fun c_12 => absurd c_12 (pm_ne1 (by omega)))
      refine vv_iconst (q := 20) hC (nI 0) dX4_reads_19 (by decide) rfl ?_
      refine vv_istore (L' := [(0, .ref (Y.2.1 (0))), (1, .int (nI (s))), (2, .int (x)), (3, .int (nI (w))), (4, .int (nI (0)))]) (q := 22) hC dX4_reads_20 (by decide) rfl rfl rfl ?_
      refine vv_iconst (q := 23) hC (nI 0) dX4_reads_22 (by decide) rfl ?_
      refine vv_istore (L' := [(0, .ref (Y.2.1 (0))), (1, .int (nI (s))), (2, .int (x)), (3, .int (nI (w))), (4, .int (nI (0))), (5, .int (nI (0)))]) (q := 25) hC dX4_reads_23 (by decide) rfl rfl rfl ?_
      have lp_25 : ∀ d : Nat, (d ≤ n - 1) → (d = 0 ∨ 1 < w) → (pm_rdl σ r s x w d ≤ d + 1) → vv_V Y 7 Z σ 25 [(0, .ref (Y.2.1 (0))), (1, .int (nI (s))), (2, .int (x)), (3, .int (nI (w))), (4, .int (nI (pm_rdl σ r s x w d))), (5, .int (nI (d)))] [] := by
        refine vv_ind (fun d => n - d) (fun d ih_25 => ?_)
        intro hd hdw hrl
        refine vv_iload (q := 27) hC dX4_reads_25 (x := nI (d)) rfl rfl ?_
        refine vv_aload_n (q := 28) hC dX4_reads_27 (x := Y.2.1 (0)) rfl rfl ?_
        refine pm_gM (q := 31) hY hC 1 hi_X4 hf_many (by decide) rfl (v := .int (nI (n))) rfl dX4_reads_28 rfl ?_
        refine vv_iconst (q := 32) hC (nI 1) dX4_reads_31 (by decide) rfl ?_
        refine vv_subN (x := n) (y := 1) (q := 33) hC dX4_reads_32 (by omega) rfl ?_
        refine vv_icmpN_ge (x := d) (y := n - 1) (q := 36) (tgt := 100) hC dX4_reads_33 (by decide) (by omega) (by omega) rfl (fun c_33 => ?_) (fun c_33 => ?_)
        · refine vv_iload (q := 102) hC dX4_reads_100 (x := nI (pm_rdl σ r s x w d)) rfl rfl ?_
          refine vv_iret (v := nI (pm_rdl σ r s x w d)) hC dX4_reads_102 ?_
          rw [hp]
          unfold pm_rd
          by_cases hw1 : 1 < w
          · rw [if_pos hw1, show d = n - 1 by omega]
            exact ⟨rfl, rfl⟩
          · rw [if_neg hw1, show d = 0 by omega]
            exact ⟨rfl, rfl⟩
        · refine vv_iload_n (q := 37) hC dX4_reads_36 (x := nI (w)) rfl rfl ?_
          refine vv_iconst (q := 38) hC (nI 1) dX4_reads_37 (by decide) rfl ?_
          refine vv_icmpN_le (x := w) (y := 1) (q := 41) (tgt := 100) hC dX4_reads_38 (by decide) (by omega) (by omega) rfl (fun c_38 => ?_) (fun c_38 => ?_)
          · refine vv_iload (q := 102) hC dX4_reads_100 (x := nI (pm_rdl σ r s x w d)) rfl rfl ?_
            refine vv_iret (v := nI (pm_rdl σ r s x w d)) hC dX4_reads_102 ?_
            rw [hp]
            unfold pm_rd
            rw [if_neg (by omega), show d = 0 by omega]
            exact ⟨rfl, rfl⟩
          · refine vv_iload_n (q := 42) hC dX4_reads_41 (x := x) rfl rfl ?_
            refine vv_iload (q := 44) hC dX4_reads_42 (x := nI (d)) rfl rfl ?_
            refine vv_ishr (x := x) (y := nI (d)) (q := 45) hC dX4_reads_44 rfl ?_
            refine vv_iconst (q := 46) hC (nI 1) dX4_reads_45 (by decide) rfl ?_
            refine vv_iand (x := x >>> ((nI (d)) &&& 31)) (y := nI (1)) (q := 47) hC dX4_reads_46 rfl ?_
            refine vv_iconst (q := 48) hC (nI 1) dX4_reads_47 (by decide) rfl ?_
            refine vv_icmp_ne (x := (x >>> ((nI (d)) &&& 31)) &&& (nI (1))) (y := nI (1)) (q := 51) (tgt := 55) hC dX4_reads_48 (by decide) rfl (fun c_48 => ?_) (fun c_48 => ?_)
            · refine vv_iconst (q := 56) hC (nI 0) dX4_reads_55 (by decide) rfl ?_
              refine vv_istore (L' := [(0, .ref (Y.2.1 (0))), (1, .int (nI (s))), (2, .int (x)), (3, .int (nI (w))), (4, .int (nI (pm_rdl σ r s x w d))), (5, .int (nI (d))), (6, .int (nI (0)))]) (q := 58) hC dX4_reads_56 (by decide) rfl rfl rfl ?_
              refine vv_iload (q := 60) hC dX4_reads_58 (x := nI (pm_rdl σ r s x w d)) rfl rfl ?_
              refine vv_iload (q := 62) hC dX4_reads_60 (x := nI (0)) rfl rfl ?_
              refine vv_iload_n (q := 63) hC dX4_reads_62 (x := nI (w)) rfl rfl ?_
              refine vv_iconst (q := 64) hC (nI 2) dX4_reads_63 (by decide) rfl ?_
              refine vv_icmpN_ne (x := w) (y := 2) (q := 67) (tgt := 71) hC dX4_reads_64 (by decide) (by omega) (by omega) rfl (fun c_64 => ?_) (fun c_64 => ?_)
              · refine vv_iconst (q := 72) hC (nI 0) dX4_reads_71 (by decide) rfl ?_
                refine vv_icmpN_ne (x := 0) (y := 0) (q := 75) (tgt := 90) hC dX4_reads_72 (by decide) (by omega) (by omega) rfl (fun c_72 => absurd c_72 (by decide)) (fun c_72 => ?_)
                refine vv_aload_n (q := 76) hC dX4_reads_75 (x := Y.2.1 (0)) rfl rfl ?_
                refine vv_iload_n (q := 77) hC dX4_reads_76 (x := nI (s)) rfl rfl ?_
                refine vv_iload (q := 79) hC dX4_reads_77 (x := nI (d)) rfl rfl ?_
                refine vv_callV (n := 2) (k := 0) (As := [.int (nI (s)), .int (nI (d))]) (st := [.int (nI (pm_rdl σ r s x w d))]) (q := 82) hC (hY.k (by decide)) (hY.M _) (by rw [hY.cl]; rfl) (cm_X4_latest _ Y n hY σ r s d hr hr10 (by omega)) gX4_reads_X4_latest rfl (by decide +kernel) dX4_reads_79 rfl rfl rfl (vv_kR ?_)
                rcases hlat_79 : pm_lat σ s d r with _ | k
                · refine vv_stk (st' := [.int (-1), .int (nI (pm_rdl σ r s x w d))]) rfl ?_
                  refine vv_iconst (q := 83) hC ((-1)) dX4_reads_82 (by decide) rfl ?_
                  refine vv_icmp_ne (x := (-1)) (y := (-1)) (q := 86) (tgt := 90) hC dX4_reads_83 (by decide) rfl (fun c_83 => absurd rfl c_83) (fun c_83 => ?_)
                  refine vv_iconst (q := 87) hC (nI 1) dX4_reads_86 (by decide) rfl ?_
                  refine vv_goto (tgt := 91) hC dX4_reads_87 (by decide) ?_
                  refine vv_addN (x := pm_rdl σ r s x w d) (y := 1) (q := 92) hC dX4_reads_91 rfl ?_
                  refine vv_istore (L' := [(0, .ref (Y.2.1 (0))), (1, .int (nI (s))), (2, .int (x)), (3, .int (nI (w))), (4, .int (nI ((pm_rdl σ r s x w d) + 1))), (5, .int (nI (d))), (6, .int (nI (0)))]) (q := 94) hC dX4_reads_92 (by decide) rfl rfl rfl ?_
                  refine vv_iincN (x := d) (L' := [(0, .ref (Y.2.1 (0))), (1, .int (nI (s))), (2, .int (x)), (3, .int (nI (w))), (4, .int (nI ((pm_rdl σ r s x w d) + 1))), (5, .int (nI (d + 1))), (6, .int (nI (0)))]) (q := 97) hC dX4_reads_94 rfl (by decide) rfl rfl rfl ?_
                  refine vv_goto (tgt := 25) hC dX4_reads_97 (by decide) ?_
                  refine vv_sub (L' := [(0, .ref (Y.2.1 (0))), (1, .int (nI (s))), (2, .int (x)), (3, .int (nI (w))), (4, .int (nI ((pm_rdl σ r s x w d) + 1))), (5, .int (nI (d + 1)))]) (by simp) ?_
                  refine vv_loc (L' := [(0, .ref (Y.2.1 (0))), (1, .int (nI (s))), (2, .int (x)), (3, .int (nI (w))), (4, .int (nI (pm_rdl σ r s x w (d + 1)))), (5, .int (nI ((d + 1))))]) (by rw [show pm_rdl σ r s x w (d + 1) = _ from congrArg (fun z => pm_rdl σ r s x w d + z) (if_pos ⟨(iff_of_false c_48 c_64), hlat_79⟩)]) ?_
                  exact ih_25 (d + 1) (by first | omega | (dsimp only; omega))  (by omega) (by omega) (by show pm_rdl σ r s x w d + _ ≤ _; split <;> omega)
                · have hl_k := pm_lat_lt hlat_79
                  refine vv_stk (st' := [.int (nI (k)), .int (nI (pm_rdl σ r s x w d))]) rfl ?_
                  refine vv_iconst (q := 83) hC ((-1)) dX4_reads_82 (by decide) rfl ?_
                  refine vv_icmp_ne (x := nI (k)) (y := (-1)) (q := 86) (tgt := 90) hC dX4_reads_83 (by decide) rfl (fun c_83 => ?_) (fun c_83 => absurd c_83 (pm_ne1 (by omega)))
                  refine vv_iconst (q := 91) hC (nI 0) dX4_reads_90 (by decide) rfl ?_
                  refine vv_addN (x := pm_rdl σ r s x w d) (y := 0) (q := 92) hC dX4_reads_91 rfl ?_
                  refine vv_istore (L' := [(0, .ref (Y.2.1 (0))), (1, .int (nI (s))), (2, .int (x)), (3, .int (nI (w))), (4, .int (nI ((pm_rdl σ r s x w d) + 0))), (5, .int (nI (d))), (6, .int (nI (0)))]) (q := 94) hC dX4_reads_92 (by decide) rfl rfl rfl ?_
                  refine vv_iincN (x := d) (L' := [(0, .ref (Y.2.1 (0))), (1, .int (nI (s))), (2, .int (x)), (3, .int (nI (w))), (4, .int (nI ((pm_rdl σ r s x w d) + 0))), (5, .int (nI (d + 1))), (6, .int (nI (0)))]) (q := 97) hC dX4_reads_94 rfl (by decide) rfl rfl rfl ?_
                  refine vv_goto (tgt := 25) hC dX4_reads_97 (by decide) ?_
                  refine vv_sub (L' := [(0, .ref (Y.2.1 (0))), (1, .int (nI (s))), (2, .int (x)), (3, .int (nI (w))), (4, .int (nI ((pm_rdl σ r s x w d) + 0))), (5, .int (nI (d + 1)))]) (by simp) ?_
                  refine vv_loc (L' := [(0, .ref (Y.2.1 (0))), (1, .int (nI (s))), (2, .int (x)), (3, .int (nI (w))), (4, .int (nI (pm_rdl σ r s x w (d + 1)))), (5, .int (nI ((d + 1))))]) (by rw [show pm_rdl σ r s x w (d + 1) = _ from congrArg (fun z => pm_rdl σ r s x w d + z) (if_neg (fun z => by cases hlat_79.symm.trans z.2))]) ?_
                  exact ih_25 (d + 1) (by first | omega | (dsimp only; omega))  (by omega) (by omega) (by show pm_rdl σ r s x w d + _ ≤ _; split <;> omega)
              · refine vv_iconst (q := 68) hC (nI 1) dX4_reads_67 (by decide) rfl ?_
                refine vv_goto (tgt := 72) hC dX4_reads_68 (by decide) ?_
                refine vv_icmpN_ne (x := 0) (y := 1) (q := 75) (tgt := 90) hC dX4_reads_72 (by decide) (by omega) (by omega) rfl (fun c_72 => ?_) (fun c_72 => absurd c_72 (by decide))
                refine vv_iconst (q := 91) hC (nI 0) dX4_reads_90 (by decide) rfl ?_
                refine vv_addN (x := pm_rdl σ r s x w d) (y := 0) (q := 92) hC dX4_reads_91 rfl ?_
                refine vv_istore (L' := [(0, .ref (Y.2.1 (0))), (1, .int (nI (s))), (2, .int (x)), (3, .int (nI (w))), (4, .int (nI ((pm_rdl σ r s x w d) + 0))), (5, .int (nI (d))), (6, .int (nI (0)))]) (q := 94) hC dX4_reads_92 (by decide) rfl rfl rfl ?_
                refine vv_iincN (x := d) (L' := [(0, .ref (Y.2.1 (0))), (1, .int (nI (s))), (2, .int (x)), (3, .int (nI (w))), (4, .int (nI ((pm_rdl σ r s x w d) + 0))), (5, .int (nI (d + 1))), (6, .int (nI (0)))]) (q := 97) hC dX4_reads_94 rfl (by decide) rfl rfl rfl ?_
                refine vv_goto (tgt := 25) hC dX4_reads_97 (by decide) ?_
                refine vv_sub (L' := [(0, .ref (Y.2.1 (0))), (1, .int (nI (s))), (2, .int (x)), (3, .int (nI (w))), (4, .int (nI ((pm_rdl σ r s x w d) + 0))), (5, .int (nI (d + 1)))]) (by simp) ?_
                refine vv_loc (L' := [(0, .ref (Y.2.1 (0))), (1, .int (nI (s))), (2, .int (x)), (3, .int (nI (w))), (4, .int (nI (pm_rdl σ r s x w (d + 1)))), (5, .int (nI ((d + 1))))]) (by rw [show pm_rdl σ r s x w (d + 1) = _ from congrArg (fun z => pm_rdl σ r s x w d + z) (if_neg (fun z => c_48 (z.1.mpr c_64)))]) ?_
                exact ih_25 (d + 1) (by first | omega | (dsimp only; omega))  (by omega) (by omega) (by show pm_rdl σ r s x w d + _ ≤ _; split <;> omega)
            · refine vv_iconst (q := 52) hC (nI 1) dX4_reads_51 (by decide) rfl ?_
              refine vv_goto (tgt := 56) hC dX4_reads_52 (by decide) ?_
              refine vv_istore (L' := [(0, .ref (Y.2.1 (0))), (1, .int (nI (s))), (2, .int (x)), (3, .int (nI (w))), (4, .int (nI (pm_rdl σ r s x w d))), (5, .int (nI (d))), (6, .int (nI (1)))]) (q := 58) hC dX4_reads_56 (by decide) rfl rfl rfl ?_
              refine vv_iload (q := 60) hC dX4_reads_58 (x := nI (pm_rdl σ r s x w d)) rfl rfl ?_
              refine vv_iload (q := 62) hC dX4_reads_60 (x := nI (1)) rfl rfl ?_
              refine vv_iload_n (q := 63) hC dX4_reads_62 (x := nI (w)) rfl rfl ?_
              refine vv_iconst (q := 64) hC (nI 2) dX4_reads_63 (by decide) rfl ?_
              refine vv_icmpN_ne (x := w) (y := 2) (q := 67) (tgt := 71) hC dX4_reads_64 (by decide) (by omega) (by omega) rfl (fun c_64 => ?_) (fun c_64 => ?_)
              · refine vv_iconst (q := 72) hC (nI 0) dX4_reads_71 (by decide) rfl ?_
                refine vv_icmpN_ne (x := 1) (y := 0) (q := 75) (tgt := 90) hC dX4_reads_72 (by decide) (by omega) (by omega) rfl (fun c_72 => ?_) (fun c_72 => absurd c_72 (by decide))
                refine vv_iconst (q := 91) hC (nI 0) dX4_reads_90 (by decide) rfl ?_
                refine vv_addN (x := pm_rdl σ r s x w d) (y := 0) (q := 92) hC dX4_reads_91 rfl ?_
                refine vv_istore (L' := [(0, .ref (Y.2.1 (0))), (1, .int (nI (s))), (2, .int (x)), (3, .int (nI (w))), (4, .int (nI ((pm_rdl σ r s x w d) + 0))), (5, .int (nI (d))), (6, .int (nI (1)))]) (q := 94) hC dX4_reads_92 (by decide) rfl rfl rfl ?_
                refine vv_iincN (x := d) (L' := [(0, .ref (Y.2.1 (0))), (1, .int (nI (s))), (2, .int (x)), (3, .int (nI (w))), (4, .int (nI ((pm_rdl σ r s x w d) + 0))), (5, .int (nI (d + 1))), (6, .int (nI (1)))]) (q := 97) hC dX4_reads_94 rfl (by decide) rfl rfl rfl ?_
                refine vv_goto (tgt := 25) hC dX4_reads_97 (by decide) ?_
                refine vv_sub (L' := [(0, .ref (Y.2.1 (0))), (1, .int (nI (s))), (2, .int (x)), (3, .int (nI (w))), (4, .int (nI ((pm_rdl σ r s x w d) + 0))), (5, .int (nI (d + 1)))]) (by simp) ?_
                refine vv_loc (L' := [(0, .ref (Y.2.1 (0))), (1, .int (nI (s))), (2, .int (x)), (3, .int (nI (w))), (4, .int (nI (pm_rdl σ r s x w (d + 1)))), (5, .int (nI ((d + 1))))]) (by rw [show pm_rdl σ r s x w (d + 1) = _ from congrArg (fun z => pm_rdl σ r s x w d + z) (if_neg (fun z => c_64 (z.1.mp c_48)))]) ?_
                exact ih_25 (d + 1) (by first | omega | (dsimp only; omega))  (by omega) (by omega) (by show pm_rdl σ r s x w d + _ ≤ _; split <;> omega)
              · refine vv_iconst (q := 68) hC (nI 1) dX4_reads_67 (by decide) rfl ?_
                refine vv_goto (tgt := 72) hC dX4_reads_68 (by decide) ?_
                refine vv_icmpN_ne (x := 1) (y := 1) (q := 75) (tgt := 90) hC dX4_reads_72 (by decide) (by omega) (by omega) rfl (fun c_72 => absurd c_72 (by decide)) (fun c_72 => ?_)
                refine vv_aload_n (q := 76) hC dX4_reads_75 (x := Y.2.1 (0)) rfl rfl ?_
                refine vv_iload_n (q := 77) hC dX4_reads_76 (x := nI (s)) rfl rfl ?_
                refine vv_iload (q := 79) hC dX4_reads_77 (x := nI (d)) rfl rfl ?_
                refine vv_callV (n := 2) (k := 0) (As := [.int (nI (s)), .int (nI (d))]) (st := [.int (nI (pm_rdl σ r s x w d))]) (q := 82) hC (hY.k (by decide)) (hY.M _) (by rw [hY.cl]; rfl) (cm_X4_latest _ Y n hY σ r s d hr hr10 (by omega)) gX4_reads_X4_latest rfl (by decide +kernel) dX4_reads_79 rfl rfl rfl (vv_kR ?_)
                rcases hlat_79 : pm_lat σ s d r with _ | k
                · refine vv_stk (st' := [.int (-1), .int (nI (pm_rdl σ r s x w d))]) rfl ?_
                  refine vv_iconst (q := 83) hC ((-1)) dX4_reads_82 (by decide) rfl ?_
                  refine vv_icmp_ne (x := (-1)) (y := (-1)) (q := 86) (tgt := 90) hC dX4_reads_83 (by decide) rfl (fun c_83 => absurd rfl c_83) (fun c_83 => ?_)
                  refine vv_iconst (q := 87) hC (nI 1) dX4_reads_86 (by decide) rfl ?_
                  refine vv_goto (tgt := 91) hC dX4_reads_87 (by decide) ?_
                  refine vv_addN (x := pm_rdl σ r s x w d) (y := 1) (q := 92) hC dX4_reads_91 rfl ?_
                  refine vv_istore (L' := [(0, .ref (Y.2.1 (0))), (1, .int (nI (s))), (2, .int (x)), (3, .int (nI (w))), (4, .int (nI ((pm_rdl σ r s x w d) + 1))), (5, .int (nI (d))), (6, .int (nI (1)))]) (q := 94) hC dX4_reads_92 (by decide) rfl rfl rfl ?_
                  refine vv_iincN (x := d) (L' := [(0, .ref (Y.2.1 (0))), (1, .int (nI (s))), (2, .int (x)), (3, .int (nI (w))), (4, .int (nI ((pm_rdl σ r s x w d) + 1))), (5, .int (nI (d + 1))), (6, .int (nI (1)))]) (q := 97) hC dX4_reads_94 rfl (by decide) rfl rfl rfl ?_
                  refine vv_goto (tgt := 25) hC dX4_reads_97 (by decide) ?_
                  refine vv_sub (L' := [(0, .ref (Y.2.1 (0))), (1, .int (nI (s))), (2, .int (x)), (3, .int (nI (w))), (4, .int (nI ((pm_rdl σ r s x w d) + 1))), (5, .int (nI (d + 1)))]) (by simp) ?_
                  refine vv_loc (L' := [(0, .ref (Y.2.1 (0))), (1, .int (nI (s))), (2, .int (x)), (3, .int (nI (w))), (4, .int (nI (pm_rdl σ r s x w (d + 1)))), (5, .int (nI ((d + 1))))]) (by rw [show pm_rdl σ r s x w (d + 1) = _ from congrArg (fun z => pm_rdl σ r s x w d + z) (if_pos ⟨(iff_of_true c_48 c_64), hlat_79⟩)]) ?_
                  exact ih_25 (d + 1) (by first | omega | (dsimp only; omega))  (by omega) (by omega) (by show pm_rdl σ r s x w d + _ ≤ _; split <;> omega)
                · have hl_k := pm_lat_lt hlat_79
                  refine vv_stk (st' := [.int (nI (k)), .int (nI (pm_rdl σ r s x w d))]) rfl ?_
                  refine vv_iconst (q := 83) hC ((-1)) dX4_reads_82 (by decide) rfl ?_
                  refine vv_icmp_ne (x := nI (k)) (y := (-1)) (q := 86) (tgt := 90) hC dX4_reads_83 (by decide) rfl (fun c_83 => ?_) (fun c_83 => absurd c_83 (pm_ne1 (by omega)))
                  refine vv_iconst (q := 91) hC (nI 0) dX4_reads_90 (by decide) rfl ?_
                  refine vv_addN (x := pm_rdl σ r s x w d) (y := 0) (q := 92) hC dX4_reads_91 rfl ?_
                  refine vv_istore (L' := [(0, .ref (Y.2.1 (0))), (1, .int (nI (s))), (2, .int (x)), (3, .int (nI (w))), (4, .int (nI ((pm_rdl σ r s x w d) + 0))), (5, .int (nI (d))), (6, .int (nI (1)))]) (q := 94) hC dX4_reads_92 (by decide) rfl rfl rfl ?_
                  refine vv_iincN (x := d) (L' := [(0, .ref (Y.2.1 (0))), (1, .int (nI (s))), (2, .int (x)), (3, .int (nI (w))), (4, .int (nI ((pm_rdl σ r s x w d) + 0))), (5, .int (nI (d + 1))), (6, .int (nI (1)))]) (q := 97) hC dX4_reads_94 rfl (by decide) rfl rfl rfl ?_
                  refine vv_goto (tgt := 25) hC dX4_reads_97 (by decide) ?_
                  refine vv_sub (L' := [(0, .ref (Y.2.1 (0))), (1, .int (nI (s))), (2, .int (x)), (3, .int (nI (w))), (4, .int (nI ((pm_rdl σ r s x w d) + 0))), (5, .int (nI (d + 1)))]) (by simp) ?_
                  refine vv_loc (L' := [(0, .ref (Y.2.1 (0))), (1, .int (nI (s))), (2, .int (x)), (3, .int (nI (w))), (4, .int (nI (pm_rdl σ r s x w (d + 1)))), (5, .int (nI ((d + 1))))]) (by rw [show pm_rdl σ r s x w (d + 1) = _ from congrArg (fun z => pm_rdl σ r s x w d + z) (if_neg (fun z => by cases hlat_79.symm.trans z.2))]) ?_
                  exact ih_25 (d + 1) (by first | omega | (dsimp only; omega))  (by omega) (by omega) (by show pm_rdl σ r s x w d + _ ≤ _; split <;> omega)
      refine vv_loc (L' := [(0, .ref (Y.2.1 (0))), (1, .int (nI (s))), (2, .int (x)), (3, .int (nI (w))), (4, .int (nI (pm_rdl σ r s x w 0))), (5, .int (nI (0)))]) (by rw [show pm_rdl σ r s x w 0 = _ from if_neg (fun z => by cases hlat_8.symm.trans z.2)]) ?_
      exact lp_25 0 (by omega) (by omega) (by show pm_rd0 σ r s w ≤ 1; unfold pm_rd0; split <;> omega)
set_option maxRecDepth 100000 in
set_option maxHeartbeats 4000000 in
theorem cm_X4_others (l : Launch) (Y : vv_Y) (n : Nat) (hY : pm_sys Y n) (σ : vv_S) (x : Int32) (s : Nat) (i : Nat) (hs : s < 24) (hi : i < 8) : vv_M l Y yX4_others wsX4_others { frames := 1, cells := 0, slots := 0, locals := 22 } [.ref (Y.2.1 (0)), .int (x), .int (nI (s)), .int (nI (i))] σ (vv_R (.int (pm_ox σ x s i n)) σ) := by
  refine vv_M.of (cc := cX4_others) (maxL := 6) (ret := (some .int)) hY.ok (by decide) rfl (Nat.le_of_ble_eq_true rfl) ?_
  intro Z hl hp hC
  subst hl
  have hi_X4 : ∀ w ∈ u_ws RX4 TX4 25, w ∈ wsX4_others := by decide +kernel
  have hf_many : Cond.fieldLink RX4 69 "ParityRowModel" (TX4 1).2.1 (TX4 1).2.2.1 ∈ wsX4_others := by decide +kernel
  have hf_words : Cond.fieldLink RX4 13 "ParityRowModel" (TX4 2).2.1 (TX4 2).2.2.1 ∈ wsX4_others := by decide +kernel
  have hlo := hY.lo
  have hhi := hY.hi
  refine vv_loc (L' := [(0, .ref (Y.2.1 (0))), (1, .int (x)), (2, .int (nI (s))), (3, .int (nI (i)))]) rfl ?_
  refine vv_iconst (q := 1) hC (nI 0) dX4_others_0 (by decide) rfl ?_
  refine vv_istore (L' := [(0, .ref (Y.2.1 (0))), (1, .int (x)), (2, .int (nI (s))), (3, .int (nI (i))), (4, .int (nI (0)))]) (q := 3) hC dX4_others_1 (by decide) rfl rfl rfl ?_
  refine vv_iconst (q := 4) hC (nI 0) dX4_others_3 (by decide) rfl ?_
  refine vv_istore (L' := [(0, .ref (Y.2.1 (0))), (1, .int (x)), (2, .int (nI (s))), (3, .int (nI (i))), (4, .int (nI (0))), (5, .int (nI (0)))]) (q := 6) hC dX4_others_4 (by decide) rfl rfl rfl ?_
  have lp_6 : ∀ k : Nat, (k ≤ n) → vv_V Y 6 Z σ 6 [(0, .ref (Y.2.1 (0))), (1, .int (x)), (2, .int (nI (s))), (3, .int (nI (i))), (4, .int (pm_ox σ x s i k)), (5, .int (nI (k)))] [] := by
    refine vv_ind (fun k => n - k) (fun k ih_6 => ?_)
    intro hk
    refine vv_iload (q := 8) hC dX4_others_6 (x := nI (k)) rfl rfl ?_
    refine vv_aload_n (q := 9) hC dX4_others_8 (x := Y.2.1 (0)) rfl rfl ?_
    refine pm_gM (q := 12) hY hC 1 hi_X4 hf_many (by decide) rfl (v := .int (nI (n))) rfl dX4_others_9 rfl ?_
    refine vv_icmpN_ge (x := k) (y := n) (q := 15) (tgt := 53) hC dX4_others_12 (by decide) (by omega) (by omega) rfl (fun c_12 => ?_) (fun c_12 => ?_)
    · refine vv_iload (q := 55) hC dX4_others_53 (x := pm_ox σ x s i k) rfl rfl ?_
      refine vv_iret (v := pm_ox σ x s i k) hC dX4_others_55 ?_
      rw [hp]
      have ek : k = n := by omega
      subst ek
      exact ⟨rfl, rfl⟩
    · refine vv_iload (q := 17) hC dX4_others_15 (x := pm_ox σ x s i k) rfl rfl ?_
      refine vv_iload (q := 19) hC dX4_others_17 (x := nI (k)) rfl rfl ?_
      refine vv_iload_n (q := 20) hC dX4_others_19 (x := x) rfl rfl ?_
      refine vv_icmp_ne (x := nI (k)) (y := x) (q := 23) (tgt := 27) hC dX4_others_20 (by decide) rfl (fun c_20 => ?_) (fun c_20 => ?_)
      · refine vv_aload_n (q := 28) hC dX4_others_27 (x := Y.2.1 (0)) rfl rfl ?_
        refine pm_gM (q := 31) hY hC 2 hi_X4 hf_words (by decide) rfl (v := .ref (Y.2.1 (1))) rfl dX4_others_28 rfl ?_
        refine vv_bipush (q := 33) hC (nI 8) dX4_others_31 (by decide) rfl ?_
        refine vv_aload_n (q := 34) hC dX4_others_33 (x := Y.2.1 (0)) rfl rfl ?_
        refine vv_iload (q := 36) hC dX4_others_34 (x := nI (k)) rfl rfl ?_
        refine vv_iload_n (q := 37) hC dX4_others_36 (x := nI (s)) rfl rfl ?_
        refine vv_callV (n := 2) (k := 0) (As := [.int (nI (k)), .int (nI (s))]) (st := [.int (nI (8)), .ref (Y.2.1 (1)), .int (pm_ox σ x s i k)]) (q := 40) hC (hY.k (by decide)) (hY.M _) (by rw [hY.cl]; rfl) (cm_X4_at _ Y n hY σ k s ) gX4_others_X4_at rfl (by decide +kernel) dX4_others_37 rfl rfl rfl (vv_kR ?_)
        refine vv_mulN (x := 8) (y := 24 * k + s) (q := 41) hC dX4_others_40 rfl ?_
        refine vv_iload_n (q := 42) hC dX4_others_41 (x := nI (i)) rfl rfl ?_
        refine vv_addN (x := 8 * (24 * k + s)) (y := i) (q := 43) hC dX4_others_42 rfl ?_
        refine pm_ld_words (q := 44) hY hC (i := (8 * (24 * k + s)) + i) (by omega) dX4_others_43 rfl ?_
        refine vv_ixor (x := pm_ox σ x s i k) (y := σ 1 ((8 * (24 * k + s)) + i)) (q := 45) hC dX4_others_44 rfl ?_
        refine vv_istore (L' := [(0, .ref (Y.2.1 (0))), (1, .int (x)), (2, .int (nI (s))), (3, .int (nI (i))), (4, .int ((pm_ox σ x s i k) ^^^ (σ 1 ((8 * (24 * k + s)) + i)))), (5, .int (nI (k)))]) (q := 47) hC dX4_others_45 (by decide) rfl rfl rfl ?_
        refine vv_iincN (x := k) (L' := [(0, .ref (Y.2.1 (0))), (1, .int (x)), (2, .int (nI (s))), (3, .int (nI (i))), (4, .int ((pm_ox σ x s i k) ^^^ (σ 1 ((8 * (24 * k + s)) + i)))), (5, .int (nI (k + 1)))]) (q := 50) hC dX4_others_47 rfl (by decide) rfl rfl rfl ?_
        refine vv_goto (tgt := 6) hC dX4_others_50 (by decide) ?_
        refine vv_loc (L' := [(0, .ref (Y.2.1 (0))), (1, .int (x)), (2, .int (nI (s))), (3, .int (nI (i))), (4, .int (pm_ox σ x s i (k + 1))), (5, .int (nI ((k + 1))))]) (by rw [show pm_ox σ x s i (k + 1) = _ from congrArg (fun z => pm_ox σ x s i k ^^^ z) (if_neg c_20)]) ?_
        exact ih_6 (k + 1) (by first | omega | (dsimp only; omega))  (by omega)
      · refine vv_iconst (q := 24) hC (nI 0) dX4_others_23 (by decide) rfl ?_
        refine vv_goto (tgt := 44) hC dX4_others_24 (by decide) ?_
        refine vv_ixor (x := pm_ox σ x s i k) (y := nI (0)) (q := 45) hC dX4_others_44 rfl ?_
        refine vv_istore (L' := [(0, .ref (Y.2.1 (0))), (1, .int (x)), (2, .int (nI (s))), (3, .int (nI (i))), (4, .int ((pm_ox σ x s i k) ^^^ (nI (0)))), (5, .int (nI (k)))]) (q := 47) hC dX4_others_45 (by decide) rfl rfl rfl ?_
        refine vv_iincN (x := k) (L' := [(0, .ref (Y.2.1 (0))), (1, .int (x)), (2, .int (nI (s))), (3, .int (nI (i))), (4, .int ((pm_ox σ x s i k) ^^^ (nI (0)))), (5, .int (nI (k + 1)))]) (q := 50) hC dX4_others_47 rfl (by decide) rfl rfl rfl ?_
        refine vv_goto (tgt := 6) hC dX4_others_50 (by decide) ?_
        refine vv_loc (L' := [(0, .ref (Y.2.1 (0))), (1, .int (x)), (2, .int (nI (s))), (3, .int (nI (i))), (4, .int (pm_ox σ x s i (k + 1))), (5, .int (nI ((k + 1))))]) (by rw [show pm_ox σ x s i (k + 1) = _ from congrArg (fun z => pm_ox σ x s i k ^^^ z) (if_pos c_20)]) ?_
        exact ih_6 (k + 1) (by first | omega | (dsimp only; omega))  (by omega)
  exact lp_6 0 (by omega)
set_option maxRecDepth 100000 in
set_option maxHeartbeats 4000000 in
theorem cm_X4_notOn (l : Launch) (Y : vv_Y) (n : Nat) (hY : pm_sys Y n) (σ : vv_S) : vv_M l Y yX4_notOn wsX4_notOn { frames := 0, cells := 0, slots := 0, locals := 0 } [.ref (Y.2.1 (0))] σ (vv_R (.int (pm_nt σ n 0)) σ) := by
  refine vv_M.of (cc := cX4_notOn) (maxL := 2) (ret := (some .int)) hY.ok (by decide) rfl (Nat.le_of_ble_eq_true rfl) ?_
  intro Z hl hp hC
  subst hl
  have hi_X4 : ∀ w ∈ u_ws RX4 TX4 25, w ∈ wsX4_notOn := by decide +kernel
  have hf_many : Cond.fieldLink RX4 69 "ParityRowModel" (TX4 1).2.1 (TX4 1).2.2.1 ∈ wsX4_notOn := by decide +kernel
  have hf_state : Cond.fieldLink RX4 24 "ParityRowModel" (TX4 5).2.1 (TX4 5).2.2.1 ∈ wsX4_notOn := by decide +kernel
  have hlo := hY.lo
  have hhi := hY.hi
  refine vv_loc (L' := [(0, .ref (Y.2.1 (0)))]) rfl ?_
  refine vv_iconst (q := 1) hC (nI 0) dX4_notOn_0 (by decide) rfl ?_
  refine vv_istore_n (L' := [(0, .ref (Y.2.1 (0))), (1, .int (nI (0)))]) (q := 2) hC dX4_notOn_1 (by decide) rfl rfl rfl ?_
  have lp_2 : ∀ m : Nat, (m ≤ n) → (pm_nt σ n 0 = pm_nt σ (n - m) m) → vv_V Y 2 Z σ 2 [(0, .ref (Y.2.1 (0))), (1, .int (nI (m)))] [] := by
    refine vv_ind (fun m => n - m) (fun m ih_2 => ?_)
    intro hm hv
    refine vv_iload_n (q := 3) hC dX4_notOn_2 (x := nI (m)) rfl rfl ?_
    refine vv_aload_n (q := 4) hC dX4_notOn_3 (x := Y.2.1 (0)) rfl rfl ?_
    refine pm_gM (q := 7) hY hC 1 hi_X4 hf_many (by decide) rfl (v := .int (nI (n))) rfl dX4_notOn_4 rfl ?_
    refine vv_icmpN_ge (x := m) (y := n) (q := 10) (tgt := 27) hC dX4_notOn_7 (by decide) (by omega) (by omega) rfl (fun c_7 => ?_) (fun c_7 => ?_)
    · refine vv_iconst (q := 28) hC ((-1)) dX4_notOn_27 (by decide) rfl ?_
      refine vv_iret (v := (-1)) hC dX4_notOn_28 ?_
      rw [hp]
      rw [hv, show n - m = 0 by omega]
      exact ⟨rfl, rfl⟩
    · refine vv_aload_n (q := 11) hC dX4_notOn_10 (x := Y.2.1 (0)) rfl rfl ?_
      refine pm_gM (q := 14) hY hC 5 hi_X4 hf_state (by decide) rfl (v := .ref (Y.2.1 (4))) rfl dX4_notOn_11 rfl ?_
      refine vv_iload_n (q := 15) hC dX4_notOn_14 (x := nI (m)) rfl rfl ?_
      refine pm_ld_state (q := 16) hY hC (i := m) (by omega) dX4_notOn_15 rfl ?_
      refine vv_if_eq (x := σ 4 m) (q := 19) (tgt := 21) hC dX4_notOn_16 (by decide) rfl (fun c_16 => ?_) (fun c_16 => ?_)
      · refine vv_iincN (x := m) (L' := [(0, .ref (Y.2.1 (0))), (1, .int (nI (m + 1)))]) (q := 24) hC dX4_notOn_21 rfl (by decide) rfl rfl rfl ?_
        refine vv_goto (tgt := 2) hC dX4_notOn_24 (by decide) ?_
        exact ih_2 (m + 1) (by first | omega | (dsimp only; omega))  (by omega) (by rw [hv, show n - m = (n - (m + 1)) + 1 by omega]; exact if_pos c_16)
      · refine vv_iload_n (q := 20) hC dX4_notOn_19 (x := nI (m)) rfl rfl ?_
        refine vv_iret (v := nI (m)) hC dX4_notOn_20 ?_
        rw [hp]
        rw [hv, show n - m = (n - (m + 1)) + 1 by omega, show pm_nt σ (n - (m + 1) + 1) m = nI m from if_neg c_16]
        exact ⟨rfl, rfl⟩
  exact lp_2 0 (by omega) rfl
set_option maxRecDepth 100000 in
set_option maxHeartbeats 4000000 in
theorem cm_X4_freshIsOthers (l : Launch) (Y : vv_Y) (n : Nat) (hY : pm_sys Y n) (σ : vv_S) (x : Int32) (s : Nat) (hs : s < 24) : vv_M l Y yX4_freshIsOthers wsX4_freshIsOthers { frames := 2, cells := 0, slots := 0, locals := 47 } [.ref (Y.2.1 (0)), .int (x), .int (nI (s))] σ (vv_Rv (pm_fo σ n x s)) := by
  refine vv_M.of (cc := cX4_freshIsOthers) (maxL := 4) (ret := none) hY.ok (by decide) rfl (Nat.le_of_ble_eq_true rfl) ?_
  intro Z hl hp hC
  subst hl
  have hi_X4 : ∀ w ∈ u_ws RX4 TX4 25, w ∈ wsX4_freshIsOthers := by decide +kernel
  have hf_fresh : Cond.fieldLink RX4 63 "ParityRowModel" (TX4 23).2.1 (TX4 23).2.2.1 ∈ wsX4_freshIsOthers := by decide +kernel
  have hlo := hY.lo
  have hhi := hY.hi
  refine vv_loc (L' := [(0, .ref (Y.2.1 (0))), (1, .int (x)), (2, .int (nI (s)))]) rfl ?_
  refine vv_iconst (q := 1) hC (nI 0) dX4_freshIsOthers_0 (by decide) rfl ?_
  refine vv_istore_n (L' := [(0, .ref (Y.2.1 (0))), (1, .int (x)), (2, .int (nI (s))), (3, .int (nI (0)))]) (q := 2) hC dX4_freshIsOthers_1 (by decide) rfl rfl rfl ?_
  have lp_2 : ∀ i : Nat, (i ≤ 8) → vv_V Y 4 Z (vv_row σ 14 (fun j => if j < i then pm_ox σ x s j n else σ 14 j)) 2 [(0, .ref (Y.2.1 (0))), (1, .int (x)), (2, .int (nI (s))), (3, .int (nI (i)))] [] := by
    refine vv_ind (fun i => 8 - i) (fun i ih_2 => ?_)
    intro hi8
    refine vv_iload_n (q := 3) hC dX4_freshIsOthers_2 (x := nI (i)) rfl rfl ?_
    refine vv_bipush (q := 5) hC (nI 8) dX4_freshIsOthers_3 (by decide) rfl ?_
    refine vv_icmpN_ge (x := i) (y := 8) (q := 8) (tgt := 27) hC dX4_freshIsOthers_5 (by decide) (by omega) (by omega) rfl (fun c_5 => ?_) (fun c_5 => ?_)
    · refine vv_vret hC dX4_freshIsOthers_27 ?_
      rw [hp]
      have e8 : i = 8 := by omega
      subst e8
      exact ⟨rfl, rfl⟩
    · refine vv_aload_n (q := 9) hC dX4_freshIsOthers_8 (x := Y.2.1 (0)) rfl rfl ?_
      refine pm_gM (q := 12) hY hC 23 hi_X4 hf_fresh (by decide) rfl (v := .ref (Y.2.1 (14))) rfl dX4_freshIsOthers_9 rfl ?_
      refine vv_iload_n (q := 13) hC dX4_freshIsOthers_12 (x := nI (i)) rfl rfl ?_
      refine vv_aload_n (q := 14) hC dX4_freshIsOthers_13 (x := Y.2.1 (0)) rfl rfl ?_
      refine vv_iload_n (q := 15) hC dX4_freshIsOthers_14 (x := x) rfl rfl ?_
      refine vv_iload_n (q := 16) hC dX4_freshIsOthers_15 (x := nI (s)) rfl rfl ?_
      refine vv_iload_n (q := 17) hC dX4_freshIsOthers_16 (x := nI (i)) rfl rfl ?_
      refine vv_callV (n := 3) (k := 0) (As := [.int (x), .int (nI (s)), .int (nI (i))]) (st := [.int (nI (i)), .ref (Y.2.1 (14))]) (q := 20) hC (hY.k (by decide)) (hY.M _) (by rw [hY.cl]; rfl) (cm_X4_others _ Y n hY (vv_row σ 14 (fun j => if j < i then pm_ox σ x s j n else σ 14 j)) x s i (by omega) (by omega)) gX4_freshIsOthers_X4_others rfl (by decide +kernel) dX4_freshIsOthers_17 rfl rfl rfl (vv_kR ?_)
      refine vv_top (y := pm_ox σ x s i n) (pm_ox_congr (vv_row_n (by decide))) ?_
      refine pm_st_fresh (q := 21) hY hC (i := i) (x := pm_ox σ x s i n) (by omega) dX4_freshIsOthers_20 rfl ?_
      refine vv_iincN (x := i) (L' := [(0, .ref (Y.2.1 (0))), (1, .int (x)), (2, .int (nI (s))), (3, .int (nI (i + 1)))]) (q := 24) hC dX4_freshIsOthers_21 rfl (by decide) rfl rfl rfl ?_
      refine vv_goto (tgt := 2) hC dX4_freshIsOthers_24 (by decide) ?_
      refine vv_st (σ' := vv_row σ 14 (fun j => if j < (i + 1) then pm_ox σ x s j n else σ 14 j)) (by rw [vv_up_row]; exact congrArg (vv_row σ 14) (funext fun j => by unfold upd; grind)) ?_
      exact ih_2 (i + 1) (by first | omega | (dsimp only; omega))  (by omega)
  refine vv_st (σ' := vv_row σ 14 (fun j => if j < 0 then pm_ox σ x s j n else σ 14 j)) ((vv_row_of (funext fun j => by grind)).symm) ?_
  exact lp_2 0 (by omega)
set_option maxRecDepth 100000 in
set_option maxHeartbeats 4000000 in
theorem cm_X4_isEven (l : Launch) (Y : vv_Y) (n : Nat) (hY : pm_sys Y n) (σ : vv_S) (s : Nat) (hs : s < 24) : vv_M l Y yX4_isEven wsX4_isEven { frames := 2, cells := 0, slots := 0, locals := 47 } [.ref (Y.2.1 (0)), .int (nI (s))] σ (vv_R (.int (vv_B (pm_ev σ n s))) σ) := by
  refine vv_M.of (cc := cX4_isEven) (maxL := 4) (ret := (some .boolean)) hY.ok (by decide) rfl (Nat.le_of_ble_eq_true rfl) ?_
  intro Z hl hp hC
  subst hl
  have hlo := hY.lo
  have hhi := hY.hi
  refine vv_loc (L' := [(0, .ref (Y.2.1 (0))), (1, .int (nI (s)))]) rfl ?_
  refine vv_iconst (q := 1) hC (nI 1) dX4_isEven_0 (by decide) rfl ?_
  refine vv_istore_n (L' := [(0, .ref (Y.2.1 (0))), (1, .int (nI (s))), (2, .int (nI (1)))]) (q := 2) hC dX4_isEven_1 (by decide) rfl rfl rfl ?_
  refine vv_iconst (q := 3) hC (nI 0) dX4_isEven_2 (by decide) rfl ?_
  refine vv_istore_n (L' := [(0, .ref (Y.2.1 (0))), (1, .int (nI (s))), (2, .int (nI (1))), (3, .int (nI (0)))]) (q := 4) hC dX4_isEven_3 (by decide) rfl rfl rfl ?_
  have lp_4 : ∀ i : Nat, (i ≤ 8) → vv_V Y 4 Z σ 4 [(0, .ref (Y.2.1 (0))), (1, .int (nI (s))), (2, .int (vv_B (vv_all (fun j0 => pm_ox σ (-1) s j0 n = 0) i = true))), (3, .int (nI (i)))] [] := by
    refine vv_ind (fun i => 8 - i) (fun i ih_4 => ?_)
    intro hi8
    refine vv_iload_n (q := 5) hC dX4_isEven_4 (x := nI (i)) rfl rfl ?_
    refine vv_bipush (q := 7) hC (nI 8) dX4_isEven_5 (by decide) rfl ?_
    refine vv_icmpN_ge (x := i) (y := 8) (q := 10) (tgt := 36) hC dX4_isEven_7 (by decide) (by omega) (by omega) rfl (fun c_7 => ?_) (fun c_7 => ?_)
    · refine vv_iload_n (q := 37) hC dX4_isEven_36 (x := vv_B (vv_all (fun j0 => pm_ox σ (-1) s j0 n = 0) i = true)) rfl rfl ?_
      refine vv_zret (v := vv_B (vv_all (fun j0 => pm_ox σ (-1) s j0 n = 0) i = true)) hC vv_narB dX4_isEven_37 ?_
      rw [hp]
      have e8 : i = 8 := by omega
      subst e8
      exact ⟨rfl, rfl⟩
    · refine vv_iload_n (q := 11) hC dX4_isEven_10 (x := vv_B (vv_all (fun j0 => pm_ox σ (-1) s j0 n = 0) i = true)) rfl rfl ?_
      refine vv_ifB_eq (b := vv_all (fun j0 => pm_ox σ (-1) s j0 n = 0) i = true) (q := 14) (tgt := 28) hC dX4_isEven_11 (by decide) rfl (fun c_11 => ?_) (fun c_11 => ?_)
      · refine vv_iconst (q := 29) hC (nI 0) dX4_isEven_28 (by decide) rfl ?_
        refine vv_istore_n (L' := [(0, .ref (Y.2.1 (0))), (1, .int (nI (s))), (2, .int (nI (0))), (3, .int (nI (i)))]) (q := 30) hC dX4_isEven_29 (by decide) rfl rfl rfl ?_
        refine vv_iincN (x := i) (L' := [(0, .ref (Y.2.1 (0))), (1, .int (nI (s))), (2, .int (nI (0))), (3, .int (nI (i + 1)))]) (q := 33) hC dX4_isEven_30 rfl (by decide) rfl rfl rfl ?_
        refine vv_goto (tgt := 4) hC dX4_isEven_33 (by decide) ?_
        refine vv_loc (L' := [(0, .ref (Y.2.1 (0))), (1, .int (nI (s))), (2, .int (vv_B (vv_all (fun j0 => pm_ox σ (-1) s j0 n = 0) (i + 1) = true))), (3, .int (nI ((i + 1))))]) (by rw [vv_B0 (vv_all_n c_11)]; rfl) ?_
        exact ih_4 (i + 1) (by first | omega | (dsimp only; omega))  (by omega)
      · refine vv_aload_n (q := 15) hC dX4_isEven_14 (x := Y.2.1 (0)) rfl rfl ?_
        refine vv_iconst (q := 16) hC ((-1)) dX4_isEven_15 (by decide) rfl ?_
        refine vv_iload_n (q := 17) hC dX4_isEven_16 (x := nI (s)) rfl rfl ?_
        refine vv_iload_n (q := 18) hC dX4_isEven_17 (x := nI (i)) rfl rfl ?_
        refine vv_callV (n := 3) (k := 0) (As := [.int ((-1)), .int (nI (s)), .int (nI (i))]) (st := []) (q := 21) hC (hY.k (by decide)) (hY.M _) (by rw [hY.cl]; rfl) (cm_X4_others _ Y n hY σ ((-1)) s i (by omega) (by omega)) gX4_isEven_X4_others rfl (by decide +kernel) dX4_isEven_18 rfl rfl rfl (vv_kR ?_)
        refine vv_if_ne (x := pm_ox σ ((-1)) s i n) (q := 24) (tgt := 28) hC dX4_isEven_21 (by decide) rfl (fun c_21 => ?_) (fun c_21 => ?_)
        · refine vv_iconst (q := 29) hC (nI 0) dX4_isEven_28 (by decide) rfl ?_
          refine vv_istore_n (L' := [(0, .ref (Y.2.1 (0))), (1, .int (nI (s))), (2, .int (nI (0))), (3, .int (nI (i)))]) (q := 30) hC dX4_isEven_29 (by decide) rfl rfl rfl ?_
          refine vv_iincN (x := i) (L' := [(0, .ref (Y.2.1 (0))), (1, .int (nI (s))), (2, .int (nI (0))), (3, .int (nI (i + 1)))]) (q := 33) hC dX4_isEven_30 rfl (by decide) rfl rfl rfl ?_
          refine vv_goto (tgt := 4) hC dX4_isEven_33 (by decide) ?_
          refine vv_loc (L' := [(0, .ref (Y.2.1 (0))), (1, .int (nI (s))), (2, .int (vv_B (vv_all (fun j0 => pm_ox σ (-1) s j0 n = 0) (i + 1) = true))), (3, .int (nI ((i + 1))))]) (by rw [vv_B0 (vv_all_m c_21)]; rfl) ?_
          exact ih_4 (i + 1) (by first | omega | (dsimp only; omega))  (by omega)
        · refine vv_iconst (q := 25) hC (nI 1) dX4_isEven_24 (by decide) rfl ?_
          refine vv_goto (tgt := 29) hC dX4_isEven_25 (by decide) ?_
          refine vv_istore_n (L' := [(0, .ref (Y.2.1 (0))), (1, .int (nI (s))), (2, .int (nI (1))), (3, .int (nI (i)))]) (q := 30) hC dX4_isEven_29 (by decide) rfl rfl rfl ?_
          refine vv_iincN (x := i) (L' := [(0, .ref (Y.2.1 (0))), (1, .int (nI (s))), (2, .int (nI (1))), (3, .int (nI (i + 1)))]) (q := 33) hC dX4_isEven_30 rfl (by decide) rfl rfl rfl ?_
          refine vv_goto (tgt := 4) hC dX4_isEven_33 (by decide) ?_
          refine vv_loc (L' := [(0, .ref (Y.2.1 (0))), (1, .int (nI (s))), (2, .int (vv_B (vv_all (fun j0 => pm_ox σ (-1) s j0 n = 0) (i + 1) = true))), (3, .int (nI ((i + 1))))]) (by rw [vv_B1 (vv_all_s c_11 c_21)]; rfl) ?_
          exact ih_4 (i + 1) (by first | omega | (dsimp only; omega))  (by omega)
  refine vv_loc (L' := [(0, .ref (Y.2.1 (0))), (1, .int (nI (s))), (2, .int (vv_B (vv_all (fun j0 => pm_ox σ (-1) s j0 n = 0) 0 = true))), (3, .int (nI (0)))]) (by rw [vv_all_0]) ?_
  exact lp_4 0 (by omega)
set_option maxRecDepth 100000 in
set_option maxHeartbeats 4000000 in
theorem cm_X4_from (l : Launch) (Y : vv_Y) (n : Nat) (hY : pm_sys Y n) (σ : vv_S) (r : Nat) (b : Nat) (hr : σ 0 8 = nI r) (hr10 : r ≤ 15) (hb : b < 24 * (n - 1)) : vv_M l Y yX4_from wsX4_from { frames := 3, cells := 0, slots := 0, locals := 70 } [.ref (Y.2.1 (0)), .int (nI (b))] σ (vv_R (.int (nI (pm_from σ n r b))) σ) := by
  refine vv_M.of (cc := cX4_from) (maxL := 5) (ret := (some .int)) hY.ok (by decide) rfl (Nat.le_of_ble_eq_true rfl) ?_
  intro Z hl hp hC
  subst hl
  have hi_X4 : ∀ w ∈ u_ws RX4 TX4 25, w ∈ wsX4_from := by decide +kernel
  have hf_many : Cond.fieldLink RX4 69 "ParityRowModel" (TX4 1).2.1 (TX4 1).2.2.1 ∈ wsX4_from := by decide +kernel
  have hlo := hY.lo
  have hhi := hY.hi
  have hdm := pc_dm hlo hb
  refine vv_loc (L' := [(0, .ref (Y.2.1 (0))), (1, .int (nI (b)))]) rfl ?_
  refine vv_iload_n (q := 1) hC dX4_from_0 (x := nI (b)) rfl rfl ?_
  refine vv_aload_n (q := 2) hC dX4_from_1 (x := Y.2.1 (0)) rfl rfl ?_
  refine pm_gM (q := 5) hY hC 1 hi_X4 hf_many (by decide) rfl (v := .int (nI (n))) rfl dX4_from_2 rfl ?_
  refine vv_iconst (q := 6) hC (nI 1) dX4_from_5 (by decide) rfl ?_
  refine vv_subN (x := n) (y := 1) (q := 7) hC dX4_from_6 (by omega) rfl ?_
  refine vv_divN (x := b) (y := n - 1) (q := 8) hC dX4_from_7 (by omega) (by omega) (by omega) rfl ?_
  refine vv_istore_n (L' := [(0, .ref (Y.2.1 (0))), (1, .int (nI (b))), (2, .int (nI (b / (n - 1))))]) (q := 9) hC dX4_from_8 (by decide) rfl rfl rfl ?_
  refine vv_iload_n (q := 10) hC dX4_from_9 (x := nI (b)) rfl rfl ?_
  refine vv_aload_n (q := 11) hC dX4_from_10 (x := Y.2.1 (0)) rfl rfl ?_
  refine pm_gM (q := 14) hY hC 1 hi_X4 hf_many (by decide) rfl (v := .int (nI (n))) rfl dX4_from_11 rfl ?_
  refine vv_iconst (q := 15) hC (nI 1) dX4_from_14 (by decide) rfl ?_
  refine vv_subN (x := n) (y := 1) (q := 16) hC dX4_from_15 (by omega) rfl ?_
  refine vv_remN (x := b) (y := n - 1) (q := 17) hC dX4_from_16 (by omega) (by omega) (by omega) rfl ?_
  refine vv_istore_n (L' := [(0, .ref (Y.2.1 (0))), (1, .int (nI (b))), (2, .int (nI (b / (n - 1)))), (3, .int (nI (b % (n - 1))))]) (q := 18) hC dX4_from_17 (by decide) rfl rfl rfl ?_
  refine vv_aload_n (q := 19) hC dX4_from_18 (x := Y.2.1 (0)) rfl rfl ?_
  refine vv_iload_n (q := 20) hC dX4_from_19 (x := nI (b / (n - 1))) rfl rfl ?_
  refine vv_iload_n (q := 21) hC dX4_from_20 (x := nI (b % (n - 1))) rfl rfl ?_
  refine vv_callV (n := 2) (k := 0) (As := [.int (nI (b / (n - 1))), .int (nI (b % (n - 1)))]) (st := []) (q := 24) hC (hY.k (by decide)) (hY.M _) (by rw [hY.cl]; rfl) (cm_X4_latest _ Y n hY σ r (b / (n - 1)) (b % (n - 1)) hr hr10 (by omega)) gX4_from_X4_latest rfl (by decide +kernel) dX4_from_21 rfl rfl rfl (vv_kR ?_)
  rcases hlat_21 : pm_lat σ (b / (n - 1)) (b % (n - 1)) r with _ | k
  · refine vv_stk (st' := [.int (-1)]) rfl ?_
    refine vv_iconst (q := 25) hC ((-1)) dX4_from_24 (by decide) rfl ?_
    refine vv_icmp_eq (x := (-1)) (y := (-1)) (q := 28) (tgt := 30) hC dX4_from_25 (by decide) rfl (fun c_25 => ?_) (fun c_25 => absurd rfl c_25)
    refine vv_aload_n (q := 31) hC dX4_from_30 (x := Y.2.1 (0)) rfl rfl ?_
    refine vv_iload_n (q := 32) hC dX4_from_31 (x := nI (b / (n - 1))) rfl rfl ?_
    refine vv_iload_n (q := 33) hC dX4_from_32 (x := nI (b % (n - 1))) rfl rfl ?_
    refine vv_callV (n := 2) (k := 0) (As := [.int (nI (b / (n - 1))), .int (nI (b % (n - 1)))]) (st := []) (q := 36) hC (hY.k (by decide)) (hY.M _) (by rw [hY.cl]; rfl) (cm_X4_memberOf _ Y n hY σ (b / (n - 1)) (b % (n - 1)) hdm.1 hdm.2) gX4_from_X4_memberOf rfl (by decide +kernel) dX4_from_33 rfl rfl rfl (vv_kR ?_)
    refine vv_istore (L' := [(0, .ref (Y.2.1 (0))), (1, .int (nI (b))), (2, .int (nI (b / (n - 1)))), (3, .int (nI (b % (n - 1)))), (4, .int (nI (pc_mo n (b / (n - 1)) (b % (n - 1)))))]) (q := 38) hC dX4_from_36 (by decide) rfl rfl rfl ?_
    refine vv_aload_n (q := 39) hC dX4_from_38 (x := Y.2.1 (0)) rfl rfl ?_
    refine vv_iload (q := 41) hC dX4_from_39 (x := nI (pc_mo n (b / (n - 1)) (b % (n - 1)))) rfl rfl ?_
    refine vv_iload_n (q := 42) hC dX4_from_41 (x := nI (b / (n - 1))) rfl rfl ?_
    refine vv_callV (n := 2) (k := 0) (As := [.int (nI (pc_mo n (b / (n - 1)) (b % (n - 1)))), .int (nI (b / (n - 1)))]) (st := []) (q := 45) hC (hY.k (by decide)) (hY.M _) (by rw [hY.cl]; rfl) (cm_X4_isThere _ Y n hY σ (pc_mo n (b / (n - 1)) (b % (n - 1))) (b / (n - 1)) (pc_mo_lt hlo) hdm.1) gX4_from_X4_isThere rfl (by decide +kernel) dX4_from_42 rfl rfl rfl (vv_kR ?_)
    refine vv_ifB_eq (b := pm_there σ (pc_mo n (b / (n - 1)) (b % (n - 1))) (b / (n - 1))) (q := 48) (tgt := 52) hC dX4_from_45 (by decide) rfl (fun c_45 => ?_) (fun c_45 => ?_)
    · refine vv_aload_n (q := 53) hC dX4_from_52 (x := Y.2.1 (0)) rfl rfl ?_
      refine vv_iload (q := 55) hC dX4_from_53 (x := nI (pc_mo n (b / (n - 1)) (b % (n - 1)))) rfl rfl ?_
      refine vv_iload_n (q := 56) hC dX4_from_55 (x := nI (b / (n - 1))) rfl rfl ?_
      refine vv_callV (n := 2) (k := 0) (As := [.int (nI (pc_mo n (b / (n - 1)) (b % (n - 1)))), .int (nI (b / (n - 1)))]) (st := []) (q := 59) hC (hY.k (by decide)) (hY.M _) (by rw [hY.cl]; rfl) (cm_X4_othersThere _ Y n hY σ (nI (pc_mo n (b / (n - 1)) (b % (n - 1)))) (b / (n - 1)) hdm.1) gX4_from_X4_othersThere rfl (by decide +kernel) dX4_from_56 rfl rfl rfl (vv_kR ?_)
      refine vv_ifB_eq (b := pm_oth σ n (nI (pc_mo n (b / (n - 1)) (b % (n - 1)))) (b / (n - 1))) (q := 62) (tgt := 66) hC dX4_from_59 (by decide) rfl (fun c_59 => ?_) (fun c_59 => ?_)
      · refine vv_iconst (q := 67) hC (nI 3) dX4_from_66 (by decide) rfl ?_
        refine vv_iret (v := nI (3)) hC dX4_from_67 ?_
        rw [hp]
        unfold pm_from
        rw [if_pos hlat_21, if_neg c_45, if_neg c_59]
        exact ⟨rfl, rfl⟩
      · refine vv_iconst (q := 63) hC (nI 2) dX4_from_62 (by decide) rfl ?_
        refine vv_goto (tgt := 67) hC dX4_from_63 (by decide) ?_
        refine vv_iret (v := nI (2)) hC dX4_from_67 ?_
        rw [hp]
        unfold pm_from
        rw [if_pos hlat_21, if_neg c_45, if_pos c_59]
        exact ⟨rfl, rfl⟩
    · refine vv_iconst (q := 49) hC (nI 0) dX4_from_48 (by decide) rfl ?_
      refine vv_goto (tgt := 67) hC dX4_from_49 (by decide) ?_
      refine vv_iret (v := nI (0)) hC dX4_from_67 ?_
      rw [hp]
      unfold pm_from
      rw [if_pos hlat_21, if_pos c_45]
      exact ⟨rfl, rfl⟩
  · have hl_k := pm_lat_lt hlat_21
    refine vv_stk (st' := [.int (nI (k))]) rfl ?_
    refine vv_iconst (q := 25) hC ((-1)) dX4_from_24 (by decide) rfl ?_
    refine vv_icmp_eq (x := nI (k)) (y := (-1)) (q := 28) (tgt := 30) hC dX4_from_25 (by decide) rfl (fun c_25 => absurd c_25 (pm_ne1 (by omega))) (fun c_25 => ?_)
    refine vv_iconst (q := 29) hC (nI 1) dX4_from_28 (by decide) rfl ?_
    refine vv_iret (v := nI (1)) hC dX4_from_29 ?_
    rw [hp]
    unfold pm_from
    rw [if_neg (by rw [hlat_21]; exact fun z => by cases z)]
    exact ⟨rfl, rfl⟩
set_option maxRecDepth 100000 in
set_option maxHeartbeats 4000000 in
theorem cm_X4_look (l : Launch) (Y : vv_Y) (n : Nat) (hY : pm_sys Y n) (σ : vv_S) (r : Nat) (b : Int32) (hr : σ 0 8 = nI r) (hr10 : r ≤ 15) : vv_M l Y yX4_look wsX4_look { frames := 4, cells := 0, slots := 0, locals := 94 } [.ref (Y.2.1 (0)), .int (b)] σ (vv_R (.int (pm_look σ n r b)) σ) := by
  refine vv_M.of (cc := cX4_look) (maxL := 2) (ret := (some .int)) hY.ok (by decide) rfl (Nat.le_of_ble_eq_true rfl) ?_
  intro Z hl hp hC
  subst hl
  have hi_X4 : ∀ w ∈ u_ws RX4 TX4 25, w ∈ wsX4_look := by decide +kernel
  have hf_down : Cond.fieldLink RX4 103 "ParityRowModel" (TX4 18).2.1 (TX4 18).2.2.1 ∈ wsX4_look := by decide +kernel
  have hlo := hY.lo
  have hhi := hY.hi
  refine vv_loc (L' := [(0, .ref (Y.2.1 (0))), (1, .int (b))]) rfl ?_
  refine vv_aload_n (q := 1) hC dX4_look_0 (x := Y.2.1 (0)) rfl rfl ?_
  refine pm_gM (q := 4) hY hC 18 hi_X4 hf_down (by decide) rfl (v := .int (σ 0 18)) rfl dX4_look_1 rfl ?_
  refine vv_if_eq (x := σ 0 18) (q := 7) (tgt := 12) hC dX4_look_4 (by decide) rfl (fun c_4 => ?_) (fun c_4 => ?_)
  · refine vv_aload_n (q := 13) hC dX4_look_12 (x := Y.2.1 (0)) rfl rfl ?_
    refine vv_iload_n (q := 14) hC dX4_look_13 (x := b) rfl rfl ?_
    refine vv_i2l (q := 15) hC (b.toInt64) dX4_look_14 rfl rfl ?_
    refine vv_callV (n := 1) (k := 0) (As := [.long (b.toInt64)]) (st := []) (q := 18) hC (hY.k (by decide)) (hY.M _) (by rw [hY.cl]; rfl) (cm_X4_isBlock _ Y n hY σ b.toInt64 ) gX4_look_X4_isBlock rfl (by decide +kernel) dX4_look_15 rfl rfl rfl (vv_kR ?_)
    refine vv_top (y := vv_B (pc_isb n b)) (vv_B_congr (pm_blk hlo hhi)) ?_
    refine vv_ifB_eq (b := pc_isb n b) (q := 21) (tgt := 29) hC dX4_look_18 (by decide) rfl (fun c_18 => ?_) (fun c_18 => ?_)
    · refine vv_bipush (q := 31) hC ((-101)) dX4_look_29 (by decide) rfl ?_
      refine vv_iret (v := (-101)) hC dX4_look_31 ?_
      rw [hp]
      unfold pm_look
      rw [if_pos c_4, if_neg c_18]
      exact ⟨rfl, rfl⟩
    · have hn_b := pc_nat (b := b) (N := 24 * (n - 1)) c_18 (by omega)
      refine vv_loc (L' := [(0, .ref (Y.2.1 (0))), (1, .int (nI (b.toNatClampNeg)))]) (by rw [← hn_b.1]) ?_
      refine vv_aload_n (q := 22) hC dX4_look_21 (x := Y.2.1 (0)) rfl rfl ?_
      refine vv_iload_n (q := 23) hC dX4_look_22 (x := nI (b.toNatClampNeg)) rfl rfl ?_
      refine vv_callV (n := 1) (k := 0) (As := [.int (nI (b.toNatClampNeg))]) (st := []) (q := 26) hC (hY.k (by decide)) (hY.M _) (by rw [hY.cl]; rfl) (cm_X4_from _ Y n hY σ r b.toNatClampNeg hr hr10 hn_b.2) gX4_look_X4_from rfl (by decide +kernel) dX4_look_23 rfl rfl rfl (vv_kR ?_)
      refine vv_goto (tgt := 31) hC dX4_look_26 (by decide) ?_
      refine vv_iret (v := nI (pm_from σ n r b.toNatClampNeg)) hC dX4_look_31 ?_
      rw [hp]
      unfold pm_look
      rw [if_pos c_4, if_pos c_18]
      exact ⟨rfl, rfl⟩
  · refine vv_bipush (q := 9) hC ((-100)) dX4_look_7 (by decide) rfl ?_
    refine vv_goto (tgt := 31) hC dX4_look_9 (by decide) ?_
    refine vv_iret (v := (-100)) hC dX4_look_31 ?_
    rw [hp]
    unfold pm_look
    rw [if_neg c_4]
    exact ⟨rfl, rfl⟩
set_option maxRecDepth 100000 in
set_option maxHeartbeats 4000000 in
theorem cm_X4_lose (l : Launch) (Y : vv_Y) (n : Nat) (hY : pm_sys Y n) (σ : vv_S) (x : Int32) : vv_M l Y yX4_lose wsX4_lose { frames := 1, cells := 0, slots := 0, locals := 25 } [.ref (Y.2.1 (0)), .int (x)] σ (vv_R (.int ((pm_lose σ n x).1)) ((pm_lose σ n x).2)) := by
  refine vv_M.of (cc := cX4_lose) (maxL := 2) (ret := (some .int)) hY.ok (by decide) rfl (Nat.le_of_ble_eq_true rfl) ?_
  intro Z hl hp hC
  subst hl
  have hi_X4 : ∀ w ∈ u_ws RX4 TX4 25, w ∈ wsX4_lose := by decide +kernel
  have hf_down : Cond.fieldLink RX4 103 "ParityRowModel" (TX4 18).2.1 (TX4 18).2.2.1 ∈ wsX4_lose := by decide +kernel
  have hf_many : Cond.fieldLink RX4 69 "ParityRowModel" (TX4 1).2.1 (TX4 1).2.2.1 ∈ wsX4_lose := by decide +kernel
  have hf_state : Cond.fieldLink RX4 24 "ParityRowModel" (TX4 5).2.1 (TX4 5).2.2.1 ∈ wsX4_lose := by decide +kernel
  have hlo := hY.lo
  have hhi := hY.hi
  refine vv_loc (L' := [(0, .ref (Y.2.1 (0))), (1, .int (x))]) rfl ?_
  refine vv_aload_n (q := 1) hC dX4_lose_0 (x := Y.2.1 (0)) rfl rfl ?_
  refine pm_gM (q := 4) hY hC 18 hi_X4 hf_down (by decide) rfl (v := .int (σ 0 18)) rfl dX4_lose_1 rfl ?_
  refine vv_if_eq (x := σ 0 18) (q := 7) (tgt := 10) hC dX4_lose_4 (by decide) rfl (fun c_4 => ?_) (fun c_4 => ?_)
  · refine vv_iload_n (q := 11) hC dX4_lose_10 (x := x) rfl rfl ?_
    refine vv_i2l (q := 12) hC (x.toInt64) dX4_lose_11 rfl rfl ?_
    refine vv_lconst (q := 13) hC (lN 0) dX4_lose_12 rfl rfl ?_
    refine vv_aload_n (q := 14) hC dX4_lose_13 (x := Y.2.1 (0)) rfl rfl ?_
    refine pm_gM (q := 17) hY hC 1 hi_X4 hf_many (by decide) rfl (v := .int (nI (n))) rfl dX4_lose_14 rfl ?_
    refine vv_iconst (q := 18) hC (nI 1) dX4_lose_17 (by decide) rfl ?_
    refine vv_subN (x := n) (y := 1) (q := 19) hC dX4_lose_18 (by omega) rfl ?_
    refine vv_i2l (q := 20) hC ((nI (n - 1)).toInt64) dX4_lose_19 rfl rfl ?_
    refine vv_callS (n := 3) (As := [.long (x.toInt64), .long (lN 0), .long ((nI (n - 1)).toInt64)]) (st := []) (q := 23) hC (cm_X4_in _ Y n hY σ x.toInt64 (lN 0) ((nI (n - 1)).toInt64) ) gX4_lose_X4_in rfl (by decide +kernel) dX4_lose_20 rfl rfl rfl (vv_kR ?_)
    refine vv_top (y := vv_B (pc_ism n x)) (vv_B_congr (by rw [pm_l (by omega), pm_in0 (by omega), show n - 1 + 1 = n by omega])) ?_
    refine vv_ifB_ne (b := pc_ism n x) (q := 26) (tgt := 29) hC dX4_lose_23 (by decide) rfl (fun c_23 => ?_) (fun c_23 => ?_)
    · refine vv_aload_n (q := 30) hC dX4_lose_29 (x := Y.2.1 (0)) rfl rfl ?_
      refine vv_callV (n := 0) (k := 0) (As := []) (st := []) (q := 33) hC (hY.k (by decide)) (hY.M _) (by rw [hY.cl]; rfl) (cm_X4_notOn _ Y n hY σ  ) gX4_lose_X4_notOn rfl (by decide +kernel) dX4_lose_30 rfl rfl rfl (vv_kR ?_)
      refine vv_iconst (q := 34) hC ((-1)) dX4_lose_33 (by decide) rfl ?_
      refine vv_icmp_eq (x := pm_nt σ n 0) (y := (-1)) (q := 37) (tgt := 40) hC dX4_lose_34 (by decide) rfl (fun c_34 => ?_) (fun c_34 => ?_)
      · have hn_x := pc_nat (b := x) (N := n) c_23 (by omega)
        refine vv_loc (L' := [(0, .ref (Y.2.1 (0))), (1, .int (nI (x.toNatClampNeg)))]) (by rw [← hn_x.1]) ?_
        have hxn := hn_x.2
        refine vv_aload_n (q := 41) hC dX4_lose_40 (x := Y.2.1 (0)) rfl rfl ?_
        refine pm_gM (q := 44) hY hC 5 hi_X4 hf_state (by decide) rfl (v := .ref (Y.2.1 (4))) rfl dX4_lose_41 rfl ?_
        refine vv_iload_n (q := 45) hC dX4_lose_44 (x := nI (x.toNatClampNeg)) rfl rfl ?_
        refine vv_iconst (q := 46) hC (nI 1) dX4_lose_45 (by decide) rfl ?_
        refine pm_st_state (q := 47) hY hC (i := x.toNatClampNeg) (x := nI (1)) (by omega) dX4_lose_46 rfl ?_
        refine vv_iconst (q := 48) hC (nI 1) dX4_lose_47 (by decide) rfl ?_
        refine vv_iret (v := nI (1)) hC dX4_lose_48 ?_
        rw [hp]
        unfold pm_lose
        rw [if_pos c_4, if_pos c_23, if_pos c_34]
        exact ⟨rfl, rfl⟩
      · refine vv_bipush (q := 39) hC ((-103)) dX4_lose_37 (by decide) rfl ?_
        refine vv_iret (v := (-103)) hC dX4_lose_39 ?_
        rw [hp]
        unfold pm_lose
        rw [if_pos c_4, if_pos c_23, if_neg c_34]
        exact ⟨rfl, rfl⟩
    · refine vv_bipush (q := 28) hC ((-101)) dX4_lose_26 (by decide) rfl ?_
      refine vv_iret (v := (-101)) hC dX4_lose_28 ?_
      rw [hp]
      unfold pm_lose
      rw [if_pos c_4, if_neg c_23]
      exact ⟨rfl, rfl⟩
  · refine vv_bipush (q := 9) hC ((-100)) dX4_lose_7 (by decide) rfl ?_
    refine vv_iret (v := (-100)) hC dX4_lose_9 ?_
    rw [hp]
    unfold pm_lose
    rw [if_neg c_4]
    exact ⟨rfl, rfl⟩
set_option maxRecDepth 100000 in
set_option maxHeartbeats 4000000 in
theorem cm_X4_rot (l : Launch) (Y : vv_Y) (n : Nat) (hY : pm_sys Y n) (σ : vv_S) (a : Int32) (s : Int32) (i : Int32) (x : Int32) : vv_M l Y yX4_rot wsX4_rot { frames := 1, cells := 0, slots := 0, locals := 25 } [.ref (Y.2.1 (0)), .int (a), .int (s), .int (i), .int (x)] σ (vv_R (.int ((pm_rot σ n a s i x).1)) ((pm_rot σ n a s i x).2)) := by
  refine vv_M.of (cc := cX4_rot) (maxL := 6) (ret := (some .int)) hY.ok (by decide) rfl (Nat.le_of_ble_eq_true rfl) ?_
  intro Z hl hp hC
  subst hl
  have hi_X4 : ∀ w ∈ u_ws RX4 TX4 25, w ∈ wsX4_rot := by decide +kernel
  have hf_many : Cond.fieldLink RX4 69 "ParityRowModel" (TX4 1).2.1 (TX4 1).2.2.1 ∈ wsX4_rot := by decide +kernel
  have hf_words : Cond.fieldLink RX4 13 "ParityRowModel" (TX4 2).2.1 (TX4 2).2.2.1 ∈ wsX4_rot := by decide +kernel
  have hlo := hY.lo
  have hhi := hY.hi
  refine vv_loc (L' := [(0, .ref (Y.2.1 (0))), (1, .int (a)), (2, .int (s)), (3, .int (i)), (4, .int (x))]) rfl ?_
  refine vv_iload_n (q := 1) hC dX4_rot_0 (x := a) rfl rfl ?_
  refine vv_i2l (q := 2) hC (a.toInt64) dX4_rot_1 rfl rfl ?_
  refine vv_lconst (q := 3) hC (lN 0) dX4_rot_2 rfl rfl ?_
  refine vv_aload_n (q := 4) hC dX4_rot_3 (x := Y.2.1 (0)) rfl rfl ?_
  refine pm_gM (q := 7) hY hC 1 hi_X4 hf_many (by decide) rfl (v := .int (nI (n))) rfl dX4_rot_4 rfl ?_
  refine vv_iconst (q := 8) hC (nI 1) dX4_rot_7 (by decide) rfl ?_
  refine vv_subN (x := n) (y := 1) (q := 9) hC dX4_rot_8 (by omega) rfl ?_
  refine vv_i2l (q := 10) hC ((nI (n - 1)).toInt64) dX4_rot_9 rfl rfl ?_
  refine vv_callS (n := 3) (As := [.long (a.toInt64), .long (lN 0), .long ((nI (n - 1)).toInt64)]) (st := []) (q := 13) hC (cm_X4_in _ Y n hY σ a.toInt64 (lN 0) ((nI (n - 1)).toInt64) ) gX4_rot_X4_in rfl (by decide +kernel) dX4_rot_10 rfl rfl rfl (vv_kR ?_)
  refine vv_top (y := vv_B (pc_ism n a)) (vv_B_congr (by rw [pm_l (by omega), pm_in0 (by omega), show n - 1 + 1 = n by omega])) ?_
  refine vv_ifB_eq (b := pc_ism n a) (q := 16) (tgt := 40) hC dX4_rot_13 (by decide) rfl (fun c_13 => ?_) (fun c_13 => ?_)
  · refine vv_bipush (q := 42) hC ((-101)) dX4_rot_40 (by decide) rfl ?_
    refine vv_iret (v := (-101)) hC dX4_rot_42 ?_
    rw [hp]
    unfold pm_rot
    rw [if_neg (fun z => c_13 z.1)]
    exact ⟨rfl, rfl⟩
  · refine vv_iload_n (q := 17) hC dX4_rot_16 (x := s) rfl rfl ?_
    refine vv_i2l (q := 18) hC (s.toInt64) dX4_rot_17 rfl rfl ?_
    refine vv_lconst (q := 19) hC (lN 0) dX4_rot_18 rfl rfl ?_
    refine vv_ldc2 (v := 23) (q := 22) hC (by decide +kernel) dX4_rot_19 rfl ?_
    refine vv_callS (n := 3) (As := [.long (s.toInt64), .long (lN 0), .long (23)]) (st := []) (q := 25) hC (cm_X4_in _ Y n hY σ s.toInt64 (lN 0) 23 ) gX4_rot_X4_in rfl (by decide +kernel) dX4_rot_22 rfl rfl rfl (vv_kR ?_)
    refine vv_top (y := vv_B (¬ s < 0 ∧ s < nI 24)) (vv_B_congr (by rw [show (23 : Int64) = lN 23 from rfl, pm_in0 (by omega)])) ?_
    refine vv_ifB_eq (b := ¬ s < 0 ∧ s < nI 24) (q := 28) (tgt := 40) hC dX4_rot_25 (by decide) rfl (fun c_25 => ?_) (fun c_25 => ?_)
    · refine vv_bipush (q := 42) hC ((-101)) dX4_rot_40 (by decide) rfl ?_
      refine vv_iret (v := (-101)) hC dX4_rot_42 ?_
      rw [hp]
      unfold pm_rot
      rw [if_neg (fun z => c_25 z.2.1)]
      exact ⟨rfl, rfl⟩
    · refine vv_iload_n (q := 29) hC dX4_rot_28 (x := i) rfl rfl ?_
      refine vv_i2l (q := 30) hC (i.toInt64) dX4_rot_29 rfl rfl ?_
      refine vv_lconst (q := 31) hC (lN 0) dX4_rot_30 rfl rfl ?_
      refine vv_ldc2 (v := 7) (q := 34) hC (by decide +kernel) dX4_rot_31 rfl ?_
      refine vv_callS (n := 3) (As := [.long (i.toInt64), .long (lN 0), .long (7)]) (st := []) (q := 37) hC (cm_X4_in _ Y n hY σ i.toInt64 (lN 0) 7 ) gX4_rot_X4_in rfl (by decide +kernel) dX4_rot_34 rfl rfl rfl (vv_kR ?_)
      refine vv_top (y := vv_B (¬ i < 0 ∧ i < nI 8)) (vv_B_congr (by rw [show (7 : Int64) = lN 7 from rfl, pm_in0 (by omega)])) ?_
      refine vv_ifB_ne (b := ¬ i < 0 ∧ i < nI 8) (q := 40) (tgt := 43) hC dX4_rot_37 (by decide) rfl (fun c_37 => ?_) (fun c_37 => ?_)
      · have hn_a := pc_nat (b := a) (N := n) c_13 (by omega)
        have hn_s := pc_nat (b := s) (N := 24) c_25 (by omega)
        have hn_i := pc_nat (b := i) (N := 8) c_37 (by omega)
        have q1 := hn_a.2
        have q2 := hn_s.2
        have q3 := hn_i.2
        refine vv_loc (L' := [(0, .ref (Y.2.1 (0))), (1, .int (nI (a.toNatClampNeg))), (2, .int (nI (s.toNatClampNeg))), (3, .int (nI (i.toNatClampNeg))), (4, .int (x))]) (by rw [← hn_a.1, ← hn_s.1, ← hn_i.1]) ?_
        refine vv_bipush (q := 45) hC (nI 8) dX4_rot_43 (by decide) rfl ?_
        refine vv_aload_n (q := 46) hC dX4_rot_45 (x := Y.2.1 (0)) rfl rfl ?_
        refine vv_iload_n (q := 47) hC dX4_rot_46 (x := nI (a.toNatClampNeg)) rfl rfl ?_
        refine vv_iload_n (q := 48) hC dX4_rot_47 (x := nI (s.toNatClampNeg)) rfl rfl ?_
        refine vv_callV (n := 2) (k := 0) (As := [.int (nI (a.toNatClampNeg)), .int (nI (s.toNatClampNeg))]) (st := [.int (nI (8))]) (q := 51) hC (hY.k (by decide)) (hY.M _) (by rw [hY.cl]; rfl) (cm_X4_at _ Y n hY σ a.toNatClampNeg s.toNatClampNeg ) gX4_rot_X4_at rfl (by decide +kernel) dX4_rot_48 rfl rfl rfl (vv_kR ?_)
        refine vv_mulN (x := 8) (y := 24 * a.toNatClampNeg + s.toNatClampNeg) (q := 52) hC dX4_rot_51 rfl ?_
        refine vv_iload_n (q := 53) hC dX4_rot_52 (x := nI (i.toNatClampNeg)) rfl rfl ?_
        refine vv_addN (x := 8 * (24 * a.toNatClampNeg + s.toNatClampNeg)) (y := i.toNatClampNeg) (q := 54) hC dX4_rot_53 rfl ?_
        refine vv_istore (L' := [(0, .ref (Y.2.1 (0))), (1, .int (nI (a.toNatClampNeg))), (2, .int (nI (s.toNatClampNeg))), (3, .int (nI (i.toNatClampNeg))), (4, .int (x)), (5, .int (nI ((8 * (24 * a.toNatClampNeg + s.toNatClampNeg)) + i.toNatClampNeg)))]) (q := 56) hC dX4_rot_54 (by decide) rfl rfl rfl ?_
        refine vv_aload_n (q := 57) hC dX4_rot_56 (x := Y.2.1 (0)) rfl rfl ?_
        refine pm_gM (q := 60) hY hC 2 hi_X4 hf_words (by decide) rfl (v := .ref (Y.2.1 (1))) rfl dX4_rot_57 rfl ?_
        refine vv_iload (q := 62) hC dX4_rot_60 (x := nI ((8 * (24 * a.toNatClampNeg + s.toNatClampNeg)) + i.toNatClampNeg)) rfl rfl ?_
        refine vv_dup2 (q := 63) hC dX4_rot_62 rfl rfl rfl ?_
        refine pm_ld_words (q := 64) hY hC (i := (8 * (24 * a.toNatClampNeg + s.toNatClampNeg)) + i.toNatClampNeg) (by omega) dX4_rot_63 rfl ?_
        refine vv_iload (q := 66) hC dX4_rot_64 (x := x) rfl rfl ?_
        refine vv_ixor (x := σ 1 ((8 * (24 * a.toNatClampNeg + s.toNatClampNeg)) + i.toNatClampNeg)) (y := x) (q := 67) hC dX4_rot_66 rfl ?_
        refine pm_st_words (q := 68) hY hC (i := (8 * (24 * a.toNatClampNeg + s.toNatClampNeg)) + i.toNatClampNeg) (x := (σ 1 ((8 * (24 * a.toNatClampNeg + s.toNatClampNeg)) + i.toNatClampNeg)) ^^^ x) (by omega) dX4_rot_67 rfl ?_
        refine vv_aload_n (q := 69) hC dX4_rot_68 (x := Y.2.1 (0)) rfl rfl ?_
        refine pm_gM (q := 72) hY hC 2 hi_X4 hf_words (by decide) rfl (v := .ref (Y.2.1 (1))) rfl dX4_rot_69 rfl ?_
        refine vv_iload (q := 74) hC dX4_rot_72 (x := nI ((8 * (24 * a.toNatClampNeg + s.toNatClampNeg)) + i.toNatClampNeg)) rfl rfl ?_
        refine pm_ld_words (q := 75) hY hC (i := (8 * (24 * a.toNatClampNeg + s.toNatClampNeg)) + i.toNatClampNeg) (by omega) dX4_rot_74 rfl ?_
        refine vv_top (y := σ 1 (8 * (24 * a.toNatClampNeg + s.toNatClampNeg) + i.toNatClampNeg) ^^^ x) (by rw [vv_up_s, vv_upd_s]) ?_
        refine vv_iret (v := σ 1 (8 * (24 * a.toNatClampNeg + s.toNatClampNeg) + i.toNatClampNeg) ^^^ x) hC dX4_rot_75 ?_
        rw [hp]
        unfold pm_rot
        rw [if_pos ⟨c_13, c_25, c_37⟩]
        exact ⟨rfl, rfl⟩
      · refine vv_bipush (q := 42) hC ((-101)) dX4_rot_40 (by decide) rfl ?_
        refine vv_iret (v := (-101)) hC dX4_rot_42 ?_
        rw [hp]
        unfold pm_rot
        rw [if_neg (fun z => c_37 z.2.2)]
        exact ⟨rfl, rfl⟩
set_option maxRecDepth 100000 in
set_option maxHeartbeats 4000000 in
theorem cm_X4_cut (l : Launch) (Y : vv_Y) (n : Nat) (hY : pm_sys Y n) (σ : vv_S) (x : Int32) (t : Int32) : vv_M l Y yX4_cut wsX4_cut { frames := 1, cells := 0, slots := 0, locals := 25 } [.ref (Y.2.1 (0)), .int (x), .int (t)] σ (vv_R (.int ((pm_cut σ x t).1)) ((pm_cut σ x t).2)) := by
  refine vv_M.of (cc := cX4_cut) (maxL := 3) (ret := (some .int)) hY.ok (by decide) rfl (Nat.le_of_ble_eq_true rfl) ?_
  intro Z hl hp hC
  subst hl
  have hi_X4 : ∀ w ∈ u_ws RX4 TX4 25, w ∈ wsX4_cut := by decide +kernel
  have hf_down : Cond.fieldLink RX4 103 "ParityRowModel" (TX4 18).2.1 (TX4 18).2.2.1 ∈ wsX4_cut := by decide +kernel
  have hf_cut : Cond.fieldLink RX4 57 "ParityRowModel" (TX4 19).2.1 (TX4 19).2.2.1 ∈ wsX4_cut := by decide +kernel
  have hf_tear : Cond.fieldLink RX4 114 "ParityRowModel" (TX4 20).2.1 (TX4 20).2.2.1 ∈ wsX4_cut := by decide +kernel
  have hlo := hY.lo
  have hhi := hY.hi
  refine vv_loc (L' := [(0, .ref (Y.2.1 (0))), (1, .int (x)), (2, .int (t))]) rfl ?_
  refine vv_aload_n (q := 1) hC dX4_cut_0 (x := Y.2.1 (0)) rfl rfl ?_
  refine pm_gM (q := 4) hY hC 18 hi_X4 hf_down (by decide) rfl (v := .int (σ 0 18)) rfl dX4_cut_1 rfl ?_
  refine vv_if_eq (x := σ 0 18) (q := 7) (tgt := 10) hC dX4_cut_4 (by decide) rfl (fun c_4 => ?_) (fun c_4 => ?_)
  · refine vv_iload_n (q := 11) hC dX4_cut_10 (x := x) rfl rfl ?_
    refine vv_i2l (q := 12) hC (x.toInt64) dX4_cut_11 rfl rfl ?_
    refine vv_ldc2 (v := (-1)) (q := 15) hC (by decide +kernel) dX4_cut_12 rfl ?_
    refine vv_ldc2 (v := 1000) (q := 18) hC (by decide +kernel) dX4_cut_15 rfl ?_
    refine vv_callS (n := 3) (As := [.long (x.toInt64), .long ((-1)), .long (1000)]) (st := []) (q := 21) hC (cm_X4_in _ Y n hY σ x.toInt64 ((-1)) 1000 ) gX4_cut_X4_in rfl (by decide +kernel) dX4_cut_18 rfl rfl rfl (vv_kR ?_)
    refine vv_top (y := vv_B (pc_isc x)) (vv_B_congr pm_inc) ?_
    refine vv_ifB_eq (b := pc_isc x) (q := 24) (tgt := 36) hC dX4_cut_21 (by decide) rfl (fun c_21 => ?_) (fun c_21 => ?_)
    · refine vv_bipush (q := 38) hC ((-102)) dX4_cut_36 (by decide) rfl ?_
      refine vv_iret (v := (-102)) hC dX4_cut_38 ?_
      rw [hp]
      unfold pm_cut
      rw [if_pos c_4, if_neg (fun z => c_21 z.1)]
      exact ⟨rfl, rfl⟩
    · refine vv_iload_n (q := 25) hC dX4_cut_24 (x := t) rfl rfl ?_
      refine vv_i2l (q := 26) hC (t.toInt64) dX4_cut_25 rfl rfl ?_
      refine vv_lconst (q := 27) hC (lN 0) dX4_cut_26 rfl rfl ?_
      refine vv_ldc2 (v := 8) (q := 30) hC (by decide +kernel) dX4_cut_27 rfl ?_
      refine vv_callS (n := 3) (As := [.long (t.toInt64), .long (lN 0), .long (8)]) (st := []) (q := 33) hC (cm_X4_in _ Y n hY σ t.toInt64 (lN 0) 8 ) gX4_cut_X4_in rfl (by decide +kernel) dX4_cut_30 rfl rfl rfl (vv_kR ?_)
      refine vv_top (y := vv_B (¬ t < 0 ∧ t < nI 9)) (vv_B_congr (by rw [show (8 : Int64) = lN 8 from rfl, pm_in0 (by omega)])) ?_
      refine vv_ifB_ne (b := ¬ t < 0 ∧ t < nI 9) (q := 36) (tgt := 39) hC dX4_cut_33 (by decide) rfl (fun c_33 => ?_) (fun c_33 => ?_)
      · refine vv_aload_n (q := 40) hC dX4_cut_39 (x := Y.2.1 (0)) rfl rfl ?_
        refine vv_iload_n (q := 41) hC dX4_cut_40 (x := x) rfl rfl ?_
        refine pm_pM (q := 44) hY hC 19 hi_X4 hf_cut (by decide) rfl rfl (x := x) (ty := .int) (by decide +kernel) rfl rfl (fun _ => rfl) dX4_cut_41 rfl ?_
        refine vv_aload_n (q := 45) hC dX4_cut_44 (x := Y.2.1 (0)) rfl rfl ?_
        refine vv_iload_n (q := 46) hC dX4_cut_45 (x := t) rfl rfl ?_
        refine pm_pM (q := 49) hY hC 20 hi_X4 hf_tear (by decide) rfl rfl (x := t) (ty := .int) (by decide +kernel) rfl rfl (fun _ => rfl) dX4_cut_46 rfl ?_
        refine vv_iconst (q := 50) hC (nI 1) dX4_cut_49 (by decide) rfl ?_
        refine vv_iret (v := nI (1)) hC dX4_cut_50 ?_
        rw [hp]
        unfold pm_cut
        rw [if_pos c_4, if_pos ⟨c_21, c_33⟩]
        exact ⟨rfl, rfl⟩
      · refine vv_bipush (q := 38) hC ((-102)) dX4_cut_36 (by decide) rfl ?_
        refine vv_iret (v := (-102)) hC dX4_cut_38 ?_
        rw [hp]
        unfold pm_cut
        rw [if_pos c_4, if_neg (fun z => c_33 z.2)]
        exact ⟨rfl, rfl⟩
  · refine vv_bipush (q := 9) hC ((-100)) dX4_cut_7 (by decide) rfl ?_
    refine vv_iret (v := (-100)) hC dX4_cut_9 ?_
    rw [hp]
    unfold pm_cut
    rw [if_neg c_4]
    exact ⟨rfl, rfl⟩
set_option maxRecDepth 100000 in
set_option maxHeartbeats 4000000 in
theorem cm_X4_chunk (l : Launch) (Y : vv_Y) (n : Nat) (hY : pm_sys Y n) (σ : vv_S) (a : Int32) (s : Int32) (i : Int32) : vv_M l Y yX4_chunk wsX4_chunk { frames := 2, cells := 0, slots := 0, locals := 46 } [.ref (Y.2.1 (0)), .int (a), .int (s), .int (i)] σ (vv_R (.int (pm_chunk σ n a s i)) σ) := by
  refine vv_M.of (cc := cX4_chunk) (maxL := 5) (ret := (some .int)) hY.ok (by decide) rfl (Nat.le_of_ble_eq_true rfl) ?_
  intro Z hl hp hC
  subst hl
  have hi_X4 : ∀ w ∈ u_ws RX4 TX4 25, w ∈ wsX4_chunk := by decide +kernel
  have hf_many : Cond.fieldLink RX4 69 "ParityRowModel" (TX4 1).2.1 (TX4 1).2.2.1 ∈ wsX4_chunk := by decide +kernel
  have hf_torn : Cond.fieldLink RX4 20 "ParityRowModel" (TX4 4).2.1 (TX4 4).2.2.1 ∈ wsX4_chunk := by decide +kernel
  have hf_sums : Cond.fieldLink RX4 17 "ParityRowModel" (TX4 3).2.1 (TX4 3).2.2.1 ∈ wsX4_chunk := by decide +kernel
  have hf_words : Cond.fieldLink RX4 13 "ParityRowModel" (TX4 2).2.1 (TX4 2).2.2.1 ∈ wsX4_chunk := by decide +kernel
  have hlo := hY.lo
  have hhi := hY.hi
  refine vv_loc (L' := [(0, .ref (Y.2.1 (0))), (1, .int (a)), (2, .int (s)), (3, .int (i))]) rfl ?_
  refine vv_iload_n (q := 1) hC dX4_chunk_0 (x := a) rfl rfl ?_
  refine vv_i2l (q := 2) hC (a.toInt64) dX4_chunk_1 rfl rfl ?_
  refine vv_lconst (q := 3) hC (lN 0) dX4_chunk_2 rfl rfl ?_
  refine vv_aload_n (q := 4) hC dX4_chunk_3 (x := Y.2.1 (0)) rfl rfl ?_
  refine pm_gM (q := 7) hY hC 1 hi_X4 hf_many (by decide) rfl (v := .int (nI (n))) rfl dX4_chunk_4 rfl ?_
  refine vv_iconst (q := 8) hC (nI 1) dX4_chunk_7 (by decide) rfl ?_
  refine vv_subN (x := n) (y := 1) (q := 9) hC dX4_chunk_8 (by omega) rfl ?_
  refine vv_i2l (q := 10) hC ((nI (n - 1)).toInt64) dX4_chunk_9 rfl rfl ?_
  refine vv_callS (n := 3) (As := [.long (a.toInt64), .long (lN 0), .long ((nI (n - 1)).toInt64)]) (st := []) (q := 13) hC (cm_X4_in _ Y n hY σ a.toInt64 (lN 0) ((nI (n - 1)).toInt64) ) gX4_chunk_X4_in rfl (by decide +kernel) dX4_chunk_10 rfl rfl rfl (vv_kR ?_)
  refine vv_top (y := vv_B (pc_ism n a)) (vv_B_congr (by rw [pm_l (by omega), pm_in0 (by omega), show n - 1 + 1 = n by omega])) ?_
  refine vv_ifB_eq (b := pc_ism n a) (q := 16) (tgt := 28) hC dX4_chunk_13 (by decide) rfl (fun c_13 => ?_) (fun c_13 => ?_)
  · refine vv_bipush (q := 30) hC ((-101)) dX4_chunk_28 (by decide) rfl ?_
    refine vv_iret (v := (-101)) hC dX4_chunk_30 ?_
    rw [hp]
    unfold pm_chunk
    rw [if_neg (fun z => c_13 z.1)]
    exact ⟨rfl, rfl⟩
  · refine vv_iload_n (q := 17) hC dX4_chunk_16 (x := s) rfl rfl ?_
    refine vv_i2l (q := 18) hC (s.toInt64) dX4_chunk_17 rfl rfl ?_
    refine vv_lconst (q := 19) hC (lN 0) dX4_chunk_18 rfl rfl ?_
    refine vv_ldc2 (v := 23) (q := 22) hC (by decide +kernel) dX4_chunk_19 rfl ?_
    refine vv_callS (n := 3) (As := [.long (s.toInt64), .long (lN 0), .long (23)]) (st := []) (q := 25) hC (cm_X4_in _ Y n hY σ s.toInt64 (lN 0) 23 ) gX4_chunk_X4_in rfl (by decide +kernel) dX4_chunk_22 rfl rfl rfl (vv_kR ?_)
    refine vv_top (y := vv_B (¬ s < 0 ∧ s < nI 24)) (vv_B_congr (by rw [show (23 : Int64) = lN 23 from rfl, pm_in0 (by omega)])) ?_
    refine vv_ifB_ne (b := ¬ s < 0 ∧ s < nI 24) (q := 28) (tgt := 31) hC dX4_chunk_25 (by decide) rfl (fun c_25 => ?_) (fun c_25 => ?_)
    · have hn_a := pc_nat (b := a) (N := n) c_13 (by omega)
      have hn_s := pc_nat (b := s) (N := 24) c_25 (by omega)
      have q1 := hn_a.2
      have q2 := hn_s.2
      refine vv_loc (L' := [(0, .ref (Y.2.1 (0))), (1, .int (nI (a.toNatClampNeg))), (2, .int (nI (s.toNatClampNeg))), (3, .int (i))]) (by rw [← hn_a.1, ← hn_s.1]) ?_
      refine vv_aload_n (q := 32) hC dX4_chunk_31 (x := Y.2.1 (0)) rfl rfl ?_
      refine vv_iload_n (q := 33) hC dX4_chunk_32 (x := nI (a.toNatClampNeg)) rfl rfl ?_
      refine vv_iload_n (q := 34) hC dX4_chunk_33 (x := nI (s.toNatClampNeg)) rfl rfl ?_
      refine vv_callV (n := 2) (k := 0) (As := [.int (nI (a.toNatClampNeg)), .int (nI (s.toNatClampNeg))]) (st := []) (q := 37) hC (hY.k (by decide)) (hY.M _) (by rw [hY.cl]; rfl) (cm_X4_at _ Y n hY σ a.toNatClampNeg s.toNatClampNeg ) gX4_chunk_X4_at rfl (by decide +kernel) dX4_chunk_34 rfl rfl rfl (vv_kR ?_)
      refine vv_istore (L' := [(0, .ref (Y.2.1 (0))), (1, .int (nI (a.toNatClampNeg))), (2, .int (nI (s.toNatClampNeg))), (3, .int (i)), (4, .int (nI (24 * a.toNatClampNeg + s.toNatClampNeg)))]) (q := 39) hC dX4_chunk_37 (by decide) rfl rfl rfl ?_
      refine vv_iload_n (q := 40) hC dX4_chunk_39 (x := i) rfl rfl ?_
      refine vv_i2l (q := 41) hC (i.toInt64) dX4_chunk_40 rfl rfl ?_
      refine vv_lconst (q := 42) hC (lN 0) dX4_chunk_41 rfl rfl ?_
      refine vv_ldc2 (v := 7) (q := 45) hC (by decide +kernel) dX4_chunk_42 rfl ?_
      refine vv_callS (n := 3) (As := [.long (i.toInt64), .long (lN 0), .long (7)]) (st := []) (q := 48) hC (cm_X4_in _ Y n hY σ i.toInt64 (lN 0) 7 ) gX4_chunk_X4_in rfl (by decide +kernel) dX4_chunk_45 rfl rfl rfl (vv_kR ?_)
      refine vv_top (y := vv_B (¬ i < 0 ∧ i < nI 8)) (vv_B_congr (by rw [show (7 : Int64) = lN 7 from rfl, pm_in0 (by omega)])) ?_
      refine vv_ifB_eq (b := ¬ i < 0 ∧ i < nI 8) (q := 51) (tgt := 64) hC dX4_chunk_48 (by decide) rfl (fun c_48 => ?_) (fun c_48 => ?_)
      · refine vv_iload_n (q := 65) hC dX4_chunk_64 (x := i) rfl rfl ?_
        refine vv_bipush (q := 67) hC (nI 8) dX4_chunk_65 (by decide) rfl ?_
        refine vv_icmp_ne (x := i) (y := nI (8)) (q := 70) (tgt := 80) hC dX4_chunk_67 (by decide) rfl (fun c_67 => ?_) (fun c_67 => ?_)
        · refine vv_iload_n (q := 81) hC dX4_chunk_80 (x := i) rfl rfl ?_
          refine vv_bipush (q := 83) hC (nI 9) dX4_chunk_81 (by decide) rfl ?_
          refine vv_icmp_ne (x := i) (y := nI (9)) (q := 86) (tgt := 104) hC dX4_chunk_83 (by decide) rfl (fun c_83 => ?_) (fun c_83 => ?_)
          · refine vv_iload_n (q := 105) hC dX4_chunk_104 (x := i) rfl rfl ?_
            refine vv_bipush (q := 107) hC (nI 10) dX4_chunk_105 (by decide) rfl ?_
            refine vv_icmp_ne (x := i) (y := nI (10)) (q := 110) (tgt := 127) hC dX4_chunk_107 (by decide) rfl (fun c_107 => ?_) (fun c_107 => ?_)
            · refine vv_bipush (q := 129) hC ((-102)) dX4_chunk_127 (by decide) rfl ?_
              refine vv_iret (v := (-102)) hC dX4_chunk_129 ?_
              rw [hp]
              unfold pm_chunk
              rw [if_pos ⟨c_13, c_25⟩, if_neg c_48, if_neg c_67, if_neg c_83, if_neg c_107]
              exact ⟨rfl, rfl⟩
            · refine vv_aload_n (q := 111) hC dX4_chunk_110 (x := Y.2.1 (0)) rfl rfl ?_
              refine vv_iload_n (q := 112) hC dX4_chunk_111 (x := nI (a.toNatClampNeg)) rfl rfl ?_
              refine vv_iload_n (q := 113) hC dX4_chunk_112 (x := nI (s.toNatClampNeg)) rfl rfl ?_
              refine vv_callV (n := 2) (k := 0) (As := [.int (nI (a.toNatClampNeg)), .int (nI (s.toNatClampNeg))]) (st := []) (q := 116) hC (hY.k (by decide)) (hY.M _) (by rw [hY.cl]; rfl) (cm_X4_isThere _ Y n hY σ a.toNatClampNeg s.toNatClampNeg (by omega) (by omega)) gX4_chunk_X4_isThere rfl (by decide +kernel) dX4_chunk_113 rfl rfl rfl (vv_kR ?_)
              refine vv_ifB_eq (b := pm_there σ a.toNatClampNeg s.toNatClampNeg) (q := 119) (tgt := 123) hC dX4_chunk_116 (by decide) rfl (fun c_116 => ?_) (fun c_116 => ?_)
              · refine vv_iconst (q := 124) hC (nI 0) dX4_chunk_123 (by decide) rfl ?_
                refine vv_goto (tgt := 129) hC dX4_chunk_124 (by decide) ?_
                refine vv_iret (v := nI (0)) hC dX4_chunk_129 ?_
                rw [hp]
                unfold pm_chunk
                rw [if_pos ⟨c_13, c_25⟩, if_neg c_48, if_neg c_67, if_neg c_83, if_pos c_107, if_neg c_116]
                exact ⟨rfl, rfl⟩
              · refine vv_iconst (q := 120) hC (nI 1) dX4_chunk_119 (by decide) rfl ?_
                refine vv_goto (tgt := 129) hC dX4_chunk_120 (by decide) ?_
                refine vv_iret (v := nI (1)) hC dX4_chunk_129 ?_
                rw [hp]
                unfold pm_chunk
                rw [if_pos ⟨c_13, c_25⟩, if_neg c_48, if_neg c_67, if_neg c_83, if_pos c_107, if_pos c_116]
                exact ⟨rfl, rfl⟩
          · refine vv_aload_n (q := 87) hC dX4_chunk_86 (x := Y.2.1 (0)) rfl rfl ?_
            refine pm_gM (q := 90) hY hC 4 hi_X4 hf_torn (by decide) rfl (v := .ref (Y.2.1 (3))) rfl dX4_chunk_87 rfl ?_
            refine vv_iload (q := 92) hC dX4_chunk_90 (x := nI (24 * a.toNatClampNeg + s.toNatClampNeg)) rfl rfl ?_
            refine pm_ld_torn (q := 93) hY hC (i := 24 * a.toNatClampNeg + s.toNatClampNeg) (by omega) dX4_chunk_92 rfl ?_
            refine vv_if_eq (x := σ 3 (24 * a.toNatClampNeg + s.toNatClampNeg)) (q := 96) (tgt := 100) hC dX4_chunk_93 (by decide) rfl (fun c_93 => ?_) (fun c_93 => ?_)
            · refine vv_iconst (q := 101) hC (nI 0) dX4_chunk_100 (by decide) rfl ?_
              refine vv_goto (tgt := 129) hC dX4_chunk_101 (by decide) ?_
              refine vv_iret (v := nI (0)) hC dX4_chunk_129 ?_
              rw [hp]
              unfold pm_chunk
              rw [if_pos ⟨c_13, c_25⟩, if_neg c_48, if_neg c_67, if_pos c_83, if_pos c_93]
              exact ⟨rfl, rfl⟩
            · refine vv_iconst (q := 97) hC (nI 1) dX4_chunk_96 (by decide) rfl ?_
              refine vv_goto (tgt := 129) hC dX4_chunk_97 (by decide) ?_
              refine vv_iret (v := nI (1)) hC dX4_chunk_129 ?_
              rw [hp]
              unfold pm_chunk
              rw [if_pos ⟨c_13, c_25⟩, if_neg c_48, if_neg c_67, if_pos c_83, if_neg c_93]
              exact ⟨rfl, rfl⟩
        · refine vv_aload_n (q := 71) hC dX4_chunk_70 (x := Y.2.1 (0)) rfl rfl ?_
          refine pm_gM (q := 74) hY hC 3 hi_X4 hf_sums (by decide) rfl (v := .ref (Y.2.1 (2))) rfl dX4_chunk_71 rfl ?_
          refine vv_iload (q := 76) hC dX4_chunk_74 (x := nI (24 * a.toNatClampNeg + s.toNatClampNeg)) rfl rfl ?_
          refine pm_ld_sums (q := 77) hY hC (i := 24 * a.toNatClampNeg + s.toNatClampNeg) (by omega) dX4_chunk_76 rfl ?_
          refine vv_goto (tgt := 129) hC dX4_chunk_77 (by decide) ?_
          refine vv_iret (v := σ 2 (24 * a.toNatClampNeg + s.toNatClampNeg)) hC dX4_chunk_129 ?_
          rw [hp]
          unfold pm_chunk
          rw [if_pos ⟨c_13, c_25⟩, if_neg c_48, if_pos c_67]
          exact ⟨rfl, rfl⟩
      · have hn_i := pc_nat (b := i) (N := 8) c_48 (by omega)
        have q3 := hn_i.2
        refine vv_loc (L' := [(0, .ref (Y.2.1 (0))), (1, .int (nI (a.toNatClampNeg))), (2, .int (nI (s.toNatClampNeg))), (3, .int (nI (i.toNatClampNeg))), (4, .int (nI (24 * a.toNatClampNeg + s.toNatClampNeg)))]) (by rw [← hn_i.1]) ?_
        refine vv_aload_n (q := 52) hC dX4_chunk_51 (x := Y.2.1 (0)) rfl rfl ?_
        refine pm_gM (q := 55) hY hC 2 hi_X4 hf_words (by decide) rfl (v := .ref (Y.2.1 (1))) rfl dX4_chunk_52 rfl ?_
        refine vv_bipush (q := 57) hC (nI 8) dX4_chunk_55 (by decide) rfl ?_
        refine vv_iload (q := 59) hC dX4_chunk_57 (x := nI (24 * a.toNatClampNeg + s.toNatClampNeg)) rfl rfl ?_
        refine vv_mulN (x := 8) (y := 24 * a.toNatClampNeg + s.toNatClampNeg) (q := 60) hC dX4_chunk_59 rfl ?_
        refine vv_iload_n (q := 61) hC dX4_chunk_60 (x := nI (i.toNatClampNeg)) rfl rfl ?_
        refine vv_addN (x := 8 * (24 * a.toNatClampNeg + s.toNatClampNeg)) (y := i.toNatClampNeg) (q := 62) hC dX4_chunk_61 rfl ?_
        refine pm_ld_words (q := 63) hY hC (i := (8 * (24 * a.toNatClampNeg + s.toNatClampNeg)) + i.toNatClampNeg) (by omega) dX4_chunk_62 rfl ?_
        refine vv_iret (v := σ 1 ((8 * (24 * a.toNatClampNeg + s.toNatClampNeg)) + i.toNatClampNeg)) hC dX4_chunk_63 ?_
        rw [hp]
        unfold pm_chunk
        rw [if_pos ⟨c_13, c_25⟩, if_pos c_48]
        exact ⟨rfl, rfl⟩
    · refine vv_bipush (q := 30) hC ((-101)) dX4_chunk_28 (by decide) rfl ?_
      refine vv_iret (v := (-101)) hC dX4_chunk_30 ?_
      rw [hp]
      unfold pm_chunk
      rw [if_neg (fun z => c_25 z.2)]
      exact ⟨rfl, rfl⟩
set_option maxRecDepth 100000 in
set_option maxHeartbeats 4000000 in
theorem cm_X4_member (l : Launch) (Y : vv_Y) (n : Nat) (hY : pm_sys Y n) (σ : vv_S) (a : Int32) (x : Int32) : vv_M l Y yX4_member wsX4_member { frames := 1, cells := 0, slots := 0, locals := 25 } [.ref (Y.2.1 (0)), .int (a), .int (x)] σ (vv_R (.int (pm_member σ n a x)) σ) := by
  refine vv_M.of (cc := cX4_member) (maxL := 3) (ret := (some .int)) hY.ok (by decide) rfl (Nat.le_of_ble_eq_true rfl) ?_
  intro Z hl hp hC
  subst hl
  have hi_X4 : ∀ w ∈ u_ws RX4 TX4 25, w ∈ wsX4_member := by decide +kernel
  have hf_many : Cond.fieldLink RX4 69 "ParityRowModel" (TX4 1).2.1 (TX4 1).2.2.1 ∈ wsX4_member := by decide +kernel
  have hf_writes : Cond.fieldLink RX4 30 "ParityRowModel" (TX4 7).2.1 (TX4 7).2.2.1 ∈ wsX4_member := by decide +kernel
  have hf_state : Cond.fieldLink RX4 24 "ParityRowModel" (TX4 5).2.1 (TX4 5).2.2.1 ∈ wsX4_member := by decide +kernel
  have hf_built : Cond.fieldLink RX4 27 "ParityRowModel" (TX4 6).2.1 (TX4 6).2.2.1 ∈ wsX4_member := by decide +kernel
  have hlo := hY.lo
  have hhi := hY.hi
  refine vv_loc (L' := [(0, .ref (Y.2.1 (0))), (1, .int (a)), (2, .int (x))]) rfl ?_
  refine vv_iload_n (q := 1) hC dX4_member_0 (x := a) rfl rfl ?_
  refine vv_i2l (q := 2) hC (a.toInt64) dX4_member_1 rfl rfl ?_
  refine vv_lconst (q := 3) hC (lN 0) dX4_member_2 rfl rfl ?_
  refine vv_aload_n (q := 4) hC dX4_member_3 (x := Y.2.1 (0)) rfl rfl ?_
  refine pm_gM (q := 7) hY hC 1 hi_X4 hf_many (by decide) rfl (v := .int (nI (n))) rfl dX4_member_4 rfl ?_
  refine vv_iconst (q := 8) hC (nI 1) dX4_member_7 (by decide) rfl ?_
  refine vv_subN (x := n) (y := 1) (q := 9) hC dX4_member_8 (by omega) rfl ?_
  refine vv_i2l (q := 10) hC ((nI (n - 1)).toInt64) dX4_member_9 rfl rfl ?_
  refine vv_callS (n := 3) (As := [.long (a.toInt64), .long (lN 0), .long ((nI (n - 1)).toInt64)]) (st := []) (q := 13) hC (cm_X4_in _ Y n hY σ a.toInt64 (lN 0) ((nI (n - 1)).toInt64) ) gX4_member_X4_in rfl (by decide +kernel) dX4_member_10 rfl rfl rfl (vv_kR ?_)
  refine vv_top (y := vv_B (pc_ism n a)) (vv_B_congr (by rw [pm_l (by omega), pm_in0 (by omega), show n - 1 + 1 = n by omega])) ?_
  refine vv_ifB_ne (b := pc_ism n a) (q := 16) (tgt := 19) hC dX4_member_13 (by decide) rfl (fun c_13 => ?_) (fun c_13 => ?_)
  · have hn_a := pc_nat (b := a) (N := n) c_13 (by omega)
    have q1 := hn_a.2
    refine vv_loc (L' := [(0, .ref (Y.2.1 (0))), (1, .int (nI (a.toNatClampNeg))), (2, .int (x))]) (by rw [← hn_a.1]) ?_
    refine vv_iload_n (q := 20) hC dX4_member_19 (x := x) rfl rfl ?_
    refine vv_if_ne (x := x) (q := 23) (tgt := 32) hC dX4_member_20 (by decide) rfl (fun c_20 => ?_) (fun c_20 => ?_)
    · refine vv_iload_n (q := 33) hC dX4_member_32 (x := x) rfl rfl ?_
      refine vv_iconst (q := 34) hC (nI 1) dX4_member_33 (by decide) rfl ?_
      refine vv_icmp_ne (x := x) (y := nI (1)) (q := 37) (tgt := 74) hC dX4_member_34 (by decide) rfl (fun c_34 => ?_) (fun c_34 => ?_)
      · refine vv_iload_n (q := 75) hC dX4_member_74 (x := x) rfl rfl ?_
        refine vv_iconst (q := 76) hC (nI 2) dX4_member_75 (by decide) rfl ?_
        refine vv_icmp_ne (x := x) (y := nI (2)) (q := 79) (tgt := 88) hC dX4_member_76 (by decide) rfl (fun c_76 => ?_) (fun c_76 => ?_)
        · refine vv_bipush (q := 90) hC ((-102)) dX4_member_88 (by decide) rfl ?_
          refine vv_iret (v := (-102)) hC dX4_member_90 ?_
          rw [hp]
          unfold pm_member
          rw [if_pos c_13, if_neg c_20, if_neg c_34, if_neg c_76]
          exact ⟨rfl, rfl⟩
        · refine vv_aload_n (q := 80) hC dX4_member_79 (x := Y.2.1 (0)) rfl rfl ?_
          refine pm_gM (q := 83) hY hC 7 hi_X4 hf_writes (by decide) rfl (v := .ref (Y.2.1 (6))) rfl dX4_member_80 rfl ?_
          refine vv_iload_n (q := 84) hC dX4_member_83 (x := nI (a.toNatClampNeg)) rfl rfl ?_
          refine pm_ld_writes (q := 85) hY hC (i := a.toNatClampNeg) (by omega) dX4_member_84 rfl ?_
          refine vv_goto (tgt := 90) hC dX4_member_85 (by decide) ?_
          refine vv_iret (v := σ 6 a.toNatClampNeg) hC dX4_member_90 ?_
          rw [hp]
          unfold pm_member
          rw [if_pos c_13, if_neg c_20, if_neg c_34, if_pos c_76]
          exact ⟨rfl, rfl⟩
      · refine vv_aload_n (q := 38) hC dX4_member_37 (x := Y.2.1 (0)) rfl rfl ?_
        refine pm_gM (q := 41) hY hC 5 hi_X4 hf_state (by decide) rfl (v := .ref (Y.2.1 (4))) rfl dX4_member_38 rfl ?_
        refine vv_iload_n (q := 42) hC dX4_member_41 (x := nI (a.toNatClampNeg)) rfl rfl ?_
        refine pm_ld_state (q := 43) hY hC (i := a.toNatClampNeg) (by omega) dX4_member_42 rfl ?_
        refine vv_if_ne (x := σ 4 a.toNatClampNeg) (q := 46) (tgt := 51) hC dX4_member_43 (by decide) rfl (fun c_43 => ?_) (fun c_43 => ?_)
        · refine vv_aload_n (q := 52) hC dX4_member_51 (x := Y.2.1 (0)) rfl rfl ?_
          refine pm_gM (q := 55) hY hC 5 hi_X4 hf_state (by decide) rfl (v := .ref (Y.2.1 (4))) rfl dX4_member_52 rfl ?_
          refine vv_iload_n (q := 56) hC dX4_member_55 (x := nI (a.toNatClampNeg)) rfl rfl ?_
          refine pm_ld_state (q := 57) hY hC (i := a.toNatClampNeg) (by omega) dX4_member_56 rfl ?_
          refine vv_iconst (q := 58) hC (nI 2) dX4_member_57 (by decide) rfl ?_
          refine vv_icmp_ne (x := σ 4 a.toNatClampNeg) (y := nI (2)) (q := 61) (tgt := 70) hC dX4_member_58 (by decide) rfl (fun c_58 => ?_) (fun c_58 => ?_)
          · refine vv_iconst (q := 71) hC (nI 0) dX4_member_70 (by decide) rfl ?_
            refine vv_goto (tgt := 90) hC dX4_member_71 (by decide) ?_
            refine vv_iret (v := nI (0)) hC dX4_member_90 ?_
            rw [hp]
            unfold pm_member
            rw [if_pos c_13, if_neg c_20, if_pos c_34, if_neg c_43, if_neg c_58]
            exact ⟨rfl, rfl⟩
          · refine vv_aload_n (q := 62) hC dX4_member_61 (x := Y.2.1 (0)) rfl rfl ?_
            refine pm_gM (q := 65) hY hC 6 hi_X4 hf_built (by decide) rfl (v := .ref (Y.2.1 (5))) rfl dX4_member_62 rfl ?_
            refine vv_iload_n (q := 66) hC dX4_member_65 (x := nI (a.toNatClampNeg)) rfl rfl ?_
            refine pm_ld_built (q := 67) hY hC (i := a.toNatClampNeg) (by omega) dX4_member_66 rfl ?_
            refine vv_goto (tgt := 90) hC dX4_member_67 (by decide) ?_
            refine vv_iret (v := σ 5 a.toNatClampNeg) hC dX4_member_90 ?_
            rw [hp]
            unfold pm_member
            rw [if_pos c_13, if_neg c_20, if_pos c_34, if_neg c_43, if_pos c_58]
            exact ⟨rfl, rfl⟩
        · refine vv_bipush (q := 48) hC (nI 24) dX4_member_46 (by decide) rfl ?_
          refine vv_goto (tgt := 90) hC dX4_member_48 (by decide) ?_
          refine vv_iret (v := nI (24)) hC dX4_member_90 ?_
          rw [hp]
          unfold pm_member
          rw [if_pos c_13, if_neg c_20, if_pos c_34, if_pos c_43]
          exact ⟨rfl, rfl⟩
    · refine vv_aload_n (q := 24) hC dX4_member_23 (x := Y.2.1 (0)) rfl rfl ?_
      refine pm_gM (q := 27) hY hC 5 hi_X4 hf_state (by decide) rfl (v := .ref (Y.2.1 (4))) rfl dX4_member_24 rfl ?_
      refine vv_iload_n (q := 28) hC dX4_member_27 (x := nI (a.toNatClampNeg)) rfl rfl ?_
      refine pm_ld_state (q := 29) hY hC (i := a.toNatClampNeg) (by omega) dX4_member_28 rfl ?_
      refine vv_goto (tgt := 90) hC dX4_member_29 (by decide) ?_
      refine vv_iret (v := σ 4 a.toNatClampNeg) hC dX4_member_90 ?_
      rw [hp]
      unfold pm_member
      rw [if_pos c_13, if_pos c_20]
      exact ⟨rfl, rfl⟩
  · refine vv_bipush (q := 18) hC ((-101)) dX4_member_16 (by decide) rfl ?_
    refine vv_iret (v := (-101)) hC dX4_member_18 ?_
    rw [hp]
    unfold pm_member
    rw [if_neg c_13]
    exact ⟨rfl, rfl⟩
set_option maxRecDepth 100000 in
set_option maxHeartbeats 4000000 in
theorem cm_X4_journal (l : Launch) (Y : vv_Y) (n : Nat) (hY : pm_sys Y n) (σ : vv_S) (r : Nat) (x : Int32) (hr : σ 0 8 = nI r) (hr10 : r ≤ 15) : vv_M l Y yX4_journal wsX4_journal { frames := 2, cells := 0, slots := 0, locals := 45 } [.ref (Y.2.1 (0)), .int (x)] σ (vv_R (.int (pm_journal σ n r x)) σ) := by
  refine vv_M.of (cc := cX4_journal) (maxL := 2) (ret := (some .int)) hY.ok (by decide) rfl (Nat.le_of_ble_eq_true rfl) ?_
  intro Z hl hp hC
  subst hl
  have hi_X4 : ∀ w ∈ u_ws RX4 TX4 25, w ∈ wsX4_journal := by decide +kernel
  have hf_down : Cond.fieldLink RX4 103 "ParityRowModel" (TX4 18).2.1 (TX4 18).2.2.1 ∈ wsX4_journal := by decide +kernel
  have hf_records : Cond.fieldLink RX4 120 "ParityRowModel" (TX4 8).2.1 (TX4 8).2.2.1 ∈ wsX4_journal := by decide +kernel
  have hf_nextSerial : Cond.fieldLink RX4 54 "ParityRowModel" (TX4 17).2.1 (TX4 17).2.2.1 ∈ wsX4_journal := by decide +kernel
  have hf_markCell : Cond.fieldLink RX4 117 "ParityRowModel" (TX4 15).2.1 (TX4 15).2.2.1 ∈ wsX4_journal := by decide +kernel
  have hf_markSerial : Cond.fieldLink RX4 51 "ParityRowModel" (TX4 16).2.1 (TX4 16).2.2.1 ∈ wsX4_journal := by decide +kernel
  have hlo := hY.lo
  have hhi := hY.hi
  refine vv_loc (L' := [(0, .ref (Y.2.1 (0))), (1, .int (x))]) rfl ?_
  refine vv_iload_n (q := 1) hC dX4_journal_0 (x := x) rfl rfl ?_
  by_cases s_1_0 : x = 0
  · refine vv_tabIn (x := x) (tgt := 36) hC dX4_journal_1 (by rw [s_1_0]; decide) (by rw [s_1_0]; decide) (by rw [s_1_0]; rfl) (by decide) ?_
    refine vv_aload_n (q := 37) hC dX4_journal_36 (x := Y.2.1 (0)) rfl rfl ?_
    refine pm_gM (q := 40) hY hC 18 hi_X4 hf_down (by decide) rfl (v := .int (σ 0 18)) rfl dX4_journal_37 rfl ?_
    refine vv_if_eq (x := σ 0 18) (q := 43) (tgt := 48) hC dX4_journal_40 (by decide) rfl (fun c_40 => ?_) (fun c_40 => ?_)
    · refine vv_aload_n (q := 49) hC dX4_journal_48 (x := Y.2.1 (0)) rfl rfl ?_
      refine vv_callV (n := 0) (k := 0) (As := []) (st := []) (q := 52) hC (hY.k (by decide)) (hY.M _) (by rw [hY.cl]; rfl) (cm_X4_free _ Y n hY σ r hr hr10) gX4_journal_X4_free rfl (by decide +kernel) dX4_journal_49 rfl rfl rfl (vv_kR ?_)
      refine vv_iret (v := pm_fr σ n r) hC dX4_journal_52 ?_
      rw [hp]
      unfold pm_journal
      rw [if_pos s_1_0, if_pos c_40]
      exact ⟨rfl, rfl⟩
    · refine vv_bipush (q := 45) hC (nI 32) dX4_journal_43 (by decide) rfl ?_
      refine vv_goto (tgt := 52) hC dX4_journal_45 (by decide) ?_
      refine vv_iret (v := nI (32)) hC dX4_journal_52 ?_
      rw [hp]
      unfold pm_journal
      rw [if_pos s_1_0, if_neg c_40]
      exact ⟨rfl, rfl⟩
  by_cases s_1_1 : x = 1
  · refine vv_tabIn (x := x) (tgt := 53) hC dX4_journal_1 (by rw [s_1_1]; decide) (by rw [s_1_1]; decide) (by rw [s_1_1]; rfl) (by decide) ?_
    refine vv_aload_n (q := 54) hC dX4_journal_53 (x := Y.2.1 (0)) rfl rfl ?_
    refine pm_gM (q := 57) hY hC 18 hi_X4 hf_down (by decide) rfl (v := .int (σ 0 18)) rfl dX4_journal_54 rfl ?_
    refine vv_if_eq (x := σ 0 18) (q := 60) (tgt := 64) hC dX4_journal_57 (by decide) rfl (fun c_57 => ?_) (fun c_57 => ?_)
    · refine vv_aload_n (q := 65) hC dX4_journal_64 (x := Y.2.1 (0)) rfl rfl ?_
      refine pm_gM (q := 68) hY hC 8 hi_X4 hf_records (by decide) rfl (v := .int (σ 0 8)) rfl dX4_journal_65 rfl ?_
      refine vv_iret (v := σ 0 8) hC dX4_journal_68 ?_
      rw [hp]
      unfold pm_journal
      rw [if_neg s_1_0, if_pos s_1_1, if_pos c_57]
      exact ⟨rfl, rfl⟩
    · refine vv_iconst (q := 61) hC (nI 0) dX4_journal_60 (by decide) rfl ?_
      refine vv_goto (tgt := 68) hC dX4_journal_61 (by decide) ?_
      refine vv_iret (v := nI (0)) hC dX4_journal_68 ?_
      rw [hp]
      unfold pm_journal
      rw [if_neg s_1_0, if_pos s_1_1, if_neg c_57]
      exact ⟨rfl, rfl⟩
  by_cases s_1_2 : x = 2
  · refine vv_tabIn (x := x) (tgt := 69) hC dX4_journal_1 (by rw [s_1_2]; decide) (by rw [s_1_2]; decide) (by rw [s_1_2]; rfl) (by decide) ?_
    refine vv_aload_n (q := 70) hC dX4_journal_69 (x := Y.2.1 (0)) rfl rfl ?_
    refine pm_gM (q := 73) hY hC 18 hi_X4 hf_down (by decide) rfl (v := .int (σ 0 18)) rfl dX4_journal_70 rfl ?_
    refine vv_if_eq (x := σ 0 18) (q := 76) (tgt := 80) hC dX4_journal_73 (by decide) rfl (fun c_73 => ?_) (fun c_73 => ?_)
    · refine vv_aload_n (q := 81) hC dX4_journal_80 (x := Y.2.1 (0)) rfl rfl ?_
      refine pm_gM (q := 84) hY hC 17 hi_X4 hf_nextSerial (by decide) rfl (v := .int (σ 0 17)) rfl dX4_journal_81 rfl ?_
      refine vv_iret (v := σ 0 17) hC dX4_journal_84 ?_
      rw [hp]
      unfold pm_journal
      rw [if_neg s_1_0, if_neg s_1_1, if_pos s_1_2, if_pos c_73]
      exact ⟨rfl, rfl⟩
    · refine vv_iconst (q := 77) hC (nI 0) dX4_journal_76 (by decide) rfl ?_
      refine vv_goto (tgt := 84) hC dX4_journal_77 (by decide) ?_
      refine vv_iret (v := nI (0)) hC dX4_journal_84 ?_
      rw [hp]
      unfold pm_journal
      rw [if_neg s_1_0, if_neg s_1_1, if_pos s_1_2, if_neg c_73]
      exact ⟨rfl, rfl⟩
  by_cases s_1_3 : x = 3
  · refine vv_tabIn (x := x) (tgt := 85) hC dX4_journal_1 (by rw [s_1_3]; decide) (by rw [s_1_3]; decide) (by rw [s_1_3]; rfl) (by decide) ?_
    refine vv_aload_n (q := 86) hC dX4_journal_85 (x := Y.2.1 (0)) rfl rfl ?_
    refine pm_gM (q := 89) hY hC 15 hi_X4 hf_markCell (by decide) rfl (v := .int (σ 0 15)) rfl dX4_journal_86 rfl ?_
    refine vv_iret (v := σ 0 15) hC dX4_journal_89 ?_
    rw [hp]
    unfold pm_journal
    rw [if_neg s_1_0, if_neg s_1_1, if_neg s_1_2, if_pos s_1_3]
    exact ⟨rfl, rfl⟩
  by_cases s_1_4 : x = 4
  · refine vv_tabIn (x := x) (tgt := 90) hC dX4_journal_1 (by rw [s_1_4]; decide) (by rw [s_1_4]; decide) (by rw [s_1_4]; rfl) (by decide) ?_
    refine vv_aload_n (q := 91) hC dX4_journal_90 (x := Y.2.1 (0)) rfl rfl ?_
    refine pm_gM (q := 94) hY hC 16 hi_X4 hf_markSerial (by decide) rfl (v := .int (σ 0 16)) rfl dX4_journal_91 rfl ?_
    refine vv_iret (v := σ 0 16) hC dX4_journal_94 ?_
    rw [hp]
    unfold pm_journal
    rw [if_neg s_1_0, if_neg s_1_1, if_neg s_1_2, if_neg s_1_3, if_pos s_1_4]
    exact ⟨rfl, rfl⟩
  refine vv_tabOut (x := x) (tgt := 95) hC dX4_journal_1 (vv_swOut 0 5 (fun j hj => by rcases (show j = 0 ∨ j = 1 ∨ j = 2 ∨ j = 3 ∨ j = 4 by omega) with rfl | rfl | rfl | rfl | rfl <;> first | exact vv_swNe s_1_0 (by decide) | exact vv_swNe s_1_1 (by decide) | exact vv_swNe s_1_2 (by decide) | exact vv_swNe s_1_3 (by decide) | exact vv_swNe s_1_4 (by decide)) rfl) (by decide) ?_
  refine vv_bipush (q := 97) hC ((-102)) dX4_journal_95 (by decide) rfl ?_
  refine vv_iret (v := (-102)) hC dX4_journal_97 ?_
  rw [hp]
  unfold pm_journal
  rw [if_neg s_1_0, if_neg s_1_1, if_neg s_1_2, if_neg s_1_3, if_neg s_1_4]
  exact ⟨rfl, rfl⟩
set_option maxRecDepth 100000 in
set_option maxHeartbeats 4000000 in
theorem cm_X4_record (l : Launch) (Y : vv_Y) (n : Nat) (hY : pm_sys Y n) (σ : vv_S) (r : Nat) (k : Int32) (x : Int32) (hr : σ 0 8 = nI r) (hr10 : r ≤ 15) : vv_M l Y yX4_record wsX4_record { frames := 1, cells := 0, slots := 0, locals := 25 } [.ref (Y.2.1 (0)), .int (k), .int (x)] σ (vv_R (.int (pm_record σ r k x)) σ) := by
  refine vv_M.of (cc := cX4_record) (maxL := 3) (ret := (some .int)) hY.ok (by decide) rfl (Nat.le_of_ble_eq_true rfl) ?_
  intro Z hl hp hC
  subst hl
  have hi_X4 : ∀ w ∈ u_ws RX4 TX4 25, w ∈ wsX4_record := by decide +kernel
  have hf_down : Cond.fieldLink RX4 103 "ParityRowModel" (TX4 18).2.1 (TX4 18).2.2.1 ∈ wsX4_record := by decide +kernel
  have hf_records : Cond.fieldLink RX4 120 "ParityRowModel" (TX4 8).2.1 (TX4 8).2.2.1 ∈ wsX4_record := by decide +kernel
  have hf_ways : Cond.fieldLink RX4 45 "ParityRowModel" (TX4 13).2.1 (TX4 13).2.2.1 ∈ wsX4_record := by decide +kernel
  have hf_serials : Cond.fieldLink RX4 36 "ParityRowModel" (TX4 10).2.1 (TX4 10).2.2.1 ∈ wsX4_record := by decide +kernel
  have hf_hasParity : Cond.fieldLink RX4 42 "ParityRowModel" (TX4 12).2.1 (TX4 12).2.2.1 ∈ wsX4_record := by decide +kernel
  have hf_bits : Cond.fieldLink RX4 39 "ParityRowModel" (TX4 11).2.1 (TX4 11).2.2.1 ∈ wsX4_record := by decide +kernel
  have hf_stripes : Cond.fieldLink RX4 33 "ParityRowModel" (TX4 9).2.1 (TX4 9).2.2.1 ∈ wsX4_record := by decide +kernel
  have hlo := hY.lo
  have hhi := hY.hi
  refine vv_loc (L' := [(0, .ref (Y.2.1 (0))), (1, .int (k)), (2, .int (x))]) rfl ?_
  refine vv_aload_n (q := 1) hC dX4_record_0 (x := Y.2.1 (0)) rfl rfl ?_
  refine pm_gM (q := 4) hY hC 18 hi_X4 hf_down (by decide) rfl (v := .int (σ 0 18)) rfl dX4_record_1 rfl ?_
  refine vv_if_ne (x := σ 0 18) (q := 7) (tgt := 23) hC dX4_record_4 (by decide) rfl (fun c_4 => ?_) (fun c_4 => ?_)
  · refine vv_bipush (q := 25) hC ((-101)) dX4_record_23 (by decide) rfl ?_
    refine vv_iret (v := (-101)) hC dX4_record_25 ?_
    rw [hp]
    unfold pm_record
    rw [if_neg (fun z => c_4 z.1)]
    exact ⟨rfl, rfl⟩
  · refine vv_iload_n (q := 8) hC dX4_record_7 (x := k) rfl rfl ?_
    refine vv_i2l (q := 9) hC (k.toInt64) dX4_record_8 rfl rfl ?_
    refine vv_lconst (q := 10) hC (lN 0) dX4_record_9 rfl rfl ?_
    refine vv_aload_n (q := 11) hC dX4_record_10 (x := Y.2.1 (0)) rfl rfl ?_
    refine pm_gM (q := 14) hY hC 8 hi_X4 hf_records (by decide) rfl (v := .int (σ 0 8)) rfl dX4_record_11 rfl ?_
    refine vv_top (y := nI (r)) (hr) ?_
    refine vv_iconst (q := 15) hC (nI 1) dX4_record_14 (by decide) rfl ?_
    refine vv_isub (x := nI (r)) (y := nI (1)) (q := 16) hC dX4_record_15 rfl ?_
    refine vv_i2l (q := 17) hC (((nI (r)) - (nI (1))).toInt64) dX4_record_16 rfl rfl ?_
    refine vv_callS (n := 3) (As := [.long (k.toInt64), .long (lN 0), .long (((nI (r)) - (nI (1))).toInt64)]) (st := []) (q := 20) hC (cm_X4_in _ Y n hY σ k.toInt64 (lN 0) (((nI (r)) - (nI (1))).toInt64) ) gX4_record_X4_in rfl (by decide +kernel) dX4_record_17 rfl rfl rfl (vv_kR ?_)
    refine vv_top (y := vv_B (¬ k < 0 ∧ k < nI r)) (vv_B_congr (pm_inr hr10)) ?_
    refine vv_ifB_ne (b := ¬ k < 0 ∧ k < nI r) (q := 23) (tgt := 26) hC dX4_record_20 (by decide) rfl (fun c_20 => ?_) (fun c_20 => ?_)
    · have hn_k := pc_nat (b := k) (N := r) c_20 (by omega)
      have q1 := hn_k.2
      refine vv_loc (L' := [(0, .ref (Y.2.1 (0))), (1, .int (nI (k.toNatClampNeg))), (2, .int (x))]) (by rw [← hn_k.1]) ?_
      refine vv_iload_n (q := 27) hC dX4_record_26 (x := x) rfl rfl ?_
      refine vv_if_ne (x := x) (q := 30) (tgt := 39) hC dX4_record_27 (by decide) rfl (fun c_27 => ?_) (fun c_27 => ?_)
      · refine vv_iload_n (q := 40) hC dX4_record_39 (x := x) rfl rfl ?_
        refine vv_iconst (q := 41) hC (nI 1) dX4_record_40 (by decide) rfl ?_
        refine vv_icmp_ne (x := x) (y := nI (1)) (q := 44) (tgt := 53) hC dX4_record_41 (by decide) rfl (fun c_41 => ?_) (fun c_41 => ?_)
        · refine vv_iload_n (q := 54) hC dX4_record_53 (x := x) rfl rfl ?_
          refine vv_iconst (q := 55) hC (nI 2) dX4_record_54 (by decide) rfl ?_
          refine vv_icmp_ne (x := x) (y := nI (2)) (q := 58) (tgt := 75) hC dX4_record_55 (by decide) rfl (fun c_55 => ?_) (fun c_55 => ?_)
          · refine vv_iload_n (q := 76) hC dX4_record_75 (x := x) rfl rfl ?_
            refine vv_iconst (q := 77) hC (nI 3) dX4_record_76 (by decide) rfl ?_
            refine vv_icmp_ne (x := x) (y := nI (3)) (q := 80) (tgt := 89) hC dX4_record_77 (by decide) rfl (fun c_77 => ?_) (fun c_77 => ?_)
            · refine vv_iload_n (q := 90) hC dX4_record_89 (x := x) rfl rfl ?_
              refine vv_iconst (q := 91) hC (nI 4) dX4_record_90 (by decide) rfl ?_
              refine vv_icmp_ne (x := x) (y := nI (4)) (q := 94) (tgt := 103) hC dX4_record_91 (by decide) rfl (fun c_91 => ?_) (fun c_91 => ?_)
              · refine vv_bipush (q := 105) hC ((-102)) dX4_record_103 (by decide) rfl ?_
                refine vv_iret (v := (-102)) hC dX4_record_105 ?_
                rw [hp]
                unfold pm_record
                rw [if_pos ⟨c_4, c_20⟩, if_neg c_27, if_neg c_41, if_neg c_55, if_neg c_77, if_neg c_91]
                exact ⟨rfl, rfl⟩
              · refine vv_aload_n (q := 95) hC dX4_record_94 (x := Y.2.1 (0)) rfl rfl ?_
                refine pm_gM (q := 98) hY hC 13 hi_X4 hf_ways (by decide) rfl (v := .ref (Y.2.1 (11))) rfl dX4_record_95 rfl ?_
                refine vv_iload_n (q := 99) hC dX4_record_98 (x := nI (k.toNatClampNeg)) rfl rfl ?_
                refine pm_ld_ways (q := 100) hY hC (i := k.toNatClampNeg) (by omega) dX4_record_99 rfl ?_
                refine vv_goto (tgt := 105) hC dX4_record_100 (by decide) ?_
                refine vv_iret (v := σ 11 k.toNatClampNeg) hC dX4_record_105 ?_
                rw [hp]
                unfold pm_record
                rw [if_pos ⟨c_4, c_20⟩, if_neg c_27, if_neg c_41, if_neg c_55, if_neg c_77, if_pos c_91]
                exact ⟨rfl, rfl⟩
            · refine vv_aload_n (q := 81) hC dX4_record_80 (x := Y.2.1 (0)) rfl rfl ?_
              refine pm_gM (q := 84) hY hC 10 hi_X4 hf_serials (by decide) rfl (v := .ref (Y.2.1 (8))) rfl dX4_record_81 rfl ?_
              refine vv_iload_n (q := 85) hC dX4_record_84 (x := nI (k.toNatClampNeg)) rfl rfl ?_
              refine pm_ld_serials (q := 86) hY hC (i := k.toNatClampNeg) (by omega) dX4_record_85 rfl ?_
              refine vv_goto (tgt := 105) hC dX4_record_86 (by decide) ?_
              refine vv_iret (v := σ 8 k.toNatClampNeg) hC dX4_record_105 ?_
              rw [hp]
              unfold pm_record
              rw [if_pos ⟨c_4, c_20⟩, if_neg c_27, if_neg c_41, if_neg c_55, if_pos c_77]
              exact ⟨rfl, rfl⟩
          · refine vv_aload_n (q := 59) hC dX4_record_58 (x := Y.2.1 (0)) rfl rfl ?_
            refine pm_gM (q := 62) hY hC 12 hi_X4 hf_hasParity (by decide) rfl (v := .ref (Y.2.1 (10))) rfl dX4_record_59 rfl ?_
            refine vv_iload_n (q := 63) hC dX4_record_62 (x := nI (k.toNatClampNeg)) rfl rfl ?_
            refine pm_ld_hasParity (q := 64) hY hC (i := k.toNatClampNeg) (by omega) dX4_record_63 rfl ?_
            refine vv_if_eq (x := σ 10 k.toNatClampNeg) (q := 67) (tgt := 71) hC dX4_record_64 (by decide) rfl (fun c_64 => ?_) (fun c_64 => ?_)
            · refine vv_iconst (q := 72) hC (nI 0) dX4_record_71 (by decide) rfl ?_
              refine vv_goto (tgt := 105) hC dX4_record_72 (by decide) ?_
              refine vv_iret (v := nI (0)) hC dX4_record_105 ?_
              rw [hp]
              unfold pm_record
              rw [if_pos ⟨c_4, c_20⟩, if_neg c_27, if_neg c_41, if_pos c_55, if_pos c_64]
              exact ⟨rfl, rfl⟩
            · refine vv_iconst (q := 68) hC (nI 1) dX4_record_67 (by decide) rfl ?_
              refine vv_goto (tgt := 105) hC dX4_record_68 (by decide) ?_
              refine vv_iret (v := nI (1)) hC dX4_record_105 ?_
              rw [hp]
              unfold pm_record
              rw [if_pos ⟨c_4, c_20⟩, if_neg c_27, if_neg c_41, if_pos c_55, if_neg c_64]
              exact ⟨rfl, rfl⟩
        · refine vv_aload_n (q := 45) hC dX4_record_44 (x := Y.2.1 (0)) rfl rfl ?_
          refine pm_gM (q := 48) hY hC 11 hi_X4 hf_bits (by decide) rfl (v := .ref (Y.2.1 (9))) rfl dX4_record_45 rfl ?_
          refine vv_iload_n (q := 49) hC dX4_record_48 (x := nI (k.toNatClampNeg)) rfl rfl ?_
          refine pm_ld_bits (q := 50) hY hC (i := k.toNatClampNeg) (by omega) dX4_record_49 rfl ?_
          refine vv_goto (tgt := 105) hC dX4_record_50 (by decide) ?_
          refine vv_iret (v := σ 9 k.toNatClampNeg) hC dX4_record_105 ?_
          rw [hp]
          unfold pm_record
          rw [if_pos ⟨c_4, c_20⟩, if_neg c_27, if_pos c_41]
          exact ⟨rfl, rfl⟩
      · refine vv_aload_n (q := 31) hC dX4_record_30 (x := Y.2.1 (0)) rfl rfl ?_
        refine pm_gM (q := 34) hY hC 9 hi_X4 hf_stripes (by decide) rfl (v := .ref (Y.2.1 (7))) rfl dX4_record_31 rfl ?_
        refine vv_iload_n (q := 35) hC dX4_record_34 (x := nI (k.toNatClampNeg)) rfl rfl ?_
        refine pm_ld_stripes (q := 36) hY hC (i := k.toNatClampNeg) (by omega) dX4_record_35 rfl ?_
        refine vv_goto (tgt := 105) hC dX4_record_36 (by decide) ?_
        refine vv_iret (v := σ 7 k.toNatClampNeg) hC dX4_record_105 ?_
        rw [hp]
        unfold pm_record
        rw [if_pos ⟨c_4, c_20⟩, if_pos c_27]
        exact ⟨rfl, rfl⟩
    · refine vv_bipush (q := 25) hC ((-101)) dX4_record_23 (by decide) rfl ?_
      refine vv_iret (v := (-101)) hC dX4_record_25 ?_
      rw [hp]
      unfold pm_record
      rw [if_neg (fun z => c_20 z.2)]
      exact ⟨rfl, rfl⟩
set_option maxRecDepth 100000 in
set_option maxHeartbeats 4000000 in
theorem cm_X4_count (l : Launch) (Y : vv_Y) (n : Nat) (hY : pm_sys Y n) (σ : vv_S) (x : Int32) : vv_M l Y yX4_count wsX4_count { frames := 1, cells := 0, slots := 0, locals := 25 } [.ref (Y.2.1 (0)), .int (x)] σ (vv_R (.int (pm_count σ x)) σ) := by
  refine vv_M.of (cc := cX4_count) (maxL := 2) (ret := (some .int)) hY.ok (by decide) rfl (Nat.le_of_ble_eq_true rfl) ?_
  intro Z hl hp hC
  subst hl
  have hi_X4 : ∀ w ∈ u_ws RX4 TX4 25, w ∈ wsX4_count := by decide +kernel
  have hf_counts : Cond.fieldLink RX4 60 "ParityRowModel" (TX4 22).2.1 (TX4 22).2.2.1 ∈ wsX4_count := by decide +kernel
  have hlo := hY.lo
  have hhi := hY.hi
  refine vv_loc (L' := [(0, .ref (Y.2.1 (0))), (1, .int (x))]) rfl ?_
  refine vv_iload_n (q := 1) hC dX4_count_0 (x := x) rfl rfl ?_
  refine vv_i2l (q := 2) hC (x.toInt64) dX4_count_1 rfl rfl ?_
  refine vv_lconst (q := 3) hC (lN 0) dX4_count_2 rfl rfl ?_
  refine vv_ldc2 (v := 12) (q := 6) hC (by decide +kernel) dX4_count_3 rfl ?_
  refine vv_callS (n := 3) (As := [.long (x.toInt64), .long (lN 0), .long (12)]) (st := []) (q := 9) hC (cm_X4_in _ Y n hY σ x.toInt64 (lN 0) 12 ) gX4_count_X4_in rfl (by decide +kernel) dX4_count_6 rfl rfl rfl (vv_kR ?_)
  refine vv_top (y := vv_B (¬ x < 0 ∧ x < nI 13)) (vv_B_congr (by rw [show (12 : Int64) = lN 12 from rfl, pm_in0 (by omega)])) ?_
  refine vv_ifB_eq (b := ¬ x < 0 ∧ x < nI 13) (q := 12) (tgt := 21) hC dX4_count_9 (by decide) rfl (fun c_9 => ?_) (fun c_9 => ?_)
  · refine vv_bipush (q := 23) hC ((-102)) dX4_count_21 (by decide) rfl ?_
    refine vv_iret (v := (-102)) hC dX4_count_23 ?_
    rw [hp]
    unfold pm_count
    rw [if_neg c_9]
    exact ⟨rfl, rfl⟩
  · have hn_x := pc_nat (b := x) (N := 13) c_9 (by omega)
    refine vv_loc (L' := [(0, .ref (Y.2.1 (0))), (1, .int (nI (x.toNatClampNeg)))]) (by rw [← hn_x.1]) ?_
    refine vv_aload_n (q := 13) hC dX4_count_12 (x := Y.2.1 (0)) rfl rfl ?_
    refine pm_gM (q := 16) hY hC 22 hi_X4 hf_counts (by decide) rfl (v := .ref (Y.2.1 (13))) rfl dX4_count_13 rfl ?_
    refine vv_iload_n (q := 17) hC dX4_count_16 (x := nI (x.toNatClampNeg)) rfl rfl ?_
    refine pm_ld_counts (q := 18) hY hC (i := x.toNatClampNeg) hn_x.2 dX4_count_17 rfl ?_
    refine vv_goto (tgt := 23) hC dX4_count_18 (by decide) ?_
    refine vv_iret (v := σ 13 x.toNatClampNeg) hC dX4_count_23 ?_
    rw [hp]
    unfold pm_count
    rw [if_pos c_9]
    exact ⟨rfl, rfl⟩
set_option maxRecDepth 100000 in
set_option maxHeartbeats 4000000 in
theorem cm_X4_audit (l : Launch) (Y : vv_Y) (n : Nat) (hY : pm_sys Y n) (σ : vv_S) : vv_M l Y yX4_audit wsX4_audit { frames := 3, cells := 0, slots := 0, locals := 70 } [.ref (Y.2.1 (0))] σ (vv_R (.int (nI (pm_aud σ n 24))) σ) := by
  refine vv_M.of (cc := cX4_audit) (maxL := 3) (ret := (some .int)) hY.ok (by decide) rfl (Nat.le_of_ble_eq_true rfl) ?_
  intro Z hl hp hC
  subst hl
  have hlo := hY.lo
  have hhi := hY.hi
  refine vv_loc (L' := [(0, .ref (Y.2.1 (0)))]) rfl ?_
  refine vv_iconst (q := 1) hC (nI 0) dX4_audit_0 (by decide) rfl ?_
  refine vv_istore_n (L' := [(0, .ref (Y.2.1 (0))), (1, .int (nI (0)))]) (q := 2) hC dX4_audit_1 (by decide) rfl rfl rfl ?_
  refine vv_iconst (q := 3) hC (nI 0) dX4_audit_2 (by decide) rfl ?_
  refine vv_istore_n (L' := [(0, .ref (Y.2.1 (0))), (1, .int (nI (0))), (2, .int (nI (0)))]) (q := 4) hC dX4_audit_3 (by decide) rfl rfl rfl ?_
  have lp_4 : ∀ s : Nat, (s ≤ 24) → vv_V Y 3 Z σ 4 [(0, .ref (Y.2.1 (0))), (1, .int (nI (pm_aud σ n s))), (2, .int (nI (s)))] [] := by
    refine vv_ind (fun s => 24 - s) (fun s ih_4 => ?_)
    intro hs
    refine vv_iload_n (q := 5) hC dX4_audit_4 (x := nI (s)) rfl rfl ?_
    refine vv_bipush (q := 7) hC (nI 24) dX4_audit_5 (by decide) rfl ?_
    refine vv_icmpN_ge (x := s) (y := 24) (q := 10) (tgt := 41) hC dX4_audit_7 (by decide) (by omega) (by omega) rfl (fun c_7 => ?_) (fun c_7 => ?_)
    · refine vv_iload_n (q := 42) hC dX4_audit_41 (x := nI (pm_aud σ n s)) rfl rfl ?_
      refine vv_iret (v := nI (pm_aud σ n s)) hC dX4_audit_42 ?_
      rw [hp]
      have es : s = 24 := by omega
      subst es
      exact ⟨rfl, rfl⟩
    · refine vv_iload_n (q := 11) hC dX4_audit_10 (x := nI (pm_aud σ n s)) rfl rfl ?_
      refine vv_aload_n (q := 12) hC dX4_audit_11 (x := Y.2.1 (0)) rfl rfl ?_
      refine vv_iconst (q := 13) hC ((-1)) dX4_audit_12 (by decide) rfl ?_
      refine vv_iload_n (q := 14) hC dX4_audit_13 (x := nI (s)) rfl rfl ?_
      refine vv_callV (n := 2) (k := 0) (As := [.int ((-1)), .int (nI (s))]) (st := [.int (nI (pm_aud σ n s))]) (q := 17) hC (hY.k (by decide)) (hY.M _) (by rw [hY.cl]; rfl) (cm_X4_othersThere _ Y n hY σ ((-1)) s (by omega)) gX4_audit_X4_othersThere rfl (by decide +kernel) dX4_audit_14 rfl rfl rfl (vv_kR ?_)
      refine vv_ifB_eq (b := pm_oth σ n ((-1)) s) (q := 20) (tgt := 32) hC dX4_audit_17 (by decide) rfl (fun c_17 => ?_) (fun c_17 => ?_)
      · refine vv_iconst (q := 33) hC (nI 0) dX4_audit_32 (by decide) rfl ?_
        refine vv_addN (x := pm_aud σ n s) (y := 0) (q := 34) hC dX4_audit_33 rfl ?_
        refine vv_istore_n (L' := [(0, .ref (Y.2.1 (0))), (1, .int (nI ((pm_aud σ n s) + 0))), (2, .int (nI (s)))]) (q := 35) hC dX4_audit_34 (by decide) rfl rfl rfl ?_
        refine vv_iincN (x := s) (L' := [(0, .ref (Y.2.1 (0))), (1, .int (nI ((pm_aud σ n s) + 0))), (2, .int (nI (s + 1)))]) (q := 38) hC dX4_audit_35 rfl (by decide) rfl rfl rfl ?_
        refine vv_goto (tgt := 4) hC dX4_audit_38 (by decide) ?_
        refine vv_loc (L' := [(0, .ref (Y.2.1 (0))), (1, .int (nI (pm_aud σ n (s + 1)))), (2, .int (nI ((s + 1))))]) (by rw [show pm_aud σ n (s + 1) = _ from congrArg (fun z => pm_aud σ n s + z) (if_neg (fun z => c_17 z.1))]) ?_
        exact ih_4 (s + 1) (by first | omega | (dsimp only; omega))  (by omega)
      · refine vv_aload_n (q := 21) hC dX4_audit_20 (x := Y.2.1 (0)) rfl rfl ?_
        refine vv_iload_n (q := 22) hC dX4_audit_21 (x := nI (s)) rfl rfl ?_
        refine vv_callV (n := 1) (k := 0) (As := [.int (nI (s))]) (st := [.int (nI (pm_aud σ n s))]) (q := 25) hC (hY.k (by decide)) (hY.M _) (by rw [hY.cl]; rfl) (cm_X4_isEven _ Y n hY σ s (by omega)) gX4_audit_X4_isEven rfl (by decide +kernel) dX4_audit_22 rfl rfl rfl (vv_kR ?_)
        refine vv_ifB_ne (b := pm_ev σ n s) (q := 28) (tgt := 32) hC dX4_audit_25 (by decide) rfl (fun c_25 => ?_) (fun c_25 => ?_)
        · refine vv_iconst (q := 33) hC (nI 0) dX4_audit_32 (by decide) rfl ?_
          refine vv_addN (x := pm_aud σ n s) (y := 0) (q := 34) hC dX4_audit_33 rfl ?_
          refine vv_istore_n (L' := [(0, .ref (Y.2.1 (0))), (1, .int (nI ((pm_aud σ n s) + 0))), (2, .int (nI (s)))]) (q := 35) hC dX4_audit_34 (by decide) rfl rfl rfl ?_
          refine vv_iincN (x := s) (L' := [(0, .ref (Y.2.1 (0))), (1, .int (nI ((pm_aud σ n s) + 0))), (2, .int (nI (s + 1)))]) (q := 38) hC dX4_audit_35 rfl (by decide) rfl rfl rfl ?_
          refine vv_goto (tgt := 4) hC dX4_audit_38 (by decide) ?_
          refine vv_loc (L' := [(0, .ref (Y.2.1 (0))), (1, .int (nI (pm_aud σ n (s + 1)))), (2, .int (nI ((s + 1))))]) (by rw [show pm_aud σ n (s + 1) = _ from congrArg (fun z => pm_aud σ n s + z) (if_neg (fun z => z.2 c_25))]) ?_
          exact ih_4 (s + 1) (by first | omega | (dsimp only; omega))  (by omega)
        · refine vv_iconst (q := 29) hC (nI 1) dX4_audit_28 (by decide) rfl ?_
          refine vv_goto (tgt := 33) hC dX4_audit_29 (by decide) ?_
          refine vv_addN (x := pm_aud σ n s) (y := 1) (q := 34) hC dX4_audit_33 rfl ?_
          refine vv_istore_n (L' := [(0, .ref (Y.2.1 (0))), (1, .int (nI ((pm_aud σ n s) + 1))), (2, .int (nI (s)))]) (q := 35) hC dX4_audit_34 (by decide) rfl rfl rfl ?_
          refine vv_iincN (x := s) (L' := [(0, .ref (Y.2.1 (0))), (1, .int (nI ((pm_aud σ n s) + 1))), (2, .int (nI (s + 1)))]) (q := 38) hC dX4_audit_35 rfl (by decide) rfl rfl rfl ?_
          refine vv_goto (tgt := 4) hC dX4_audit_38 (by decide) ?_
          refine vv_loc (L' := [(0, .ref (Y.2.1 (0))), (1, .int (nI (pm_aud σ n (s + 1)))), (2, .int (nI ((s + 1))))]) (by rw [show pm_aud σ n (s + 1) = _ from congrArg (fun z => pm_aud σ n s + z) (if_pos ⟨c_17, c_25⟩)]) ?_
          exact ih_4 (s + 1) (by first | omega | (dsimp only; omega))  (by omega)
  exact lp_4 0 (by omega)
