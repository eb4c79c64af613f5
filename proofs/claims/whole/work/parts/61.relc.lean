/-! WRITE, alike: a stripe, the run of stripes -/
section PRRELC
variable {n : Nat} {σ ρ σ' ρ' : vv_S}
theorem pc_ws1_I {s f t : Nat} {v : Int32} (hn : n ≤ 6) (hn3 : 3 ≤ n) (hft : f ≤ t) (hs : s < 24) (h : pc_I σ) : pc_I (pc_ws1 σ n (pc_o σ) (pc_r σ) s f t v) := by
  have h2 : pc_ws1 σ n (pc_o σ) (pc_r σ) s f t v 2 = σ 2 := pc_ws1_o (by unfold pc_e; omega) (by unfold pc_e; omega)
  have ho : ∀ e, e < 11 → e ≠ pc_re (pc_o σ) (pc_r σ) → pc_ws1 σ n (pc_o σ) (pc_r σ) s f t v (pc_e e) = σ (pc_e e) := fun e _ hee => pc_ws1_o (fun z => hee (pc_e_inj z)) (by unfold pc_e; omega)
  refine ⟨pc_J_of (by rw [h2]; exact h.1.1) h.1.2.1 (by rw [h2]; exact h.1.2.2.1) h.1.2.2.2.1 (fun e he => ?_), pc_mk_A h.1 h.2 h2 ?_ ho⟩
  · by_cases hee : e = pc_re (pc_o σ) (pc_r σ)
    · rw [hee]
      exact ⟨s, hs, pc_ws1_1⟩
    · rw [ho e he hee]
      exact ⟨_, (h.1.2.2.2.2 e he).2, (h.1.2.2.2.2 e he).1⟩
  · exact pc_wl_x hn hn3 _ _ _ ⟨0, by decide, fun z => by omega, by unfold pc_bgn; rw [vv_up_s, vv_upd_s]⟩
/-- a record with its parity, on both sides -/
theorem pr_ws3 {κ : vv_S} (hn3 : 3 ≤ n) (hn : n ≤ 6) {e s X w : Nat} (hs : s < 24) (hX : X < 2 ^ (n - 1)) (hX0 : X ≠ 0) (hw : w < 4) (R : pr_Rel n σ κ) (he : e = pc_re (pc_o σ) (pc_r σ)) (hm : σ (pc_e e) 2 = nI X) (h3 : σ (pc_e e) 3 = nI w)
    (hg : ∀ d i, d < n - 1 → i < 8 → pc_bit (nI X) d → κ 15 (8 * d + i) = σ (pc_e e + 1) (d * 8 + i)) (hd : σ' = if nI w = nI 1 then σ else pc_ap σ n e (pc_o σ) (pc_r σ) s) (hI : pc_I σ') :
    pr_Rel n σ' (pm_wi κ n (pc_r σ) s (nI X) w 8) ∧ ∃ Z, Z < 2 ^ n ∧ Z ≠ 0 ∧ σ' (pc_e e) 2 = nI Z ∧ pc_cells (nI Z) = nI (pm_wc n (nI X) w) ∧ nI Z &&& pc_all n = nI X ∧ (if pc_bit (nI Z) (n - 1) then nI 1 else nI 0) = (if w = 1 then nI 0 else nI 1) ∧
      (∀ d i, d < n - 1 → i < 8 → pc_bit (nI Z) d → pm_wi κ n (pc_r σ) s (nI X) w 8 15 (8 * d + i) = σ' (pc_e e + 1) (d * 8 + i)) ∧ ∀ i, i < 8 → pc_bit (nI Z) (n - 1) → pm_wi κ n (pc_r σ) s (nI X) w 8 15 (40 + i) = σ' (pc_e e + 1) ((n - 1) * 8 + i) := by
  have hp2 : 2 ^ (n - 1) ≤ 2 ^ n := Nat.pow_le_pow_right (by decide) (by omega)
  have hp3 : 2 ^ n = 2 ^ (n - 1) + 2 ^ (n - 1) := by rw [show n = (n - 1) + 1 by omega, Nat.pow_succ, show n - 1 + 1 - 1 = n - 1 by omega]; omega
  have i15 : ∀ d i, d < n - 1 → i < 8 → pm_wi κ n (pc_r σ) s (nI X) w 8 15 (8 * d + i) = κ 15 (8 * d + i) := by
    intro d i hd hi
    unfold pm_wi
    rw [vv_row_s]
    exact if_neg (by omega)
  have p15 : ∀ i, i < 8 → pm_wi κ n (pc_r σ) s (nI X) w 8 15 (40 + i) = pm_px κ n (pc_r σ) s (nI X) w i (n - 1) := by
    intro i hi
    unfold pm_wi
    rw [vv_row_s]
    try dsimp only
    rw [if_pos (by omega), show 40 + i - 40 = i by omega]
  obtain ⟨b1, -, b3, b4⟩ := pb_h n (by omega) hn3 X hX
  by_cases hw1 : w = 1
  · subst hw1
    rw [if_pos rfl] at hd
    subst hd
    refine ⟨?_, X, by omega, hX0, hm, ?_, b3, ?_, fun d i hd hi hb => ?_, fun i hi hb => absurd hb b1⟩
    · refine R.five (fun _ _ => rfl) (fun i a b => ?_)
      by_cases h13 : i = 13
      · subst h13
        unfold pm_wi
        rw [vv_row_n (by decide)]
        unfold pm_w1
        rw [vv_up_s]
        have : pm_rd κ n (pc_r σ') s (nI X) 1 = 0 := by
          unfold pm_rd
          rw [if_neg (by omega)]
          unfold pm_rd0
          exact if_neg (fun z => absurd z.1 (by decide))
        rw [this]
        funext j
        by_cases hj : j = 3
        · rw [hj, vv_upd_s, show (nI 0 : Int32) = 0 from rfl, Int32.add_zero]
        · rw [vv_upd_n hj]
      · exact pm_wi_o h13 b
    · unfold pm_wc
      rw [if_pos rfl]
      exact b4
    · rw [if_neg b1, if_pos rfl]
    · rw [i15 d i hd hi]
      exact hg d i hd hi hb
  · have nw : ¬ nI w = nI 1 := fun z => hw1 (by have := congrArg Int32.toNatClampNeg z; rw [nI_clamp (by omega), nI_clamp (by omega)] at this; exact this)
    rw [if_neg nw] at hd
    obtain ⟨c1, c2, c3, c4⟩ := pb_o n (by omega) hn3 X hX
    have cd := fun d hd => pb_od n (by omega) hn3 X hX d hd
    have hclr : ∀ i, i ≠ 5 → pc_clr σ i = σ i := fun i hi => by unfold pc_clr; exact vv_row_n hi
    obtain ⟨q5, q4⟩ := pr_apr R hn3 hn hs hX hw hw1 hm hg (n - 1) 0 (pc_clr σ) (by omega) (fun i _ b => hclr i b) (fun i hi => by unfold pc_clr; rw [vv_row_s]; exact if_pos hi) (by
      rw [hclr 4 (by decide)]
      funext j
      by_cases hj : j = 3
      · rw [hj, vv_upd_s]
        show _ = σ 4 3 + (0 : Int32)
        rw [Int32.add_zero]
      · rw [vv_upd_n hj])
    rw [show n - 1 + 1 = n by omega] at q5 q4
    have hap : σ' = pc_aw (pc_apr n e (pc_o σ) (pc_r σ) s (pc_need n (nI w) (nI X)) n 0 (pc_clr σ)) e (n - 1) := by rw [hd]; unfold pc_ap; rw [hm, h3]
    have hao : ∀ i, i ≠ 4 → i ≠ 5 → pc_apr n e (pc_o σ) (pc_r σ) s (pc_need n (nI w) (nI X)) n 0 (pc_clr σ) i = σ i := fun i a b => by rw [pc_apr_o a b]; exact hclr i b
    generalize pc_apr n e (pc_o σ) (pc_r σ) s (pc_need n (nI w) (nI X)) n 0 (pc_clr σ) = τ at *
    have a2 : σ' (pc_e e) 2 = nI (X + 2 ^ (n - 1)) := by
      rw [hap]
      unfold pc_aw pc_or
      rw [vv_row_n (by omega), vv_up_s, vv_upd_s, hao _ (pc_e_ne (by decide)) (pc_e_ne (by decide)), hm]
      exact c4
    have a1 : σ' (pc_e e + 1) = fun j => if (n - 1) * 8 ≤ j ∧ j < (n - 1) * 8 + 8 then τ 5 (j - (n - 1) * 8) else σ (pc_e e + 1) j := by
      rw [hap]
      unfold pc_aw
      rw [vv_row_s, hao (pc_e e + 1) (by unfold pc_e; omega) (by unfold pc_e; omega)]
    have ao : ∀ i, i ≠ pc_e e → i ≠ pc_e e + 1 → σ' i = τ i := fun i a b => by
      rw [hap]
      unfold pc_aw pc_or
      rw [vv_row_n b, vv_up_n a]
    rw [c4] at c1 c2 c3 cd
    refine ⟨?_, X + 2 ^ (n - 1), by omega, by omega, a2, ?_, c2, ?_, fun d i hd hi hb => ?_, fun i hi _ => ?_⟩
    · have R4 : pr_Rel n (vv_up σ 4 3 (σ 4 3 + nI (pm_rd κ n (pc_r σ) s (nI X) w))) (pm_w1 κ n (pc_r σ) s (nI X) w) := R.tly (by decide) (by rw [R.2.1.2.2.2.2.1 3 (by decide)])
      refine R4.ne (e := e) he hI (fun i a b c => ?_) (fun i a b => ?_)
      · rw [ao i a b]
        by_cases h4 : i = 4
        · rw [h4, q4, vv_up_s]
        · rw [hao i h4 c, vv_up_n h4]
      · unfold pm_wi
        exact vv_row_n b
    · unfold pm_wc
      rw [if_neg hw1]
      exact c3
    · rw [if_pos c1, if_neg hw1]
    · rw [i15 d i hd hi, a1]
      try dsimp only
      rw [if_neg (by omega)]
      exact hg d i hd hi ((cd d hd).mp hb)
    · rw [p15 i hi, a1]
      try dsimp only
      rw [if_pos (by omega), show (n - 1) * 8 + i - (n - 1) * 8 = i by omega]
      exact (q5 i hi).symm
/-- a stripe is written -/
theorem pr_wst {κ : vv_S} (h : pr_Rel n σ ρ) (hn3 : 3 ≤ n) (hn : n ≤ 6) {e s f t X : Nat} {v : Int32} (hs : s < 24) (hft : f ≤ t) (hκ : ∀ i, i ≠ 15 → κ i = ρ i) (he : e = pc_re (pc_o σ) (pc_r σ)) (hX : X < 2 ^ (n - 1)) (hX0 : X ≠ 0)
    (hm : pc_ws1 σ n (pc_o σ) (pc_r σ) s f t v (pc_e e) 2 = nI X) (hg : ∀ d i, d < n - 1 → i < 8 → pc_bit (nI X) d → κ 15 (8 * d + i) = pc_ws1 σ n (pc_o σ) (pc_r σ) s f t v (pc_e e + 1) (d * 8 + i)) :
    pr_A n (pc_wst σ n (pc_o σ) (pc_r σ) s f t v) (pm_st κ n (pc_r σ) s (nI X)) := by
  have e11 : e < 11 := by rw [he]; exact Nat.mod_lt _ (by decide)
  have hI1 := pc_ws1_I (n := n) (s := s) (v := v) hn hn3 hft hs h.I
  have o1 : pc_ws1 σ n (pc_o σ) (pc_r σ) s f t v 2 = σ 2 := pc_ws1_o (by unfold pc_e; omega) (by unfold pc_e; omega)
  have R1 : pr_Rel n (pc_ws1 σ n (pc_o σ) (pc_r σ) s f t v) κ := h.ne he hI1 (fun i a b _ => pc_ws1_o (by rw [← he]; exact a) (by rw [← he]; exact b)) (fun i _ b => hκ i b)
  have hway := pr_way R1 hn3 hn hs hX
  rw [pc_o_row o1, pc_r_row o1] at hway
  have ew : pc_wsw σ n (pc_o σ) (pc_r σ) s f t v = pm_way κ n (pc_r σ) s (nI X) := by
    unfold pc_wsw
    rw [← he, hm]
    exact hway
  have hI2 : pc_I (pc_ws2 σ n (pc_o σ) (pc_r σ) s f t v) := ⟨(pc_ws2_J h.I.1 hs).1, pc_ws2_A hn hn3 hft h.I.1 h.I.2⟩
  have R2 : pr_Rel n (pc_ws2 σ n (pc_o σ) (pc_r σ) s f t v) κ := h.ne he hI2 (fun i a b _ => pc_ws2_o (by rw [← he]; exact a) (by rw [← he]; exact b)) (fun i _ b => hκ i b)
  have hI3 : pc_I (pc_ws3 σ n (pc_o σ) (pc_r σ) s f t v) := ⟨(pc_ws3_J h.I.1 hs).1, pc_ws3_A hn hn3 hft h.I.1 h.I.2⟩
  have o2 : pc_ws2 σ n (pc_o σ) (pc_r σ) s f t v 2 = σ 2 := (pc_ws2_J h.I.1 hs).2
  have o3 : pc_ws3 σ n (pc_o σ) (pc_r σ) s f t v 2 = σ 2 := (pc_ws3_J h.I.1 hs).2
  have e21 := pc_ws2_e (σ := σ) (n := n) (o := pc_o σ) (r := pc_r σ) (s := s) (f := f) (t := t) (v := v)
  have e31 := pc_ws3_e (σ := σ) (n := n) (o := pc_o σ) (r := pc_r σ) (s := s) (f := f) (t := t) (v := v)
  have m2 : pc_ws2 σ n (pc_o σ) (pc_r σ) s f t v (pc_e e) 2 = nI X := by unfold pc_ws2; rw [← he, vv_up_s, vv_upd_n (by decide)]; exact hm
  have w2 : pc_ws2 σ n (pc_o σ) (pc_r σ) s f t v (pc_e e + 1) = pc_ws1 σ n (pc_o σ) (pc_r σ) s f t v (pc_e e + 1) := by unfold pc_ws2; rw [← he]; exact vv_up_n (by omega)
  have hIw := pc_wst_I (n := n) (s := s) (v := v) hn hn3 hft hs h.I
  rw [← he] at e21 e31
  unfold pm_st
  unfold pc_wst at hIw ⊢
  rw [ew] at hIw ⊢
  by_cases hl : pm_way κ n (pc_r σ) s (nI X) = -1
  · rw [if_pos hl, if_pos hl]
    exact ⟨rfl, R2⟩
  · rw [if_neg hl] at hIw
    rw [if_neg hl, if_neg hl]
    rcases pm_way_or (σ := κ) (n := n) (r := pc_r σ) (s := s) (x := nI X) with z | ⟨w, hw, hwe⟩
    · exact absurd z hl
    · rw [hwe, nI_clamp (by omega)] at hIw
      rw [hwe, nI_clamp (by omega)]
      have hd3 : pc_ws3 σ n (pc_o σ) (pc_r σ) s f t v = if nI w = nI 1 then pc_ws2 σ n (pc_o σ) (pc_r σ) s f t v else pc_ap (pc_ws2 σ n (pc_o σ) (pc_r σ) s f t v) n e (pc_o (pc_ws2 σ n (pc_o σ) (pc_r σ) s f t v)) (pc_r (pc_ws2 σ n (pc_o σ) (pc_r σ) s f t v)) s := by
        rw [pc_o_row o2, pc_r_row o2]
        unfold pc_ws3
        rw [ew, hwe, ← he]
      rw [ew, hwe] at e21 e31
      obtain ⟨R3, Z, hZ, hZ0, z2, zc, za, zb, zd, zp⟩ := pr_ws3 hn3 hn hs hX hX0 (show w < 4 by omega) R2 (by rw [pc_o_row o2, pc_r_row o2]; exact he) m2 e21.2 (fun d i a b c => by rw [w2]; exact hg d i a b c) hd3 hI3
      rw [pc_r_row o2] at R3 zd zp
      have r3 : pc_r (pc_ws3 σ n (pc_o σ) (pc_r σ) s f t v) = pc_r σ := pc_r_row o3
      have oo3 : pc_o (pc_ws3 σ n (pc_o σ) (pc_r σ) s f t v) = pc_o σ := pc_o_row o3
      unfold pm_stw
      generalize pc_ws3 σ n (pc_o σ) (pc_r σ) s f t v = τ3 at *
      have D := pr_dw hn3 hn (c := pm_wc n (nI X) w) (pc_r σ) τ3 _ R3 r3
      have eq : pc_wsq τ3 (pc_o σ) (pc_r σ) = pc_tf τ3 (pc_o τ3) (pc_r σ) (nI (pm_wc n (nI X) w)) (pc_r σ) 0 := by unfold pc_wsq; rw [← he, z2, zc, oo3]
      have D' : pr_B n (pc_wsd τ3 n (pc_o σ) (pc_r σ)) (pm_sd κ n (pc_r σ) s (nI X) w) := by unfold pc_wsd pm_sd; rw [eq]; exact D
      have hq : pc_wsq τ3 (pc_o σ) (pc_r σ) ≤ pc_r τ3 := by rw [r3]; exact pc_tf_le _ 0 (Nat.zero_le _)
      have hrows : ∀ i, i < 28 → i ≠ 0 → i ≠ 2 → i ≠ 4 → (pc_wsd τ3 n (pc_o σ) (pc_r σ)).2 i = τ3 i := (pc_dr_all (n := n) _ τ3 R3.I.1 hq).2
      have h42 : (pc_wsd τ3 n (pc_o σ) (pc_r σ)).1 = true → (pc_wsd τ3 n (pc_o σ) (pc_r σ)).2 2 = pc_fj τ3 (pc_o τ3) (pc_r τ3) (pc_wsq τ3 (pc_o σ) (pc_r σ)) := (pc_dr_2 (n := n) _ τ3 R3.I.1 hq).2
      have k15 : (pm_sd κ n (pc_r σ) s (nI X) w).2 15 = pm_wi κ n (pc_r σ) s (nI X) w 8 15 := pr_dw_15 _ _
      unfold pm_sc
      rw [← D'.1]
      have D2 := D'.2
      generalize pc_wsd τ3 n (pc_o σ) (pc_r σ) = T4 at *
      generalize pm_sd κ n (pc_r σ) s (nI X) w = K4 at *
      by_cases hb : T4.1 = true
      · rw [if_pos hb] at hIw
        rw [if_pos hb, if_pos hb]
        have cn : pc_cn (T4.2 (pc_e e) 2) = pm_wc n (nI X) w := by
          rw [hrows _ (pc_e_lt e11) (pc_e_ne (by decide)) (pc_e_ne (by decide)) (pc_e_ne (by decide)), z2]
          unfold pc_cn
          rw [zc, nI_clamp]
          have := pm_nb_le (x := nI X) (d := n - 1)
          unfold pm_wc
          split <;> omega
        have C := pr_cl (n := n) (pm_wc n (nI X) w) _ _ D2
        have C' : pr_B n (pc_wsc T4.2 n e) (pm_cl n (pm_wc n (nI X) w) K4.2) := by unfold pc_wsc; rw [cn]; exact C
        have e5 : ∀ i, i < 28 → i ≠ 0 → i ≠ 4 → (pc_wsc T4.2 n e).2 i = T4.2 i := fun i a b c => pc_pcs_o a b c _ _
        have k5 : (pm_cl n (pm_wc n (nI X) w) K4.2).2 15 = K4.2 15 := pm_cl_o (by decide) (by decide) (by decide) _ _
        rw [← he] at hIw ⊢
        rw [← C'.1]
        have C2 := C'.2
        generalize pc_wsc T4.2 n e = T5 at *
        generalize pm_cl n (pm_wc n (nI X) w) K4.2 = K5 at *
        by_cases hb5 : T5.1 = true
        · rw [if_pos hb5] at hIw
          rw [if_pos hb5, if_pos hb5]
          refine ⟨rfl, ?_⟩
          have t52 := (e5 2 (by decide) (by decide) (by decide)).trans (h42 hb)
          have o5 : pc_o T5.2 = pc_re (pc_o τ3) (pc_wsq τ3 (pc_o σ) (pc_r σ)) := pc_o_eq (by rw [t52]; exact pc_fj_1 R3.I.1.1 R3.I.1.2.1 _) (Nat.mod_lt _ (by decide))
          have r5 : pc_r T5.2 = pc_r τ3 - pc_wsq τ3 (pc_o σ) (pc_r σ) := pc_r_eq (by rw [t52]; exact pc_fj_2 R3.I.1.2.2.1 _) (by have := R3.I.1.2.2.2.1; omega)
          have ee : e = pc_re (pc_o T5.2) (pc_r T5.2) := by rw [o5, r5, pc_re_re, oo3, he]; congr 1; omega
          have te : ∀ i, 6 ≤ i → i < 28 → T5.2 i = τ3 i := fun i a b => by rw [e5 i b (by omega) (by omega), hrows i b (by omega) (by omega) (by omega)]
          have t0 : T5.2 (pc_e e) = τ3 (pc_e e) := te _ (by unfold pc_e; omega) (by unfold pc_e; omega)
          have t1 : T5.2 (pc_e e + 1) = τ3 (pc_e e + 1) := te _ (by unfold pc_e; omega) (by unfold pc_e; omega)
          exact pr_am C2 hn3 hn (show w < 4 by omega) ee hIw hZ hZ0 (by rw [t0]; exact e31.1) (by rw [t0]; exact z2) (by rw [t0]; exact e31.2) za zb (fun d i a b c => by rw [t1, k5, k15]; exact zd d i a b c) (fun i a b => by rw [t1, k5, k15]; exact zp i a b)
        · rw [if_neg hb5, if_neg hb5]
          exact ⟨rfl, C2⟩
      · rw [if_neg hb, if_neg hb]
        exact ⟨rfl, D2⟩
end PRRELC
