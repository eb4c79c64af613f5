/-! SCRUB, AUDIT, alike -/
section PRREL9
variable {n : Nat} {σ ρ σ' ρ' : vv_S}
theorem pm_go_21 {v : Int32} : (∀ i, i ≠ 0 → pm_go (vv_up ρ 0 21 v) n i = pm_go ρ n i) ∧ (ρ 0 19 = 0 → pm_go (vv_up ρ 0 21 v) n 0 = pm_go ρ n 0) ∧ (¬ ρ 0 19 = 0 → pm_go (vv_up ρ 0 21 v) n 0 = upd (pm_go ρ n 0) 21 v) := by
  have c : vv_up ρ 0 21 v 0 19 = ρ 0 19 := by rw [vv_up_s, vv_upd_n (by decide)]
  have t : ∀ k, k ≠ 0 → pm_tl (vv_up ρ 0 21 v) 0 k = pm_tl ρ 0 k := by
    intro k hk
    unfold pm_tl
    by_cases e : k = 13
    · subst e; rw [vv_up_s, vv_up_s, vv_up_n (by decide)]
    · rw [vv_up_n e, vv_up_n e, vv_up_n hk]
  have t0 : pm_tl (vv_up ρ 0 21 v) 0 0 = upd (ρ 0) 21 v := by rw [pm_tl_o (by decide), vv_up_s]
  refine ⟨fun i hi => ?_, fun z => ?_, fun z => ?_⟩
  · unfold pm_go
    rw [c]
    split
    · by_cases e : i = 5
      · subst e; rw [vv_row_s, vv_row_s, vv_up_n (by decide)]
      · rw [vv_row_n e, vv_row_n e]
        unfold pm_goS
        rw [vv_up_n hi, vv_up_n hi, vv_up_n hi, vv_up_n hi, vv_up_n hi, vv_up_n hi, vv_up_n hi, vv_up_n hi, t i hi]
    · rw [vv_up_n hi, vv_up_n hi, t i hi]
  · unfold pm_go
    rw [c, if_pos z, if_pos z, vv_row_n (by decide), vv_row_n (by decide)]
    unfold pm_goS
    rw [vv_up_s, vv_up_s, vv_up_s, vv_up_s, vv_up_s, vv_up_s, vv_up_s, vv_up_s, vv_up_s, t0, pm_tl_o (by decide)]
    funext j
    by_cases e : j = 21
    · rw [e, vv_upd_s, vv_upd_s]
    · rw [vv_upd_n e, vv_upd_n e]
      by_cases e9 : j = 19
      · rw [e9, vv_upd_s, vv_upd_s]
      · rw [vv_upd_n e9, vv_upd_n e9]
        by_cases e8 : j = 18
        · rw [e8, vv_upd_s, vv_upd_s]
        · rw [vv_upd_n e8, vv_upd_n e8, vv_upd_n e9, vv_upd_n e9, vv_upd_n e]
  · unfold pm_go
    rw [c, if_neg z, if_neg z, vv_up_s, vv_up_s, t0, pm_tl_o (by decide)]
    funext j
    by_cases e : j = 21
    · rw [e, vv_upd_s, vv_upd_n (by decide), vv_upd_s]
    · by_cases e9 : j = 19
      · rw [e9, vv_upd_s, vv_upd_n (by decide), vv_upd_s]
      · rw [vv_upd_n e9, vv_upd_n e, vv_upd_n e, vv_upd_n e9]
theorem pm_ch_21s {m s t : Nat} {v : Int32} : ∀ i, i ≠ 0 → pm_ch (vv_up ρ 0 21 v) n m s t i = pm_ch ρ n m s t i := by
  have c : vv_up ρ 0 21 v 0 19 = ρ 0 19 := by rw [vv_up_s, vv_upd_n (by decide)]
  have tn : pm_tn (vv_up ρ 0 21 v) t = pm_tn ρ t := by unfold pm_tn; rw [c]
  have e1 : pm_ch (vv_up ρ 0 21 v) n m s t 1 = pm_ch ρ n m s t 1 := by rw [pm_ch_1, pm_ch_1, tn, vv_up_n (by decide), vv_up_n (by decide)]
  intro i hi
  by_cases h1 : i = 1
  · rw [h1]; exact e1
  by_cases h2 : i = 2
  · rw [h2, pm_ch_2, pm_ch_2, e1, c, vv_up_n (by decide)]
  by_cases h3 : i = 3
  · rw [h3, pm_ch_3, pm_ch_3, c, vv_up_n (by decide)]
  by_cases h6 : i = 6
  · rw [h6, pm_ch_6, pm_ch_6, vv_up_n (by decide)]
  by_cases h5 : i = 5
  · rw [h5, pm_ch_g (by decide), pm_ch_g (by decide), pm_go_21.1 5 (by decide)]
  by_cases h13 : i = 13
  · rw [h13, pm_ch_g (by decide), pm_ch_g (by decide), pm_go_21.1 13 (by decide)]
  rw [pm_ch_o hi h1 h2 h3 h5 h6 h13, pm_ch_o hi h1 h2 h3 h5 h6 h13, vv_up_n hi]
/-- which member misses its chunk, where just one does -/
theorem pc_one_not {s : Nat} (h : pc_cnt σ s n = 1) : ∃ k, k < n ∧ ¬ pc_there σ k s ∧ ∀ j, j < n → j ≠ k → pc_there σ j s := by
  have : ¬ ∀ j, j < n → pc_there σ j s := fun z => by have := (pc_cnt_0 (σ := σ) (s := s)).mpr z; omega
  have ⟨k, hk⟩ := Classical.not_forall.mp this
  have hk1 : k < n := Classical.byContradiction (fun z => hk (fun y => absurd y z))
  have hk2 : ¬ pc_there σ k s := fun z => hk (fun _ => z)
  exact ⟨k, hk1, hk2, (pc_cnt_but hk2 hk1).mp h⟩
theorem pc_fnt_is {s k : Nat} (h : ¬ pc_there σ k s) : ∀ (f m : Nat), m ≤ k → k ≤ m + f → (∀ j, m ≤ j → j < k → pc_there σ j s) → pc_fnt σ s f m = k
  | 0, m, a, b, _ => by show m = k; omega
  | f + 1, m, a, b, c => by
    unfold pc_fnt
    split
    · rename_i z
      rcases Nat.lt_or_ge m k with y | y
      · exact pc_fnt_is h f (m + 1) (by omega) (by omega) (fun j hj => c j (by omega))
      · rw [show m = k by omega] at z; exact absurd z h
    · rename_i z
      rcases Nat.lt_or_ge m k with y | y
      · exact absurd (c m (Nat.le_refl m) y) z
      · omega
theorem pm_wh_is {s k : Nat} (h : ¬ pm_there ρ k s) : ∀ (m : Nat), k < m → (∀ j, k < j → j < m → pm_there ρ j s) → pm_wh ρ s m = nI k
  | 0, a, _ => by omega
  | m + 1, a, c => by
    unfold pm_wh
    split
    · rename_i z
      rcases Nat.lt_or_ge k m with y | y
      · exact pm_wh_is h m y (fun j p q => c j p (by omega))
      · rw [show m = k by omega] at z; exact absurd z h
    · rename_i z
      rcases Nat.lt_or_ge k m with y | y
      · exact absurd (c m y (by omega)) z
      · rw [show m = k by omega]
theorem pr_wh (h : pr_dev n σ ρ) (hn3 : 3 ≤ n) {s : Nat} (hs : s < 24) (hc : pc_cnt σ s n = 1) : pm_wh ρ s n = nI (pc_fnt σ s (n - 1) 0) ∧ pc_fnt σ s (n - 1) 0 < n := by
  obtain ⟨k, hk, h1, h2⟩ := pc_one_not hc
  have e1 := pc_fnt_is h1 (n - 1) 0 (Nat.zero_le k) (by omega) (fun j _ hj => h2 j (by omega) (by omega))
  have e2 := pm_wh_is (ρ := ρ) (s := s) (k := k) (fun z => h1 ((pr_there (h.1 k hk) hs).mp z)) n hk (fun j a b => (pr_there (h.1 j b) hs).mpr (h2 j b (by omega)))
  rw [e1, e2]
  exact ⟨rfl, hk⟩
theorem pc_pox_47 {m s : Nat} : pc_pox σ n m s 4 7 = σ 4 7 := by
  unfold pc_pox pc_pch
  rw [pc_tk_o (by decide)]
  have e : ∀ τ : vv_S, pc_pw τ n 4 7 = τ 4 7 := by
    intro τ
    unfold pc_pw
    split
    · rw [pc_fb_o (by decide)]
      unfold pc_cutS pc_tl
      rw [vv_up_n (by decide), vv_up_n (by decide), vv_up_n (by decide), vv_up_s, vv_upd_n (by decide)]
    · unfold pc_tl
      rw [vv_up_n (by decide), vv_up_s, vv_upd_n (by decide)]
  rw [e, pc_xst_o (by decide)]
theorem pc_pox_06 {m s : Nat} (hc : ¬ σ 0 7 = 0) : pc_pox σ n m s 0 6 = σ 0 6 := by
  unfold pc_pox pc_pch
  rw [pc_tk_o (by decide), pc_pw_s0 (by rw [pc_xst_o (by decide)]; exact hc) (by decide), pc_xst_o (by decide)]
/-- the place of the scrub moves on, alike -/
theorem pr_mv (h : pr_Rel n σ ρ) (h6 : σ 0 6 = 0) {v : Nat} (hv : v < 24) (hi : ∀ i, i ≠ 0 → ρ' i = ρ i) (h0 : ρ' 0 = upd (ρ 0) 21 (nI v)) : pr_Rel n (vv_up σ 0 9 (nI v)) ρ' := by
  refine pr_obj h ?_ (fun i hi => vv_up_n hi) hi (fun j a b => by rw [h0, vv_upd_n (by omega)])
  obtain ⟨h1, h2, h3, h4, h5, h6', h7, h8⟩ := h.2.1
  unfold pr_num
  rw [h0, hi 13 (by decide), vv_up_s, vv_up_n (show 4 ≠ 0 by decide)]
  exact ⟨h1, h2, h3, rfl, h5, h6', ⟨v, hv, rfl, fun z => absurd h6 z⟩, h8⟩
/-- one stripe is scrubbed -/
theorem pr_sst (h : pr_Rel n σ ρ) (hn3 : 3 ≤ n) (hn : n ≤ 6) {z : Nat} (hz : z < 24) (h6 : σ 0 6 = 0) :
    (pm_sw (pm_s0 ρ n z) n z = -1 → (pc_sst σ n z).1 = true ∧ pr_Rel n (vv_up (pc_sst σ n z).2 0 9 (nI ((z + 1) % 24))) (pm_s0 ρ n z) ∧ (pc_sst σ n z).2 4 7 = σ 4 7 ∧ (pc_sst σ n z).2 0 6 = 0) ∧
    (¬ pm_sw (pm_s0 ρ n z) n z = -1 → ((pc_sst σ n z).1 = true ↔ ¬ σ 0 7 = 0) ∧ (σ 0 7 = 0 → pr_Rel n (pc_sst σ n z).2 (pm_s1 ρ n z (pm_t ρ))) ∧
      (¬ σ 0 7 = 0 → pr_Rel n (vv_up (pc_sst σ n z).2 0 9 (nI ((z + 1) % 24))) (pm_tl (pm_s1 ρ n z (pm_t ρ)) 7) ∧ (pc_sst σ n z).2 4 7 = σ 4 7 + nI 1 ∧ (pc_sst σ n z).2 0 6 = 0)) := by
  have hv : (z + 1) % 24 < 24 := Nat.mod_lt _ (by decide)
  have h0 : pr_Rel n (pc_sc0 σ n) (vv_up ρ 13 3 (ρ 13 3 + nI n)) := h.tly (w := 3) (by decide) (by rw [h.2.1.2.2.2.2.1 3 (by decide)])
  have es0 : pm_s0 ρ n z = vv_up (vv_up ρ 13 3 (ρ 13 3 + nI n)) 0 21 (nI ((z + 1) % 24)) := by
    unfold pm_s0
    funext i
    by_cases e : i = 13
    · subst e; rw [vv_up_s, vv_up_n (by decide), vv_up_n (by decide), vv_up_s]
    · rw [vv_up_n e]
      by_cases e0 : i = 0
      · subst e0; rw [vv_up_s, vv_up_s, vv_up_n (by decide)]
      · rw [vv_up_n e0, vv_up_n e0, vv_up_n e]
  have c47 : pc_sc0 σ n 4 7 = σ 4 7 := by unfold pc_sc0; rw [vv_up_s, vv_upd_n (by decide)]
  have c0 : pc_sc0 σ n 0 = σ 0 := vv_up_n (by decide)
  have et : pm_t (vv_up ρ 13 3 (ρ 13 3 + nI n)) = pm_t ρ := by unfold pm_t; rw [vv_up_n (by decide)]
  have k19 : vv_up ρ 13 3 (ρ 13 3 + nI n) 0 19 = σ 0 7 := by rw [vv_up_n (by decide)]; exact h.cut
  unfold pm_s1
  rw [es0]
  unfold pc_sst pc_scx
  generalize pc_sc0 σ n = σ0 at *
  generalize vv_up ρ 13 3 (ρ 13 3 + nI n) = ρ0 at *
  -- what the model reads doesn't depend on where the scrub stands
  have emi : pm_mi (vv_up ρ0 0 21 (nI ((z + 1) % 24))) z n = pc_cnt σ0 z n := by
    have : pr_dev n σ0 (vv_up ρ0 0 21 (nI ((z + 1) % 24))) := h0.1.same (fun _ _ => rfl) (fun i a b => vv_up_n (by omega))
    exact pr_mi this hz n (Nat.le_refl n)
  have hdv : pr_dev n σ0 (vv_up ρ0 0 21 (nI ((z + 1) % 24))) := h0.1.same (fun _ _ => rfl) (fun i a b => vv_up_n (by omega))
  have hev := pr_z8 hdv hz
  have hwh := pr_wh hdv hn3 hz
  have mend : ∀ (m : Nat) (τ : vv_S), m < n → pr_Rel n τ ρ0 → τ 0 = σ 0 → τ 4 7 = σ 4 7 → (σ 0 7 = 0 → pr_Rel n (pc_pox τ n m z) (pm_ch (pm_fo (vv_up ρ0 0 21 (nI ((z + 1) % 24))) n (nI m) z) n m z (pm_t ρ))) ∧
      (¬ σ 0 7 = 0 → pr_Rel n (vv_up (pc_tl (pc_pox τ n m z) 7) 0 9 (nI ((z + 1) % 24))) (pm_tl (pm_ch (pm_fo (vv_up ρ0 0 21 (nI ((z + 1) % 24))) n (nI m) z) n m z (pm_t ρ)) 7) ∧ pc_tl (pc_pox τ n m z) 7 4 7 = σ 4 7 + nI 1 ∧ pc_tl (pc_pox τ n m z) 7 0 6 = 0) := by
    intro m τ hm hτ t0 t47
    have hp := pr_pox hτ hm hz
    rw [et] at hp
    have efo : pm_fo (vv_up ρ0 0 21 (nI ((z + 1) % 24))) n (nI m) z = vv_up (pm_fo ρ0 n (nI m) z) 0 21 (nI ((z + 1) % 24)) := by
      unfold pm_fo
      rw [vv_up_row_n (by decide), vv_up_n (show 14 ≠ 0 by decide)]
      have : ∀ j k, pm_ox (vv_up ρ0 0 21 (nI ((z + 1) % 24))) (nI m) z j k = pm_ox ρ0 (nI m) z j k := by
        intro j k
        induction k with
        | zero => rfl
        | succ k ih => unfold pm_ox; rw [ih, vv_up_n (by decide)]
      congr 1
      funext j
      rw [this]
    have f19 : pm_fo ρ0 n (nI m) z 0 19 = σ 0 7 := by unfold pm_fo; rw [vv_row_n (by decide)]; exact k19
    rw [efo]
    generalize pm_fo ρ0 n (nI m) z = κ at *
    have tau7 : τ 0 7 = σ 0 7 := by rw [t0]
    refine ⟨fun hc => ?_, fun hc => ?_⟩
    · have e : ∀ i, pm_ch (vv_up κ 0 21 (nI ((z + 1) % 24))) n m z (pm_t ρ) i = pm_ch κ n m z (pm_t ρ) i := fun i => by
        by_cases e0 : i = 0
        · rw [e0, pm_ch_g (by decide), pm_ch_g (by decide), pm_go_21.2.1 (by rw [f19]; exact hc)]
        · exact pm_ch_21s i e0
      rw [show pm_ch (vv_up κ 0 21 (nI ((z + 1) % 24))) n m z (pm_t ρ) = pm_ch κ n m z (pm_t ρ) from funext e]
      exact hp
    · refine ⟨?_, ?_, ?_⟩
      · refine pr_mv (ρ := pm_tl (pm_ch κ n m z (pm_t ρ)) 7) (hp.tl (by decide)) ?_ hv (fun i hi => ?_) ?_
        · rw [pc_tl_o (by decide), pc_pox_06 (by rw [tau7]; exact hc), t0]; exact h6
        · by_cases e : i = 13
          · subst e; unfold pm_tl; rw [vv_up_s, vv_up_s, pm_ch_21s 13 (by decide)]
          · rw [pm_tl_o e, pm_tl_o e, pm_ch_21s i hi]
        · rw [pm_tl_o (by decide), pm_tl_o (by decide), pm_ch_g (by decide), pm_ch_g (by decide), pm_go_21.2.2 (by rw [f19]; exact hc)]
      · unfold pc_tl; rw [vv_up_s, vv_upd_s, pc_pox_47, t47]
      · rw [pc_tl_o (by decide), pc_pox_06 (by rw [tau7]; exact hc), t0]; exact h6
  have hx : pr_Rel n (pc_xst σ0 n (-1) z) ρ0 := h0.five (fun i hi => pc_xst_o hi) (fun _ _ _ => rfl)
  have x0 : pc_xst σ0 n (-1) z 0 = σ 0 := by rw [pc_xst_o (by decide), c0]
  have x47 : pc_xst σ0 n (-1) z 4 7 = σ 4 7 := by rw [pc_xst_o (by decide), c47]
  have still : ∀ τ : vv_S, pr_Rel n τ ρ0 → τ 0 = σ 0 → pr_Rel n (vv_up τ 0 9 (nI ((z + 1) % 24))) (vv_up ρ0 0 21 (nI ((z + 1) % 24))) := fun τ hτ t0 => pr_mv hτ (by rw [t0]; exact h6) hv (fun i hi => vv_up_n hi) vv_up_s
  unfold pm_sw
  rw [emi]
  by_cases c1 : 1 < pc_cnt σ0 z n
  · rw [if_pos c1, if_neg (fun q => by omega), if_neg (by omega)]
    exact ⟨fun _ => ⟨rfl, still σ0 h0 c0, c47, (congrFun c0 6).trans h6⟩, fun q => absurd rfl q⟩
  · rw [if_neg c1]
    by_cases c2 : pc_cnt σ0 z n = 0
    · rw [if_pos c2]
      by_cases c3 : pm_ev (vv_up ρ0 0 21 (nI ((z + 1) % 24))) n z
      · have c3' := hev.mpr c3
        rw [if_pos c3', if_neg (fun q => q.2 c3), if_neg (by omega)]
        exact ⟨fun _ => ⟨rfl, still _ hx x0, x47, (congrFun x0 6).trans h6⟩, fun q => absurd rfl q⟩
      · have c3' : ¬ pc_z8 (pc_xst σ0 n (-1) z 5) = true := fun q => c3 (hev.mp q)
        have hpm := pc_pm_lt (s := z) hn3
        rw [if_neg c3', if_pos ⟨c2, c3⟩, nI_clamp (by omega), x0]
        refine ⟨fun q => absurd q (pm_ne1 (by omega)), fun _ => ?_⟩
        have hm := mend (pc_pm n z) _ hpm hx x0 x47
        by_cases c7 : σ 0 7 = 0
        · rw [if_pos c7]
          exact ⟨⟨fun q => absurd q Bool.false_ne_true, fun q => absurd c7 q⟩, hm.1, fun q => absurd c7 q⟩
        · rw [if_neg c7]
          exact ⟨⟨fun _ => c7, fun _ => rfl⟩, fun q => absurd q c7, hm.2⟩
    · have c4 : pc_cnt σ0 z n = 1 := by omega
      obtain ⟨w1, w2⟩ := hwh c4
      rw [if_neg c2, if_neg (fun q => c2 q.1), if_pos c4, w1, nI_clamp (by omega), c0]
      refine ⟨fun q => absurd q (pm_ne1 (by omega)), fun _ => ?_⟩
      have hm := mend _ _ w2 h0 c0 c47
      by_cases c7 : σ 0 7 = 0
      · rw [if_pos c7]
        exact ⟨⟨fun q => absurd q Bool.false_ne_true, fun q => absurd c7 q⟩, hm.1, fun q => absurd c7 q⟩
      · rw [if_neg c7]
        exact ⟨⟨fun _ => c7, fun _ => rfl⟩, fun q => absurd q c7, hm.2⟩
theorem pm_s0_t {z : Nat} : pm_t (pm_s0 ρ n z) = pm_t ρ := by unfold pm_t pm_s0; rw [vv_up_n (by decide), vv_up_s, vv_upd_n (by decide)]
theorem pm_s1_t {z t : Nat} : pm_t (pm_tl (pm_s1 ρ n z t) 7) = pm_t ρ := by
  unfold pm_s1
  rw [show pm_t ρ = pm_t (pm_s0 ρ n z) from pm_s0_t.symm]
  unfold pm_t
  rw [pm_tl_o (by decide), pm_ch_f (by decide) (by decide) (by decide)]
  unfold pm_fo
  rw [vv_row_n (by decide)]
theorem pr_sl (hn3 : 3 ≤ n) (hn : n ≤ 6) {t : Nat} : ∀ (f c : Nat) (σ ρ : vv_S), pr_Rel n σ ρ → σ 0 6 = 0 → t = pm_t ρ →
    (pc_sl n f σ).1 = (pm_sl n t f c ρ).1 ∧ pr_Rel n (pc_sl n f σ).2 (pm_sl n t f c ρ).2.2 ∧ ((pc_sl n f σ).1 = true → (pc_sl n f σ).2 4 7 + nI c = σ 4 7 + nI (pm_sl n t f c ρ).2.1)
  | 0, c, σ, ρ, h, _, _ => ⟨rfl, h, fun _ => rfl⟩
  | f + 1, c, σ, ρ, h, h6, ht => by
    obtain ⟨z, hz, z1, -⟩ := h.2.1.2.2.2.2.2.2.1
    have ez : pc_z σ = z := by unfold pc_z; rw [z1, nI_clamp (by omega)]
    have ez' : (ρ 0 21).toNatClampNeg = z := by rw [h.2.1.2.2.2.1, z1, nI_clamp (by omega)]
    obtain ⟨s1, s2⟩ := pr_sst h hn3 hn hz h6
    unfold pc_sl pm_sl
    rw [ez, ez', h.cut]
    subst ht
    by_cases a : pm_sw (pm_s0 ρ n z) n z = -1
    · obtain ⟨b1, b2, b3, b4⟩ := s1 a
      rw [if_pos a, if_pos b1]
      have ih := pr_sl hn3 hn (t := pm_t ρ) f c _ _ b2 (by rw [vv_up_s, vv_upd_n (by decide)]; exact b4) pm_s0_t.symm
      rw [vv_up_n (show 4 ≠ 0 by decide), b3] at ih
      exact ih
    · obtain ⟨b1, b2, b3⟩ := s2 a
      rw [if_neg a]
      by_cases c7 : σ 0 7 = 0
      · rw [if_pos c7, if_neg (fun q => b1.mp q c7)]
        exact ⟨rfl, b2 c7, fun q => absurd q Bool.false_ne_true⟩
      · obtain ⟨d1, d2, d3⟩ := b3 c7
        rw [if_neg c7, if_pos (b1.mpr c7)]
        have ih := pr_sl hn3 hn (t := pm_t ρ) f (c + 1) _ _ d1 (by rw [vv_up_s, vv_upd_n (by decide)]; exact d3) pm_s1_t.symm
        rw [vv_up_n (show 4 ≠ 0 by decide), d2] at ih
        refine ⟨ih.1, ih.2.1, fun q => ?_⟩
        have := ih.2.2 q
        rw [← nI_add, ← Int32.add_assoc, Int32.add_assoc (σ 4 7), Int32.add_comm (nI 1), ← Int32.add_assoc] at this
        have t2 := congrArg (fun y => y - nI 1) this
        rw [Int32.add_sub_cancel, Int32.add_sub_cancel] at t2
        exact t2
theorem pr_scrub (h : pr_Rel n σ ρ) (hn3 : 3 ≤ n) (hn : n ≤ 6) {x : Int32} : pr_A n (pc_scrub σ n x) (pm_scrub ρ n x) := by
  unfold pc_scrub pm_scrub
  rw [h.down]
  by_cases c : σ 0 6 = 0
  · rw [if_pos c, if_pos c]
    by_cases a : x < nI 1
    · have a' : ¬ (¬ x < nI 1 ∧ x ≤ nI 24) := fun z => z.1 a
      rw [if_pos a, if_neg a']; exact ⟨rfl, h⟩
    · rw [if_neg a]
      by_cases b : x ≤ nI 24
      · have b' : ¬ x < nI 1 ∧ x ≤ nI 24 := ⟨a, b⟩
        rw [if_pos b, if_pos b']
        by_cases e : pc_aon σ n
        · rw [if_pos e, if_pos ((pr_aon_nt h.1 hn).mp e)]
          obtain ⟨g1, g2, g3⟩ := pr_sl hn3 hn (t := pm_t ρ) x.toNatClampNeg 0 σ ρ h c rfl
          rw [← g1]
          by_cases g : (pc_sl n x.toNatClampNeg σ).1 = true
          · rw [if_pos g, if_pos g]
            refine pr_A.mk ?_ g2
            have := g3 g
            rw [show (nI 0 : Int32) = 0 from rfl, Int32.add_zero] at this
            rw [this, Int32.add_comm, Int32.add_sub_cancel]
          · rw [if_neg g, if_neg g]; exact pr_A.mk rfl g2
        · rw [if_neg e, if_neg (fun z => e ((pr_aon_nt h.1 hn).mpr z))]; exact ⟨rfl, h⟩
      · have b' : ¬ (¬ x < nI 1 ∧ x ≤ nI 24) := fun z => b z.2
        rw [if_neg b, if_neg b']; exact ⟨rfl, h⟩
  · rw [if_neg c, if_neg c]; exact ⟨rfl, h⟩
theorem pr_aud (h : pr_Rel n σ ρ) (hn : n ≤ 6) : ∀ (f s c : Nat) (τ : vv_S), (∀ i, i ≠ 5 → τ i = σ i) → s + f = 24 → c = pm_aud ρ n s → (pc_aud n f s c τ).1 = pm_aud ρ n 24 ∧ ∀ i, i ≠ 5 → (pc_aud n f s c τ).2 i = σ i
  | 0, s, c, τ, ht, hs, hc => by rw [show s = 24 by omega] at hc; exact ⟨hc, ht⟩
  | f + 1, s, c, τ, ht, hs, hc => by
    have hR : pr_Rel n τ ρ := h.five ht (fun _ _ _ => rfl)
    have ho := pr_oth0 hR.1 hn (show s < 24 by omega)
    have hz := pr_z8 hR.1 (show s < 24 by omega)
    have hx : ∀ i, i ≠ 5 → pc_xst τ n (-1) s i = σ i := fun i hi => by rw [pc_xst_o hi]; exact ht i hi
    have ea : pm_aud ρ n (s + 1) = pm_aud ρ n s + (if pm_oth ρ n (-1) s ∧ ¬ pm_ev ρ n s then 1 else 0) := rfl
    unfold pc_aud
    by_cases a : pc_cnt τ s n = 0
    · rw [if_pos a]
      by_cases b : pc_z8 (pc_xst τ n (-1) s 5) = true
      · rw [if_pos b]
        refine pr_aud h hn f (s + 1) c _ hx (by omega) ?_
        rw [ea, if_neg (fun q => q.2 (hz.mp b)), hc]; rfl
      · rw [if_neg b]
        refine pr_aud h hn f (s + 1) (c + 1) _ hx (by omega) ?_
        rw [ea, if_pos ⟨ho.mpr a, fun q => b (hz.mpr q)⟩, hc]
    · rw [if_neg a]
      refine pr_aud h hn f (s + 1) c _ ht (by omega) ?_
      rw [ea, if_neg (fun q => a (ho.mp q.1)), hc]; rfl
theorem pr_audit (h : pr_Rel n σ ρ) (hn : n ≤ 6) : (pc_aud n 24 0 0 σ).1 = pm_aud ρ n 24 ∧ pr_Rel n (pc_aud n 24 0 0 σ).2 ρ := by
  have := pr_aud h hn 24 0 0 σ (fun _ _ => rfl) rfl rfl
  exact ⟨this.1, h.five this.2 (fun _ _ _ => rfl)⟩
end PRREL9
