/-! RECORDS DRAINED, alike -/
section PRREL4
variable {n : Nat} {σ ρ σ' ρ' : vv_S}
theorem pc_fj_5 {o r : Nat} : ∀ j, pc_fj σ o r j 5 = σ 2 5 + nI j
  | 0 => by show σ 2 5 = _; rw [show (nI 0 : Int32) = 0 from rfl, Int32.add_zero]
  | j + 1 => by
    show pc_fj σ o r j 5 + nI 1 = _
    rw [pc_fj_5 j, Int32.add_assoc, nI_add]
theorem pc_fj_4 {o r j : Nat} : pc_fj σ o r (j + 1) 4 = pm_rem (pc_fj σ o r j 4 + pc_cells (σ (pc_e (pc_re o j)) 2)) := rfl
/-- the mark is written: cell and serial of it; the journal's rest is as before -/
theorem pm_mk_15 {c r : Int32} (h : ¬ ρ 0 19 = 0) : pm_mk ρ n c r 0 15 = c ∧ pm_mk ρ n c r 0 16 = r := by
  unfold pm_mk
  rw [if_neg h]
  exact ⟨by rw [vv_up_s, vv_upd_n (by decide), vv_up_s, vv_upd_s], by rw [vv_up_s, vv_upd_s]⟩
theorem pr_mk_dn (h : pr_Rel n σ ρ) {o r q : Nat} {c s : Int32} : pr_dev n (pc_pmk σ n o r q) (pm_mk ρ n c s) ∧ pr_num (pc_pmk σ n o r q) (pm_mk ρ n c s) := by
  have hp := (h.tl (w := 2) (by decide)).pw
  unfold pc_pmk pm_mk
  by_cases hc : σ 0 7 = 0
  · rw [if_pos hc, if_pos (show ρ 0 19 = 0 by rw [h.cut]; exact hc)]
    exact ⟨hp.1, hp.2.1⟩
  · rw [if_neg hc, if_neg (show ¬ ρ 0 19 = 0 by rw [h.cut]; exact hc)]
    refine ⟨hp.1.same (fun k hk => vv_row_n (by omega)) (fun i a b => by rw [vv_up_n (by omega), vv_up_n (by omega)]), hp.2.1.same (vv_row_n (by decide)) (fun j _ => by rw [vv_row_n (by decide)]) (fun j hj => by rw [vv_up_s, vv_upd_n (by omega), vv_up_s, vv_upd_n (by omega)]) (fun j _ => by rw [vv_up_n (by decide), vv_up_n (by decide)])⟩
theorem pr_mk_0 (h : pr_Rel n σ ρ) {o r q : Nat} {c s : Int32} (hc : σ 0 7 = 0) : pr_Rel n (pc_pmk σ n o r q) (pm_mk ρ n c s) := by
  have hp := (h.tl (w := 2) (by decide)).pw
  unfold pc_pmk pm_mk
  rw [if_pos hc, if_pos (show ρ 0 19 = 0 by rw [h.cut]; exact hc)]
  exact hp
theorem pc_dr_1 {τ : vv_S} : pc_dr n 1 τ = if (pc_d1 n τ).1 = true then (if (pc_d1 n τ).2 0 7 = 0 then (false, pc_pmk (pc_d1 n τ).2 n (pc_o τ) (pc_r τ) 1) else (true, pc_tl (pc_pmk (pc_d1 n τ).2 n (pc_o τ) (pc_r τ) 1) 5)) else (false, (pc_d1 n τ).2) := rfl
theorem pc_dr_s {τ : vv_S} {q : Nat} : pc_dr n (q + 1) τ = if (pc_dr n 1 τ).1 = true then pc_dr n q (pc_dr n 1 τ).2 else (false, (pc_dr n 1 τ).2) := by
  rw [pc_dr_1]
  show (if (pc_d1 n τ).1 = true then (if (pc_d1 n τ).2 0 7 = 0 then (false, pc_pmk (pc_d1 n τ).2 n (pc_o τ) (pc_r τ) 1) else pc_dr n q (pc_tl (pc_pmk (pc_d1 n τ).2 n (pc_o τ) (pc_r τ) 1) 5)) else (false, (pc_d1 n τ).2)) = _
  by_cases a : (pc_d1 n τ).1 = true
  · rw [if_pos a, if_pos a]
    by_cases b : (pc_d1 n τ).2 0 7 = 0
    · rw [if_pos b, if_pos b, if_neg Bool.false_ne_true]
    · rw [if_neg b, if_neg b, if_pos rfl]
  · rw [if_neg a, if_neg a, if_neg Bool.false_ne_true]
theorem pr_ent_sh {e k r : Nat} {τ : vv_S} (h : pr_ent n σ ρ e (k + 1)) (hk : k < r - 1) (hn3 : 3 ≤ n) (hn : n ≤ 6) (he0 : σ' (pc_e e) = σ (pc_e e)) (he1 : σ' (pc_e e + 1) = σ (pc_e e + 1)) (hr : ∀ i, 7 ≤ i → i ≤ 12 → τ i = ρ i) : pr_ent n σ' (pm_sh τ r) e k := by
  have f : ∀ i, i ≠ 0 → pm_sh τ r i = pm_shi τ (r - 1) (48 * (r - 1)) i := fun i hi => vv_up_n hi
  have f7 : pm_sh τ r 7 k = ρ 7 (k + 1) := by rw [f 7 (by decide), ← hr 7 (by decide) (by decide)]; exact if_pos hk
  have f9 : pm_sh τ r 9 k = ρ 9 (k + 1) := by rw [f 9 (by decide), ← hr 9 (by decide) (by decide)]; exact if_pos hk
  have f10 : pm_sh τ r 10 k = ρ 10 (k + 1) := by rw [f 10 (by decide), ← hr 10 (by decide) (by decide)]; exact if_pos hk
  have f11 : pm_sh τ r 11 k = ρ 11 (k + 1) := by rw [f 11 (by decide), ← hr 11 (by decide) (by decide)]; exact if_pos hk
  have f12 : ∀ j, j < 48 * (r - 1) → pm_sh τ r 12 j = ρ 12 (j + 48) := fun j hj => by rw [f 12 (by decide), ← hr 12 (by decide) (by decide)]; exact if_pos hj
  unfold pr_ent at h ⊢
  rw [he0, he1, f7, f9, f10, f11]
  obtain ⟨h1, h2, h3, h4, h5, h6, h7⟩ := h
  refine ⟨h1, h2, h3, h4, h5, fun d i hd hi hb => ?_, fun i hi hb => ?_⟩
  · rw [f12 _ (by omega), show 8 * (6 * k + d) + i + 48 = 8 * (6 * (k + 1) + d) + i by omega]
    exact h6 d i hd hi hb
  · rw [f12 _ (by omega), show 8 * (6 * k + 5) + i + 48 = 8 * (6 * (k + 1) + 5) + i by omega]
    exact h7 i hi hb
/-- one record is drained -/
theorem pr_dr1 (h : pr_Rel n σ ρ) (hn3 : 3 ≤ n) (hn : n ≤ 6) (hr : 0 < pc_r σ) : pr_B n (pc_dr n 1 σ) (pm_dr1 n ρ) := by
  have hpe := pr_pe h hn3 hn hr
  have hI : pc_I (pc_dr n 1 σ).2 := ⟨(pc_dr_all 1 σ h.I.1 hr).1, pc_dr_A h.I.1 h.I.2 hr⟩
  have hr10 := h.I.1.2.2.2.1
  rw [pc_dr_1] at hI ⊢
  unfold pm_dr1 pm_dm
  have ed : (pc_d1 n σ).1 = (pm_dd n ρ).1 := hpe.1
  have hD : pr_Rel n (pc_d1 n σ).2 (pm_dd n ρ).2 := hpe.2
  have e2 : (pc_d1 n σ).2 2 = σ 2 := pc_pe_o (by decide) (by decide) (by decide)
  have ee : ∀ i, 6 ≤ i → i < 28 → (pc_d1 n σ).2 i = σ i := fun i a b => pc_pe_o b (by omega) (by omega)
  have g : ∀ i, 7 ≤ i → i ≤ 12 → (pm_dd n ρ).2 i = ρ i := fun i a b => pm_dn_o (by omega) (by omega) (by omega) (by omega) (by omega) (by omega) (by omega) (by omega)
  have g0 : ∀ j, 8 ≤ j → j ≤ 17 → (pm_dd n ρ).2 0 j = ρ 0 j := fun j a b => pm_dn_f (by omega) (by omega) (by omega)
  rw [← ed]
  have hcells := pr_cells (h.ent hr) hn3 hn
  generalize (pc_d1 n σ).1 = b1 at *
  generalize (pc_d1 n σ).2 = σ1 at *
  generalize (pm_dd n ρ).2 = ρ1 at *
  by_cases a : b1 = true
  · rw [if_pos a] at hI
    rw [if_pos a, if_pos a, hD.cut]
    by_cases b : σ1 0 7 = 0
    · rw [if_pos b, if_pos b]
      exact ⟨rfl, pr_mk_0 hD b⟩
    · rw [if_neg b] at hI
      rw [if_neg b, if_neg b]
      refine ⟨rfl, ?_⟩
      have hdn := pr_mk_dn hD (o := pc_o σ) (r := pc_r σ) (q := 1) (c := pm_rem (ρ 0 15 + nI (pm_cells ρ n 0))) (s := ρ1 8 0 + nI 1)
      have h15 := pm_mk_15 (n := n) (c := pm_rem (ρ 0 15 + nI (pm_cells ρ n 0))) (r := ρ1 8 0 + nI 1) (show ¬ ρ1 0 19 = 0 by rw [hD.cut]; exact b)
      have m7 : ∀ i, 7 ≤ i → i ≤ 12 → pm_mk ρ1 n (pm_rem (ρ 0 15 + nI (pm_cells ρ n 0))) (ρ1 8 0 + nI 1) i = ρ i := fun i x y => by rw [pm_mk_o (by omega) (by omega) (by omega)]; exact g i x y
      have m17 : pm_mk ρ1 n (pm_rem (ρ 0 15 + nI (pm_cells ρ n 0))) (ρ1 8 0 + nI 1) 0 17 = ρ 0 17 := by rw [pm_mk_f (by decide) (by decide) (by decide) (by decide) (by decide)]; exact g0 17 (by decide) (by decide)
      have c2 : pc_pmk σ1 n (pc_o σ) (pc_r σ) 1 2 = pc_fj σ (pc_o σ) (pc_r σ) 1 := by
        rw [pc_pmk_2 b]
        exact pc_fj_congr (by rw [pc_pw_o (by decide) (by decide) (by decide), pc_tl_o (by decide), e2]) (fun e h1 => by rw [pc_pw_o (Or.inl (pc_e_lt h1)) (pc_e_ne (by decide)) (pc_e_ne (by decide)), pc_tl_o (pc_e_ne (by decide)), ee _ (by unfold pc_e; omega) (pc_e_lt h1)]) 1
      have ce : ∀ i, 6 ≤ i → i < 28 → pc_pmk σ1 n (pc_o σ) (pc_r σ) 1 i = σ i := fun i x y => by rw [pc_pmk_o y (by omega) (by omega) (by omega)]; exact ee i x y
      have hI2 : pc_I (pc_tl (pc_pmk σ1 n (pc_o σ) (pc_r σ) 1) 5) := hI
      generalize pc_pmk σ1 n (pc_o σ) (pc_r σ) 1 = σ2 at *
      generalize pm_mk ρ1 n (pm_rem (ρ 0 15 + nI (pm_cells ρ n 0))) (ρ1 8 0 + nI 1) = ρ2 at *
      have hdn2 : pr_dev n (pc_tl σ2 5) (pm_tl ρ2 5) ∧ pr_num (pc_tl σ2 5) (pm_tl ρ2 5) := ⟨hdn.1.same (fun k hk => pc_tl_o (by omega)) (fun i x y => pm_tl_o (by omega)), hdn.2.tly (by decide) (by rw [hdn.2.2.2.2.2.1 5 (by decide)])⟩
      have n7 : ∀ i, 7 ≤ i → i ≤ 12 → pm_tl ρ2 5 i = ρ i := fun i x y => by rw [pm_tl_o (by omega)]; exact m7 i x y
      have d2 : pc_tl σ2 5 2 = pc_fj σ (pc_o σ) (pc_r σ) 1 := by rw [pc_tl_o (by decide)]; exact c2
      have de : ∀ i, 6 ≤ i → i < 28 → pc_tl σ2 5 i = σ i := fun i x y => by rw [pc_tl_o (by omega)]; exact ce i x y
      have k15 : pm_tl ρ2 5 0 15 = pm_rem (ρ 0 15 + nI (pm_cells ρ n 0)) := by rw [pm_tl_o (by decide)]; exact h15.1
      have k16 : pm_tl ρ2 5 0 16 = ρ1 8 0 + nI 1 := by rw [pm_tl_o (by decide)]; exact h15.2
      have k17 : pm_tl ρ2 5 0 17 = ρ 0 17 := by rw [pm_tl_o (by decide)]; exact m17
      generalize pc_tl σ2 5 = σ3 at *
      generalize pm_tl ρ2 5 = ρ3 at *
      rw [h.r]
      show pr_Rel n σ3 (pm_sh ρ3 (pc_r σ))
      have f : ∀ i, i ≠ 0 → (i < 7 ∨ 12 < i) → pm_sh ρ3 (pc_r σ) i = ρ3 i := fun i hi h2 => by
        unfold pm_sh
        rw [vv_up_n hi]
        unfold pm_shi pm_r6
        rw [if_neg (by omega), if_neg (by omega), if_neg (by omega), if_neg (by omega), if_neg (by omega), if_neg (by omega)]
      have f0 : pm_sh ρ3 (pc_r σ) 0 = upd (ρ3 0) 8 (nI (pc_r σ - 1)) := by unfold pm_sh; rw [vv_up_s]; rfl
      refine ⟨hdn2.1.same (fun _ _ => rfl) (fun i x y => f i (by omega) (by omega)), hdn2.2.same rfl (fun _ _ => rfl) (fun j hj => by rw [f0, vv_upd_n (by omega)]) (fun j _ => by rw [f 13 (by decide) (by decide)]), hI2, ?_, ?_, ?_, ?_, ?_, ?_⟩
      · rw [f0, vv_upd_s, d2]; exact (pc_fj_2 h.I.1.2.2.1 1).symm
      · rw [f0, vv_upd_n (by decide), d2, pc_fj_4, k15, h.2.2.2.2.1, hcells]; rfl
      · rw [f0, vv_upd_n (by decide), d2, pc_fj_5, k16, g 8 (by decide) (by decide), (h.2.2.2.2.2.2.2.1 0 hr).2, Int32.add_assoc, nI_add]
      · rw [f0, vv_upd_n (by decide), d2, pc_fj_5, k17, pc_fj_2 h.I.1.2.2.1 1, h.2.2.2.2.2.2.1, h.I.1.2.2.1, Int32.add_assoc, nI_add, show 1 + (pc_r σ - 1) = pc_r σ by omega]
      · have o3 : pc_o σ3 = pc_re (pc_o σ) 1 := pc_o_eq (by rw [d2]; exact pc_fj_1 h.I.1.1 h.I.1.2.1 1) (Nat.mod_lt _ (by decide))
        have r3 : pc_r σ3 = pc_r σ - 1 := pc_r_eq (by rw [d2]; exact pc_fj_2 h.I.1.2.2.1 1) (by omega)
        intro k hk
        rw [r3] at hk
        rw [o3, pc_re_re, Nat.add_comm 1 k]
        have hlt : pc_re (pc_o σ) (k + 1) < 11 := Nat.mod_lt _ (by decide)
        refine ⟨pr_ent_sh (h.ent (show k + 1 < pc_r σ by omega)) hk hn3 hn (de _ (by unfold pc_e; omega) (by unfold pc_e; omega)) (de _ (by unfold pc_e; omega) (by unfold pc_e; omega)) n7, ?_⟩
        have e8 : pm_sh ρ3 (pc_r σ) 8 k = ρ 8 (k + 1) := by rw [← n7 8 (by decide) (by decide)]; unfold pm_sh; rw [vv_up_n (by decide)]; exact if_pos hk
        rw [e8, (h.2.2.2.2.2.2.2.1 (k + 1) (by omega)).2, d2, pc_fj_5, Int32.add_assoc, nI_add, Nat.add_comm 1 k]
      · intro k hk
        have e10 : pm_sh ρ3 (pc_r σ) 10 k = if k < pc_r σ - 1 then ρ 10 (k + 1) else ρ 10 k := by rw [← n7 10 (by decide) (by decide)]; unfold pm_sh; rw [vv_up_n (by decide)]; rfl
        rw [e10]
        have hb := h.2.2.2.2.2.2.2.2
        split
        · exact hb _ (by omega)
        · exact hb k hk
  · rw [if_neg a, if_neg a]
    exact ⟨rfl, hD⟩
theorem pr_dr1_r (h : pr_Rel n σ ρ) (hr : 0 < pc_r σ) (hb : (pc_dr n 1 σ).1 = true) : pc_r (pc_dr n 1 σ).2 = pc_r σ - 1 := by
  have := (pc_dr_2 (n := n) 1 σ h.I.1 hr).2 hb
  exact pc_r_eq (by rw [this]; exact pc_fj_2 h.I.1.2.2.1 1) (by have := h.I.1.2.2.2.1; omega)
/-- q records are drained -/
theorem pr_dr (hn3 : 3 ≤ n) (hn : n ≤ 6) : ∀ (q : Nat) (σ ρ : vv_S), pr_Rel n σ ρ → q ≤ pc_r σ → pr_B n (pc_dr n q σ) (pm_dq n q ρ)
  | 0, σ, ρ, h, _ => ⟨rfl, h⟩
  | q + 1, σ, ρ, h, hq => by
    have h1 := pr_dr1 h hn3 hn (by omega)
    have hr := pr_dr1_r (n := n) h (by omega)
    rw [pc_dr_s]
    unfold pm_dq
    rw [← h1.1]
    by_cases a : (pc_dr n 1 σ).1 = true
    · rw [if_pos a, if_pos a]
      exact pr_dr hn3 hn q _ _ h1.2 (by rw [hr a]; omega)
    · rw [if_neg a, if_neg a]
      exact ⟨rfl, h1.2⟩
theorem pr_dl (hn3 : 3 ≤ n) (hn : n ≤ 6) : ∀ (x : Nat) (σ ρ : vv_S), pr_Rel n σ ρ → pr_B n (pc_dr n (min x (pc_r σ)) σ) (pm_dl n x ρ)
  | 0, σ, ρ, h => by rw [Nat.zero_min]; exact ⟨rfl, h⟩
  | x + 1, σ, ρ, h => by
    unfold pm_dl
    rw [h.r]
    by_cases z : pc_r σ = 0
    · rw [if_pos z, z, Nat.min_zero]; exact ⟨rfl, h⟩
    · rw [if_neg z]
      have h1 := pr_dr1 h hn3 hn (by omega)
      have hr := pr_dr1_r (n := n) h (by omega)
      rw [show min (x + 1) (pc_r σ) = min x (pc_r σ - 1) + 1 by omega, pc_dr_s, ← h1.1]
      by_cases a : (pc_dr n 1 σ).1 = true
      · rw [if_pos a, if_pos a, ← hr a]
        exact pr_dl hn3 hn x _ _ h1.2
      · rw [if_neg a, if_neg a]
        exact ⟨rfl, h1.2⟩
end PRREL4
