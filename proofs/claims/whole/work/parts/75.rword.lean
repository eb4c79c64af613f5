/-! word, alike -/
section PRWORD
variable {n : Nat} {σ ρ : vv_S}
theorem pr_from (h : pr_Rel n σ ρ) (hn3 : 3 ≤ n) (hn : n ≤ 6) {k : Nat} (hb : k < 24 * (n - 1)) : pm_from ρ n (pc_r σ) k = pc_src σ n (pc_o σ) (pc_r σ) (k / (n - 1)) (k % (n - 1)) := by
  obtain ⟨h24, -⟩ := pc_dm hn3 hb
  have hp : k % (n - 1) < n - 1 := Nat.mod_lt _ (by omega)
  have hl := pr_lat h hn3 hn (s := k / (n - 1)) (p := k % (n - 1)) (by omega) _ (Nat.le_refl _)
  rw [pr_p_d hp] at hl
  have hm := pc_mo_lt (s := k / (n - 1)) (d := k % (n - 1)) hn3
  have ht := pr_there (h.mem hm) h24
  have ho := pr_oth h.1 hm hn h24
  unfold pm_from pc_src
  rw [hl]
  cases pm_lat ρ (k / (n - 1)) (k % (n - 1)) (pc_r σ) with
  | none =>
    dsimp only [Option.map]
    rw [if_pos rfl, if_pos rfl]
    by_cases t : pc_there σ (pc_mo n (k / (n - 1)) (k % (n - 1))) (k / (n - 1))
    · rw [if_pos t, if_pos (ht.mpr t)]
    · rw [if_neg t, if_neg (fun z => t (ht.mp z))]
      by_cases u : pc_oth σ n (pc_mo n (k / (n - 1)) (k % (n - 1))) (k / (n - 1))
      · rw [if_pos u, if_pos (ho.mpr u)]
      · rw [if_neg u, if_neg (fun z => u (ho.mp z))]
  | some e =>
    dsimp only [Option.map]
    rw [if_neg (fun z => by cases z), if_neg (fun z => by cases z)]
theorem pr_th (h : pr_Rel n σ ρ) (hn3 : 3 ≤ n) (hn : n ≤ 6) {b i : Int32} : pm_th ρ n (pc_r σ) b i = pc_th σ n b i := by
  unfold pm_th pc_th
  by_cases c : pc_isb n b ∧ ¬ i < 0 ∧ i < nI 8
  · rw [if_pos c, if_pos c, h.down, pr_from h hn3 hn (pc_nat c.1 (by omega)).2]
  · rw [if_neg c, if_neg c]
theorem pr_wd (h : pr_Rel n σ ρ) (hn3 : 3 ≤ n) (hn : n ≤ 6) {b i : Int32} (h0 : pc_th σ n b i = 0) : pm_wd ρ n (pc_r σ) b i = pc_wds σ n b 5 i.toNatClampNeg := by
  have c : pc_isb n b ∧ ¬ i < 0 ∧ i < nI 8 := by
    by_cases c : pc_isb n b ∧ ¬ i < 0 ∧ i < nI 8
    · exact c
    · unfold pc_th at h0
      rw [if_neg c] at h0
      exact absurd h0 (by decide)
  have hb := (pc_nat c.1 (by omega)).2
  have hi := (pc_nat (N := 8) ⟨c.2.1, c.2.2⟩ (by omega)).2
  obtain ⟨h24, hpn⟩ := pc_dm hn3 hb
  have hp : b.toNatClampNeg % (n - 1) < n - 1 := Nat.mod_lt _ (by omega)
  unfold pm_wd pc_wds
  rw [pr_th h hn3 hn, if_pos h0, pr_from h hn3 hn hb]
  generalize b.toNatClampNeg = k at *
  generalize i.toNatClampNeg = j at *
  by_cases s2 : pc_src σ n (pc_o σ) (pc_r σ) (k / (n - 1)) (k % (n - 1)) = 2
  · rw [if_pos s2, if_pos s2, vv_row_s]
    exact (pr_mxo h.1 h24 hi n (Nat.le_refl n)).symm
  · rw [if_neg s2, if_neg s2, vv_row_s]
    have hv := pr_nw h hn3 hn (s := k / (n - 1)) (p := k % (n - 1)) h24 hpn hi
    rw [pr_p_d hp] at hv
    rw [hv]
    have e5 : pc_clr σ 5 j = 0 := by unfold pc_clr; rw [vv_row_s]; exact if_pos hi
    have hl : pc_lat (pc_clr σ) (pc_o σ) (k / (n - 1)) (k % (n - 1)) (pc_r σ) = pc_lat σ (pc_o σ) (k / (n - 1)) (k % (n - 1)) (pc_r σ) := pc_lat_congr (fun e he => by unfold pc_clr; exact vv_row_n (pc_e_ne (by decide))) _
    unfold pc_mxn
    rw [hl]
    cases pc_lat σ (pc_o σ) (k / (n - 1)) (k % (n - 1)) (pc_r σ) with
    | none =>
      dsimp only
      unfold pc_mx
      rw [if_pos hi, e5, Int32.zero_xor]
      unfold pc_clr
      rw [vv_row_n (by unfold pc_d; omega)]
    | some e =>
      dsimp only
      unfold pc_mx
      rw [if_pos hi, e5, Int32.zero_xor]
      unfold pc_clr
      rw [vv_row_n (by unfold pc_e; omega)]
theorem pr_Rel.wds (h : pr_Rel n σ ρ) {b : Int32} : pr_Rel n (pc_wds σ n b) ρ := by
  refine h.five (fun i hi => ?_) (fun _ _ _ => rfl)
  unfold pc_wds
  split
  · rw [vv_row_n hi]; unfold pc_clr; exact vv_row_n hi
  · rw [vv_row_n hi]; unfold pc_clr; exact vv_row_n hi
theorem pr_Rel.thr (h : pr_Rel n σ ρ) {x : Int32} : pr_Rel n σ (vv_up ρ 0 0 x) := by
  have r0 : ∀ j, j ≠ 0 → vv_up ρ 0 0 x 0 j = ρ 0 j := fun j hj => by rw [vv_up_s, vv_upd_n hj]
  exact ⟨h.1.same (fun _ _ => rfl) (fun i a b => vv_up_n (by omega)), h.2.1.same rfl (fun _ _ => rfl) (fun j hj => r0 j (by omega)) (fun j _ => by rw [vv_up_n (by decide)]), h.2.2.same rfl (fun _ _ _ => rfl) (fun j a b => r0 j (by omega)) (fun i a b => vv_up_n (by omega))⟩
end PRWORD
/-! what the other calls need beforehand -/
section PRPRE
variable {n : Nat} {σ ρ : vv_S}
theorem pr_hB (h : pr_Rel n σ ρ) {m : Nat} (hm : m < n) : σ (pc_d m) 4 = nI (pc_b σ m) ∧ pc_b σ m ≤ 24 := by
  rcases (h.mem hm).2.2.2.2.2 with ⟨-, a⟩ | ⟨-, a⟩ | ⟨-, b, hb, a, -⟩
  · rw [pc_b_eq a (by decide)]; exact ⟨a, by decide⟩
  · rw [pc_b_eq a (by decide)]; exact ⟨a, by decide⟩
  · rw [pc_b_eq a (by omega)]; exact ⟨a, by omega⟩
theorem pr_z (h : pr_Rel n σ ρ) : (σ 0 9 = nI (pc_z σ) ∧ pc_z σ < 24) ∧ ρ 0 21 = nI (ρ 0 21).toNatClampNeg ∧ (ρ 0 21).toNatClampNeg < 24 := by
  obtain ⟨z, z1, z2, -⟩ := h.2.1.2.2.2.2.2.2.1
  have e : pc_z σ = z := by unfold pc_z; rw [z2, nI_clamp (by omega)]
  have e2 : (ρ 0 21).toNatClampNeg = z := by rw [h.2.1.2.2.2.1, z2, nI_clamp (by omega)]
  rw [e, e2]
  exact ⟨⟨z2, z1⟩, by rw [h.2.1.2.2.2.1]; exact z2, z1⟩
theorem pr_wk (h : pr_Rel n σ ρ) (hn3 : 3 ≤ n) (hn : n ≤ 6) {b c v : Int32} : ρ 0 18 = 0 → pc_isb n b → (¬ c < nI 1 ∧ c ≤ nI (2 * (n - 1))) → pc_isb n (nI (b.toNatClampNeg + c.toNatClampNeg - 1)) → pm_wok n b.toNatClampNeg c.toNatClampNeg v c.toNatClampNeg 0 ρ := by
  intro _ e a g
  obtain ⟨-, c1, c2⟩ := pc_rng a.1 a.2 (by omega)
  obtain ⟨-, b2⟩ := pc_nat e (by omega)
  exact (pr_wrs h hn3 hn (v := v) c1 ((nI_ltI (by omega) (by omega)).mp g.2)).2
theorem pr_hr (h : pr_Rel n σ ρ) : ρ 0 8 = nI (pm_r ρ) ∧ pm_r ρ ≤ 15 := ⟨h.J.1.1, by have := h.J.1.2; omega⟩
end PRPRE
