/-! START, alike -/
section PRREL6
variable {n : Nat} {σ ρ σ' ρ' : vv_S}
theorem pc_pw_09 (h : σ 0 9 = 0) : pc_pw σ n 0 9 = 0 := by
  unfold pc_pw
  split
  · rw [pc_fb_o (by decide)]; unfold pc_cutS; rw [vv_up_s, vv_upd_s]; rfl
  · unfold pc_tl; rw [vv_up_s, vv_upd_n (by decide), vv_up_n (by decide)]; exact h
theorem pc_pch_09 {m s k b : Nat} (h : σ 0 9 = 0) : pc_pch σ n m s k b 0 9 = 0 := by
  unfold pc_pch
  rw [pc_tk_o (by decide)]
  exact pc_pw_09 h
theorem pc_per_09 {e s : Nat} : ∀ (f p : Nat) (σ : vv_S), σ 0 9 = 0 → (pc_per n e s f p σ).2 0 9 = 0
  | 0, _, _, h => h
  | f + 1, p, σ, h => by
    unfold pc_per
    split
    · split
      · exact pc_pch_09 h
      · exact pc_per_09 f _ _ (pc_pch_09 h)
    · exact pc_per_09 f _ _ h
theorem pc_da_09 : ∀ (f k : Nat) (σ : vv_S), σ 0 9 = 0 → (pc_da n f k σ).2 0 9 = 0
  | 0, _, _, h => h
  | f + 1, k, σ, h => by
    have h1 := pc_per_09 (n := n) (e := pc_re (pc_o σ) k) (s := pc_s σ (pc_re (pc_o σ) k)) n 0 σ h
    unfold pc_da
    split
    · exact pc_da_09 f _ _ (by rw [pc_tl_o (by decide)]; exact h1)
    · exact h1
theorem pc_pmk_09 {o r q : Nat} (h : σ 0 9 = 0) : pc_pmk σ n o r q 0 9 = 0 := by
  have h1 : pc_pw (pc_tl σ 2) n 0 9 = 0 := pc_pw_09 (by rw [pc_tl_o (by decide)]; exact h)
  unfold pc_pmk
  split
  · exact h1
  · rw [vv_row_n (by decide)]; exact h1
/-- the records are done again, alike; cell and serial behind them -/
theorem pr_da (hn3 : 3 ≤ n) (hn : n ≤ 6) : ∀ (f k : Nat) (σ ρ : vv_S) (c s : Int32), pr_Rel n σ ρ → k + f = pc_r σ → c = pc_fj σ (pc_o σ) (pc_r σ) k 4 → s = pc_fj σ (pc_o σ) (pc_r σ) k 5 →
    (pc_da n f k σ).1 = (pm_sa n f k c s ρ).1 ∧ pr_Rel n (pc_da n f k σ).2 (pm_sa n f k c s ρ).2.2.2 ∧ ((pc_da n f k σ).1 = true → (pm_sa n f k c s ρ).2.1 = pc_fj σ (pc_o σ) (pc_r σ) (pc_r σ) 4 ∧ (pm_sa n f k c s ρ).2.2.1 = pc_fj σ (pc_o σ) (pc_r σ) (pc_r σ) 5)
  | 0, k, σ, ρ, c, s, h, hk, hc, hs => by
    have e : k = pc_r σ := by omega
    rw [e] at hc hs
    exact ⟨rfl, h, fun _ => ⟨hc, hs⟩⟩
  | f + 1, k, σ, ρ, c, s, h, hk, hc, hs => by
    have hkr : k < pc_r σ := by omega
    have hpe := pr_pe h hn3 hn hkr
    have hcells := pr_cells (h.ent hkr) hn3 hn
    have h8 := (h.2.2.2.2.2.2.2.1 k hkr).2
    unfold pc_da pm_sa
    rw [← hpe.1]
    have e2 : (pc_pe n (pc_re (pc_o σ) k) (pc_s σ (pc_re (pc_o σ) k)) σ).2 2 = σ 2 := pc_pe_o (by decide) (by decide) (by decide)
    have ee : ∀ e, e < 11 → (pc_pe n (pc_re (pc_o σ) k) (pc_s σ (pc_re (pc_o σ) k)) σ).2 (pc_e e) 2 = σ (pc_e e) 2 := fun e he => congrFun (pc_pe_o (pc_e_lt he) (pc_e_ne (by decide)) (pc_e_ne (by decide))) 2
    by_cases a : (pc_pe n (pc_re (pc_o σ) k) (pc_s σ (pc_re (pc_o σ) k)) σ).1 = true
    · rw [if_pos a, if_pos a]
      have hR := hpe.2.tl (w := 6) (by decide)
      have t2 : pc_tl (pc_pe n (pc_re (pc_o σ) k) (pc_s σ (pc_re (pc_o σ) k)) σ).2 6 2 = σ 2 := by rw [pc_tl_o (by decide)]; exact e2
      have te : ∀ e, e < 11 → pc_tl (pc_pe n (pc_re (pc_o σ) k) (pc_s σ (pc_re (pc_o σ) k)) σ).2 6 (pc_e e) 2 = σ (pc_e e) 2 := fun e he => by rw [pc_tl_o (pc_e_ne (by decide))]; exact ee e he
      generalize pc_tl (pc_pe n (pc_re (pc_o σ) k) (pc_s σ (pc_re (pc_o σ) k)) σ).2 6 = σ1 at *
      have fj : ∀ j, pc_fj σ1 (pc_o σ1) (pc_r σ1) j = pc_fj σ (pc_o σ) (pc_r σ) j := fun j => by rw [pc_o_row t2, pc_r_row t2]; exact pc_fj_congr t2 te j
      have rr : pc_r σ1 = pc_r σ := pc_r_row t2
      have ih := pr_da hn3 hn f (k + 1) σ1 _ (pm_rem (c + nI (pm_cells ρ n k))) (ρ 8 k + nI 1) hR (by omega) (by rw [fj, pc_fj_4, hc, hcells]) (by rw [fj, pc_fj_5, h8, Int32.add_assoc, nI_add])
      rw [fj, rr] at ih
      exact ih
    · rw [if_neg a, if_neg a]
      exact ⟨rfl, hpe.2, fun z => absurd z Bool.false_ne_true⟩
theorem pr_start (h : pr_Rel n σ ρ) (hn3 : 3 ≤ n) (hn : n ≤ 6) {x : Int32} : pr_A n (pc_start σ n x) (pm_start ρ n x) := by
  unfold pc_start pm_start
  rw [h.down]
  by_cases c : σ 0 6 = 0
  · rw [if_pos c, if_pos c]; exact ⟨rfl, h⟩
  · rw [if_neg c, if_neg c]
    by_cases d : pc_isc x
    · rw [if_pos d, if_pos d]
      have h09 : σ 0 9 = 0 := by
        obtain ⟨z, z1, z2, z3⟩ := h.2.1.2.2.2.2.2.2.1
        rw [z2, z3 c]; rfl
      have hR0 : pr_Rel n (pc_st0 σ x) (pm_st0 ρ x) := by
        refine pr_obj h ?_ (fun i hi => by unfold pc_st0; rw [vv_up_n hi, vv_up_n hi]) (fun i hi => by unfold pm_st0; rw [vv_up_n hi, vv_up_n hi]) (fun j a b => by unfold pm_st0; rw [vv_up_s, vv_upd_n (by omega), vv_up_s, vv_upd_n (by omega)])
        obtain ⟨h1, h2, h3, h4, h5, h6, ⟨z, z1, z2, z3⟩, h8⟩ := h.2.1
        unfold pr_num pc_st0 pm_st0
        rw [vv_up_s, vv_up_s, vv_up_s, vv_up_s, vv_up_n (show 4 ≠ 0 by decide), vv_up_n (show 4 ≠ 0 by decide), vv_up_n (show 13 ≠ 0 by decide), vv_up_n (show 13 ≠ 0 by decide)]
        exact ⟨rfl, rfl, h3, h4, h5, h6, ⟨z, z1, z2, fun y => absurd rfl y⟩, Or.inl rfl⟩
      have o0 : pc_st0 σ x 2 = σ 2 := by unfold pc_st0; rw [vv_up_n (by decide), vv_up_n (by decide)]
      have e0 : ∀ i, i ≠ 0 → pc_st0 σ x i = σ i := fun i hi => by unfold pc_st0; rw [vv_up_n hi, vv_up_n hi]
      have fj0 : ∀ j, pc_fj (pc_st0 σ x) (pc_o σ) (pc_r σ) j = pc_fj σ (pc_o σ) (pc_r σ) j := fun j => pc_fj_congr o0 (fun e he => by rw [e0 _ (pc_e_ne (by decide))]) j
      have h09' : pc_st0 σ x 0 9 = 0 := by unfold pc_st0; rw [vv_up_s, vv_upd_n (by decide), vv_up_s, vv_upd_n (by decide)]; exact h09
      have hda := pr_da hn3 hn (pc_r σ) 0 (pc_st0 σ x) (pm_st0 ρ x) (ρ 0 15) (ρ 0 16) hR0 (by rw [pc_r_row o0, Nat.zero_add]) (by rw [pc_o_row o0, pc_r_row o0, fj0]; exact h.2.2.2.2.1) (by rw [pc_o_row o0, pc_r_row o0, fj0]; exact h.2.2.2.2.2.1)
      rw [pc_o_row o0, pc_r_row o0, fj0] at hda
      unfold pm_sm pm_sar
      rw [h.r, ← hda.1]
      have h092 := pc_da_09 (n := n) (pc_r σ) 0 _ h09'
      have d2 : (pc_da n (pc_r σ) 0 (pc_st0 σ x)).2 2 = σ 2 := by rw [pc_da_o (by decide) (by decide) (by decide)]; exact o0
      have de : ∀ i, 6 ≤ i → i < 28 → (pc_da n (pc_r σ) 0 (pc_st0 σ x)).2 i = σ i := fun i a b => by rw [pc_da_o b (by omega) (by omega)]; exact e0 i (by omega)
      generalize pc_da n (pc_r σ) 0 (pc_st0 σ x) = D at *
      generalize pm_sa n (pc_r σ) 0 (ρ 0 15) (ρ 0 16) (pm_st0 ρ x) = E at *
      obtain ⟨b1, σ1⟩ := D
      obtain ⟨b2, cc, ss, ρ1⟩ := E
      dsimp only at *
      obtain ⟨-, hR1, hfj⟩ := hda
      by_cases a : b1 = true
      · rw [if_pos a, if_pos a]
        obtain ⟨hcc, hss⟩ := hfj a
        by_cases b : σ1 0 7 = 0
        · have b' : ρ1 0 19 = 0 := by rw [hR1.cut]; exact b
          rw [if_pos b, if_pos b']
          exact pr_A.mk rfl (pr_mk_0 hR1 b)
        · have b' : ¬ ρ1 0 19 = 0 := by rw [hR1.cut]; exact b
          rw [if_neg b, if_neg b']
          have hdn := pr_mk_dn hR1 (o := pc_o σ) (r := pc_r σ) (q := pc_r σ) (c := cc) (s := ss)
          have h15 := pm_mk_15 (n := n) (c := cc) (r := ss) (show ¬ ρ1 0 19 = 0 by rw [hR1.cut]; exact b)
          have m8 : pm_mk ρ1 n cc ss 0 8 = nI (pc_r σ) := by rw [pm_mk_f (by decide) (by decide) (by decide) (by decide) (by decide), hR1.2.2.2.1, d2]; exact h.I.1.2.2.1
          have m10 : pm_mk ρ1 n cc ss 10 = ρ1 10 := pm_mk_o (by decide) (by decide) (by decide)
          have c2 : pc_pmk σ1 n (pc_o σ) (pc_r σ) (pc_r σ) 2 = pc_fj σ (pc_o σ) (pc_r σ) (pc_r σ) := by
            rw [pc_pmk_2 b]
            exact pc_fj_congr (by rw [pc_pw_o (by decide) (by decide) (by decide), pc_tl_o (by decide), d2]) (fun e h1 => by rw [pc_pw_o (Or.inl (pc_e_lt h1)) (pc_e_ne (by decide)) (pc_e_ne (by decide)), pc_tl_o (pc_e_ne (by decide)), de _ (by unfold pc_e; omega) (pc_e_lt h1)]) _
          have ce : ∀ i, 6 ≤ i → i < 28 → pc_pmk σ1 n (pc_o σ) (pc_r σ) (pc_r σ) i = σ i := fun i x y => by rw [pc_pmk_o y (by omega) (by omega) (by omega)]; exact de i x y
          have c09 := pc_pmk_09 (n := n) (o := pc_o σ) (r := pc_r σ) (q := pc_r σ) h092
          generalize pc_pmk σ1 n (pc_o σ) (pc_r σ) (pc_r σ) = σ2 at *
          generalize pm_mk ρ1 n cc ss = ρ2 at *
          refine pr_A.mk m8.symm ⟨hdn.1.same (fun k hk => vv_up_n (by omega)) (fun i x y => by rw [vv_up_n (by omega), vv_up_n (by omega), vv_up_n (by omega), vv_up_n (by omega)]), ?_, ?_, ?_, ?_, ?_, ?_, ?_, ?_⟩
          · obtain ⟨h1, h2, h3, h4, h5, h6, h7, h8⟩ := hdn.2
            unfold pr_num
            rw [vv_up_s, vv_up_s, vv_up_s, vv_up_s, vv_up_s, vv_up_n (show 4 ≠ 0 by decide), vv_up_n (show 13 ≠ 0 by decide), vv_up_n (show 13 ≠ 0 by decide), vv_up_n (show 13 ≠ 0 by decide), vv_up_n (show 13 ≠ 0 by decide)]
            refine ⟨h1, rfl, h3, ?_, h5, h6, ⟨0, by decide, c09, fun _ => rfl⟩, h8⟩
            rw [vv_upd_s, vv_upd_n (by decide), c09]
            rfl
          · have hA := pc_A_fj (σ := σ) (τ := vv_up σ2 0 7 (-1)) (j := pc_r σ) h.I.2 h.I.1 (Nat.le_refl _) (by rw [vv_up_n (by decide)]; exact c2) (fun e he => by rw [vv_up_n (pc_e_ne (by decide)), ce _ (by unfold pc_e; omega) (pc_e_lt he)]; exact h.I.2.1 e he) (fun k hk => by rw [vv_up_n (pc_e_ne (by decide)), ce _ (by unfold pc_e; omega) (pc_e_lt (Nat.mod_lt _ (by decide)))])
            refine ⟨pc_J_of (o := pc_re (pc_o σ) (pc_r σ)) (r := 0) (by rw [vv_up_n (by decide), c2]; exact pc_fj_1 h.I.1.1 h.I.1.2.1 _) (Nat.mod_lt _ (by decide)) (by rw [vv_up_n (by decide), c2, pc_fj_2 h.I.1.2.2.1, Nat.sub_self]) (by decide) (fun e he => ?_), hA.1⟩
            rw [vv_up_n (pc_e_ne (by decide)), ce _ (by unfold pc_e; omega) (pc_e_lt he)]
            exact ⟨_, (h.I.1.2.2.2.2 e he).2, (h.I.1.2.2.2.2 e he).1⟩
          · rw [vv_up_s, vv_upd_n (by decide), vv_up_s, vv_upd_n (by decide), vv_up_s, vv_upd_n (by decide), vv_up_s, vv_upd_s, vv_up_n (by decide), c2, pc_fj_2 h.I.1.2.2.1, Nat.sub_self]
          · rw [vv_up_s, vv_upd_n (by decide), vv_up_s, vv_upd_n (by decide), vv_up_s, vv_upd_n (by decide), vv_up_s, vv_upd_n (by decide), vv_up_n (by decide), c2, h15.1, hcc]
          · rw [vv_up_s, vv_upd_n (by decide), vv_up_s, vv_upd_n (by decide), vv_up_s, vv_upd_n (by decide), vv_up_s, vv_upd_n (by decide), vv_up_n (by decide), c2, h15.2, hss]
          · rw [vv_up_s, vv_upd_n (by decide), vv_up_s, vv_upd_n (by decide), vv_up_s, vv_upd_s, vv_up_n (by decide), c2, hss, pc_fj_2 h.I.1.2.2.1, Nat.sub_self, show (nI 0 : Int32) = 0 from rfl, Int32.add_zero]
          · intro k hk
            have r0 : pc_r (vv_up σ2 0 7 (-1)) = 0 := pc_r_eq (by rw [vv_up_n (by decide), c2, pc_fj_2 h.I.1.2.2.1, Nat.sub_self]) (by decide)
            rw [r0] at hk
            omega
          · intro k hk
            rw [vv_up_n (by decide), vv_up_n (by decide), vv_up_n (by decide), vv_up_n (by decide), m10]
            exact hR1.2.2.2.2.2.2.2.2 k hk
      · rw [if_neg a, if_neg a]
        exact pr_A.mk rfl hR1
    · rw [if_neg d, if_neg d]; exact ⟨rfl, h⟩
end PRREL6
