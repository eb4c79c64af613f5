/-! write, build, scrub -/
def pc_wr (n kb kl : Nat) (v : Int32) : Nat → Nat → vv_S → Int32 × vv_S
  | 0, _, τ => (nI 0, τ)
  | f + 1, s, τ => if (pc_wst τ n (pc_o τ) (pc_r τ) s (max kb (s * (n - 1))) (min kl (s * (n - 1) + (n - 1) - 1)) (v + nI (8 * (max kb (s * (n - 1)) - kb)))).1 = 0
      then pc_wr n kb kl v f (s + 1) (pc_wst τ n (pc_o τ) (pc_r τ) s (max kb (s * (n - 1))) (min kl (s * (n - 1) + (n - 1) - 1)) (v + nI (8 * (max kb (s * (n - 1)) - kb)))).2
      else pc_wst τ n (pc_o τ) (pc_r τ) s (max kb (s * (n - 1))) (min kl (s * (n - 1) + (n - 1) - 1)) (v + nI (8 * (max kb (s * (n - 1)) - kb)))
def pc_wrs (σ : vv_S) (n kb kc : Nat) (v : Int32) : Int32 × vv_S := pc_wr n kb (kb + kc - 1) v ((kb + kc - 1) / (n - 1) + 1 - kb / (n - 1)) (kb / (n - 1)) σ
def pc_write (σ : vv_S) (n : Nat) (b c v : Int32) : Int32 × vv_S := if σ 0 6 = 0 then (if pc_isb n b then (if c < nI 1 then (-102, σ) else if c ≤ nI (2 * (n - 1)) then
  (if pc_isb n (nI (b.toNatClampNeg + c.toNatClampNeg - 1)) then (if (pc_wrs σ n b.toNatClampNeg c.toNatClampNeg v).1 = 0 then (c, (pc_wrs σ n b.toNatClampNeg c.toNatClampNeg v).2) else pc_wrs σ n b.toNatClampNeg c.toNatClampNeg v) else (-101, σ)) else (-102, σ)) else (-101, σ)) else (-100, σ)
theorem pc_ft {d kb kl s : Nat} (hd : 0 < d) (h1 : kb / d ≤ s) (h2 : s ≤ kl / d) (h3 : kb ≤ kl) : max kb (s * d) ≤ min kl (s * d + d - 1) := by
  have a : s * d ≤ kl := (Nat.le_div_iff_mul_le hd).mp h2
  have b : kb < (s + 1) * d := (Nat.div_lt_iff_lt_mul hd).mp (by omega)
  rw [Nat.succ_mul] at b
  omega
/-- how far a member is built -/
def pc_b (τ : vv_S) (m : Nat) : Nat := (τ (pc_d m) 4).toNatClampNeg
theorem pc_b_eq {τ : vv_S} {m b : Nat} (h : τ (pc_d m) 4 = nI b) (hb : b ≤ 24) : pc_b τ m = b := by unfold pc_b; rw [h, nI_clamp (by omega)]
def pc_bl (n m : Nat) : Nat → vv_S → Bool × vv_S
  | 0, τ => (true, τ)
  | f + 1, τ => if pc_b τ m < 24 then (if (pc_bst τ n (pc_o τ) (pc_r τ) m (pc_b τ m)).1 = true then pc_bl n m f (pc_bst τ n (pc_o τ) (pc_r τ) m (pc_b τ m)).2 else (false, (pc_bst τ n (pc_o τ) (pc_r τ) m (pc_b τ m)).2)) else (true, τ)
theorem pc_bst_ok {σ : vv_S} {n m s : Nat} (hJ : pc_J σ) (h : (pc_bst σ n (pc_o σ) (pc_r σ) m s).1 = true) : pc_J (pc_bst σ n (pc_o σ) (pc_r σ) m s).2 ∧ (pc_bst σ n (pc_o σ) (pc_r σ) m s).2 (pc_d m) 4 = nI (s + 1) := by
  have hq9 : pc_upto σ (pc_o σ) s (pc_r σ) ≤ pc_r σ := pc_upto_le _
  have hJ4 := (pc_dr_all (n := n) _ σ hJ hq9).1
  unfold pc_bst at h ⊢
  generalize (pc_dr n (pc_upto σ (pc_o σ) s (pc_r σ)) σ).2 = τ at *
  have hb2 : ∀ i, i < 28 → i ≠ 0 → i ≠ 4 → i ≠ 5 → pc_bs2 τ n m s i = τ i := fun i a b c d => pc_bs2_o a b c d
  have hb4 : pc_bs2 τ n m s (pc_d m) 4 = nI (s + 1) := by unfold pc_bs2; rw [vv_up_s, vv_upd_s]
  split at h
  · rename_i h1
    rw [if_pos h1]
    split at h
    · cases h
    · rename_i h2
      rw [if_neg h2]
      split at h
      · rename_i h3
        rw [if_pos h3]
        exact ⟨hJ4.same (hb2 2 (by decide) (by decide) (by decide) (by decide)) (fun e he => congrFun (hb2 _ (pc_e_lt he) (pc_e_ne (by decide)) (pc_e_ne (by decide)) (pc_e_ne (by decide))) 1), hb4⟩
      · rename_i h3
        rw [if_neg h3]
        split at h
        · cases h
        · rename_i h4
          rw [if_neg h4]
          refine ⟨hJ4.same ?_ (fun e he => ?_), ?_⟩
          · show vv_up _ (pc_d m) 3 _ 2 = _
            rw [vv_up_n (by unfold pc_d; omega), pc_pmk_2 h4]
            show pc_pw (pc_tl (pc_bs2 τ n m s) 2) n 2 = _
            rw [pc_pw_o (by decide) (by decide) (by decide), pc_tl_o (by decide), hb2 2 (by decide) (by decide) (by decide) (by decide)]
          · show vv_up _ (pc_d m) 3 _ (pc_e e) 1 = _
            rw [vv_up_n (by unfold pc_d pc_e; omega), pc_pmk_o (pc_e_lt he) (pc_e_ne (by decide)) (pc_e_ne (by decide)) (pc_e_ne (by decide)), hb2 _ (pc_e_lt he) (pc_e_ne (by decide)) (pc_e_ne (by decide)) (pc_e_ne (by decide))]
          · show vv_up _ (pc_d m) 3 _ (pc_d m) 4 = _
            rw [vv_up_s, vv_upd_n (by decide), pc_pmk_s h4 (by unfold pc_d; omega) (by unfold pc_d; omega) (by unfold pc_d; omega)]
            exact hb4
  · cases h
def pc_build (σ : vv_S) (n : Nat) (x : Int32) : Int32 × vv_S := if σ 0 6 = 0 then (if x < nI 1 then (-102, σ) else if x ≤ nI 24 then (if pc_mt σ (nI 2) n 0 = -1 then (-103, σ) else
  if (pc_bl n (pc_mt σ (nI 2) n 0).toNatClampNeg x.toNatClampNeg σ).1 = true then (nI (24 - pc_b (pc_bl n (pc_mt σ (nI 2) n 0).toNatClampNeg x.toNatClampNeg σ).2 (pc_mt σ (nI 2) n 0).toNatClampNeg), (pc_bl n (pc_mt σ (nI 2) n 0).toNatClampNeg x.toNatClampNeg σ).2)
  else (-106, (pc_bl n (pc_mt σ (nI 2) n 0).toNatClampNeg x.toNatClampNeg σ).2)) else (-102, σ)) else (-100, σ)
/-- the stripe that is scrubbed next -/
def pc_z (τ : vv_S) : Nat := (τ 0 9).toNatClampNeg
def pc_sl (n : Nat) : Nat → vv_S → Bool × vv_S
  | 0, τ => (true, τ)
  | f + 1, τ => if (pc_sst τ n (pc_z τ)).1 = true then pc_sl n f (vv_up (pc_sst τ n (pc_z τ)).2 0 9 (nI ((pc_z τ + 1) % 24))) else (false, (pc_sst τ n (pc_z τ)).2)
theorem pc_pox_09 {σ : vv_S} {n m s : Nat} (h : ¬ σ 0 7 = 0) : pc_pox σ n m s 0 9 = σ 0 9 := by
  unfold pc_pox pc_pch
  rw [pc_tk_o (by decide), pc_pw_s0 (by rw [pc_xst_o (by decide)]; exact h) (by decide), pc_xst_o (by decide)]
theorem pc_sst_ok {τ : vv_S} {n s : Nat} (h : (pc_sst τ n s).1 = true) : (pc_sst τ n s).2 0 9 = τ 0 9 := by
  have e0 : pc_sc0 τ n 0 = τ 0 := vv_up_n (by decide)
  have e1 : pc_scx τ n s 0 = τ 0 := by unfold pc_scx; rw [pc_xst_o (by decide), e0]
  unfold pc_sst at h ⊢
  split at h
  · rename_i h1
    rw [if_pos h1]
    exact congrFun e0 9
  · rename_i h1
    rw [if_neg h1]
    split at h
    · rename_i h2
      rw [if_pos h2]
      split at h
      · rename_i h3
        rw [if_pos h3]
        exact congrFun e1 9
      · rename_i h3
        rw [if_neg h3]
        split at h
        · cases h
        · rename_i h4
          rw [if_neg h4]
          have z := pc_pox_09 (n := n) (m := pc_pm n s) (s := s) h4
          rw [e1] at z
          exact z
    · rename_i h2
      rw [if_neg h2]
      split at h
      · cases h
      · rename_i h4
        rw [if_neg h4]
        have z := pc_pox_09 (n := n) (m := pc_fnt (pc_sc0 τ n) s (n - 1) 0) (s := s) h4
        rw [e0] at z
        exact z
def pc_scrub (σ : vv_S) (n : Nat) (x : Int32) : Int32 × vv_S := if σ 0 6 = 0 then (if x < nI 1 then (-102, σ) else if x ≤ nI 24 then (if pc_aon σ n then
  (if (pc_sl n x.toNatClampNeg σ).1 = true then ((pc_sl n x.toNatClampNeg σ).2 4 7 - σ 4 7, (pc_sl n x.toNatClampNeg σ).2) else (-106, (pc_sl n x.toNatClampNeg σ).2)) else (-103, σ)) else (-102, σ)) else (-100, σ)
