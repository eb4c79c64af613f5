/-! THE MODEL'S LAST CALLS, as functions of the store -/
theorem pm_le0 {k : Nat} (h : k < 2 ^ 31) : nI k ≤ 0 ↔ k = 0 := by
  rcases Nat.eq_zero_or_pos k with z | z
  · rw [z]; exact ⟨fun _ => rfl, fun _ => by decide⟩
  · exact ⟨fun y => absurd y (nI_nle z h), fun y => by omega⟩
def pm_dl (n : Nat) : Nat → vv_S → Bool × vv_S
  | 0, τ => (true, τ)
  | f + 1, τ => if pm_r τ = 0 then (true, τ) else if (pm_dr1 n τ).1 = true then pm_dl n f (pm_dr1 n τ).2 else (false, (pm_dr1 n τ).2)
def pm_drain (σ : vv_S) (n : Nat) (x : Int32) : Int32 × vv_S := if σ 0 18 = 0 then (if ¬ x < nI 1 ∧ x ≤ nI 32 then (if (pm_dl n x.toNatClampNeg σ).1 = true then ((pm_dl n x.toNatClampNeg σ).2 0 8, (pm_dl n x.toNatClampNeg σ).2) else (-106, (pm_dl n x.toNatClampNeg σ).2)) else (-102, σ)) else (-100, σ)
/-- the records done again, with the cell and the serial behind them -/
def pm_sa (n : Nat) : Nat → Nat → Int32 → Int32 → vv_S → Bool × Int32 × Int32 × vv_S
  | 0, _, c, s, τ => (true, c, s, τ)
  | f + 1, k, c, s, τ => if (pm_dn n k (pm_s τ k) (pm_t τ) τ).1 = true then pm_sa n f (k + 1) (pm_rem (c + nI (pm_cells τ n k))) (τ 8 k + nI 1) (pm_tl (pm_dn n k (pm_s τ k) (pm_t τ) τ).2 6) else (false, pm_rem (c + nI (pm_cells τ n k)), τ 8 k + nI 1, (pm_dn n k (pm_s τ k) (pm_t τ) τ).2)
theorem pm_sa_J {n k : Nat} {τ : vv_S} (h : pm_J τ) : pm_J (pm_tl (pm_dn n k (pm_s τ k) (pm_t τ) τ).2 6) ∧ pm_r (pm_tl (pm_dn n k (pm_s τ k) (pm_t τ) τ).2 6) = pm_r τ := by
  have e8 : pm_tl (pm_dn n k (pm_s τ k) (pm_t τ) τ).2 6 0 8 = τ 0 8 := by rw [pm_tl_o (by decide)]; exact pm_dn_f (by decide) (by decide) (by decide)
  refine ⟨h.same e8 ?_ ?_ ?_, by unfold pm_r; rw [e8]⟩
  · rw [pm_tl_o (by decide)]; exact pm_dn_f (by decide) (by decide) (by decide)
  · rw [pm_tl_o (by decide)]; exact pm_dn_o (by decide) (by decide) (by decide) (by decide) (by decide) (by decide) (by decide) (by decide)
  · rw [pm_tl_o (by decide)]; exact pm_dn_o (by decide) (by decide) (by decide) (by decide) (by decide) (by decide) (by decide) (by decide)
def pm_st0 (σ : vv_S) (x : Int32) : vv_S := vv_up (vv_up σ 0 18 (nI 0)) 0 19 x
def pm_sar (σ : vv_S) (n : Nat) (x : Int32) : Bool × Int32 × Int32 × vv_S := pm_sa n (pm_r σ) 0 (σ 0 15) (σ 0 16) (pm_st0 σ x)
def pm_sm (σ : vv_S) (n : Nat) (x : Int32) : vv_S := pm_mk (pm_sar σ n x).2.2.2 n (pm_sar σ n x).2.1 (pm_sar σ n x).2.2.1
def pm_start (σ : vv_S) (n : Nat) (x : Int32) : Int32 × vv_S := if σ 0 18 = 0 then (-103, σ) else if pc_isc x then (if (pm_sar σ n x).1 = true then (if (pm_sar σ n x).2.2.2 0 19 = 0 then (-106, pm_sm σ n x)
  else (pm_sm σ n x 0 8, vv_up (vv_up (vv_up (vv_up (pm_sm σ n x) 0 8 (nI 0)) 0 17 (pm_sar σ n x).2.2.1) 0 19 (-1)) 0 21 (nI 0))) else (-106, (pm_sar σ n x).2.2.2)) else (-102, σ)
def pm_up (σ : vv_S) (s : Nat) : Nat → Nat
  | 0 => 0
  | k + 1 => if σ 7 k = nI s then k + 1 else pm_up σ s k
theorem pm_up_le {σ : vv_S} {s : Nat} : ∀ r, pm_up σ s r ≤ r
  | 0 => Nat.le_refl 0
  | r + 1 => by
    unfold pm_up
    split
    · exact Nat.le_refl _
    · have := pm_up_le (σ := σ) (s := s) r; omega
/-- q drained, one after the other (there are so many) -/
def pm_dq (n : Nat) : Nat → vv_S → Bool × vv_S
  | 0, τ => (true, τ)
  | q + 1, τ => if (pm_dr1 n τ).1 = true then pm_dq n q (pm_dr1 n τ).2 else (false, (pm_dr1 n τ).2)
def pm_bo (τ : vv_S) (n m s : Nat) : vv_S := pm_fo (vv_up τ 13 3 (τ 13 3 + nI (n - 1))) n (nI m) s
def pm_b1 (τ : vv_S) (n m s t : Nat) : vv_S := if pm_oth τ n (nI m) s then pm_ch (pm_bo τ n m s) n m s t else pm_tl (vv_up τ 3 (24 * m + s) (nI 1)) 8
def pm_b2 (τ : vv_S) (n m s t : Nat) : vv_S := vv_up (pm_b1 τ n m s t) 5 m (pm_b1 τ n m s t 5 m + nI 1)
def pm_bd (σ : vv_S) (n s : Nat) : Bool × vv_S := pm_dq n (pm_up σ s (pm_r σ)) σ
def pm_bm (τ : vv_S) (n m s t : Nat) : vv_S := pm_mk (pm_b2 τ n m s t) n (pm_b2 τ n m s t 0 15) (pm_b2 τ n m s t 0 16)
def pm_bu (σ : vv_S) (n m s t : Nat) : Bool × vv_S := if (pm_bd σ n s).1 = true then (if pm_oth (pm_bd σ n s).2 n (nI m) s ∧ (pm_bd σ n s).2 0 19 = 0 then (false, pm_b1 (pm_bd σ n s).2 n m s t)
  else if pm_b2 (pm_bd σ n s).2 n m s t 5 m = nI 24 then (if pm_b2 (pm_bd σ n s).2 n m s t 0 19 = 0 then (false, pm_bm (pm_bd σ n s).2 n m s t) else (true, vv_up (pm_bm (pm_bd σ n s).2 n m s t) 4 m (nI 0))) else (true, pm_b2 (pm_bd σ n s).2 n m s t)) else (false, (pm_bd σ n s).2)
theorem pm_dq_J {n : Nat} : ∀ (q : Nat) (τ : vv_S), pm_J τ → q ≤ pm_r τ → pm_J (pm_dq n q τ).2 ∧ pm_t (pm_dq n q τ).2 = pm_t τ
  | 0, τ, h, _ => ⟨h, rfl⟩
  | q + 1, τ, h, hq => by
    have hJ := pm_dr1_J (n := n) h (by omega)
    have ht : pm_t (pm_dr1 n τ).2 = pm_t τ := by
      unfold pm_t
      congr 1
      unfold pm_dr1
      split
      · split
        · exact pm_dm_f (by decide) (by decide) (by decide) (by decide) (by decide)
        · show pm_sh (pm_tl (pm_dm n τ) 5) (pm_r τ) 0 20 = _
          unfold pm_sh
          rw [vv_up_s, vv_upd_n (by decide)]
          show pm_tl (pm_dm n τ) 5 0 20 = _
          rw [pm_tl_o (by decide)]
          exact pm_dm_f (by decide) (by decide) (by decide) (by decide) (by decide)
      · exact pm_dn_f (by decide) (by decide) (by decide)
    unfold pm_dq
    split
    · rename_i hc
      obtain ⟨a, b⟩ := pm_dq_J q _ hJ.1 (by rw [hJ.2 hc]; omega)
      exact ⟨a, b.trans ht⟩
    · exact ⟨hJ.1, ht⟩
