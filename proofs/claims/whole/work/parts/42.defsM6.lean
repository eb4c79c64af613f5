/-! spare, build, scrub, write, word of the model -/
theorem vv_upd_z {g : Nat → Int32} {a i : Nat} : upd (fun j => if a ≤ j ∧ j < a + i then nI 0 else g j) (a + i) (nI 0) = fun j => if a ≤ j ∧ j < a + (i + 1) then nI 0 else g j := vv_upd_rng (F := fun _ => nI 0)
/-- rows 1, 2, 3 of a member set to 0, as far as s (words: as far as c) -/
def pm_zr (σ : vv_S) (m s c : Nat) : vv_S := vv_row (vv_row (vv_row σ 3 (fun j => if 24 * m ≤ j ∧ j < 24 * m + s then nI 0 else σ 3 j)) 2 (fun j => if 24 * m ≤ j ∧ j < 24 * m + s then nI 0 else σ 2 j)) 1 (fun j => if 192 * m ≤ j ∧ j < 192 * m + c then nI 0 else σ 1 j)
theorem pm_zr_0 {σ : vv_S} {m : Nat} : pm_zr σ m 0 0 = σ := by
  unfold pm_zr
  rw [vv_row_of (k := 1) (by rw [vv_row_n (by decide), vv_row_n (by decide)]; funext j; exact if_neg (by omega)), vv_row_of (k := 2) (by rw [vv_row_n (by decide)]; funext j; exact if_neg (by omega)), vv_row_of (k := 3) (by funext j; exact if_neg (by omega))]
theorem pm_zr_s {σ : vv_S} {m s c : Nat} : vv_up (vv_up (pm_zr σ m s c) 3 (24 * m + s) (nI 0)) 2 (24 * m + s) (nI 0) = pm_zr σ m (s + 1) c := by
  unfold pm_zr
  rw [vv_up_row_n (by decide), vv_up_row_n (by decide), vv_up_row_n (by decide), vv_up_row, vv_up_row, vv_upd_z, vv_upd_z]
theorem pm_zr_c {σ : vv_S} {m s c : Nat} : vv_up (pm_zr σ m s c) 1 (192 * m + c) (nI 0) = pm_zr σ m s (c + 1) := by
  unfold pm_zr
  rw [vv_up_row, vv_upd_z]
def pm_sp (σ : vv_S) (m : Nat) : vv_S := pm_zr (vv_up (vv_up σ 4 m (nI 2)) 5 m (nI 0)) m 24 192
def pm_spare (σ : vv_S) (n : Nat) : Int32 × vv_S := if σ 0 18 = 0 then (if pm_nt σ n 0 = -1 then (-103, σ) else if σ 4 (pm_nt σ n 0).toNatClampNeg = nI 1 then (pm_nt σ n 0, pm_sp σ (pm_nt σ n 0).toNatClampNeg) else (-103, σ)) else (-100, σ)
def pm_bb (τ : vv_S) (m : Nat) : Nat := (τ 5 m).toNatClampNeg
def pm_bl (n m : Nat) : Nat → vv_S → Bool × vv_S
  | 0, τ => (true, τ)
  | f + 1, τ => if τ 4 m = nI 2 then (if (pm_bu τ n m (pm_bb τ m) (pm_t τ)).1 = true then pm_bl n m f (pm_bu τ n m (pm_bb τ m) (pm_t τ)).2 else (false, (pm_bu τ n m (pm_bb τ m) (pm_t τ)).2)) else (true, τ)
/-- what must hold along a run of build-ups (given by the relation to the class) -/
def pm_bok (n m : Nat) : Nat → vv_S → Prop
  | 0, _ => True
  | f + 1, τ => τ 4 m = nI 2 → pm_J τ ∧ τ 5 m = nI (pm_bb τ m) ∧ pm_bb τ m < 24 ∧ ((pm_bu τ n m (pm_bb τ m) (pm_t τ)).1 = true → pm_bok n m f (pm_bu τ n m (pm_bb τ m) (pm_t τ)).2)
def pm_build (σ : vv_S) (n : Nat) (x : Int32) : Int32 × vv_S := if σ 0 18 = 0 then (if ¬ x < nI 1 ∧ x ≤ nI 24 then (if pm_nt σ n 0 = -1 then (-103, σ) else if σ 4 (pm_nt σ n 0).toNatClampNeg = nI 2 then
  (if (pm_bl n (pm_nt σ n 0).toNatClampNeg x.toNatClampNeg σ).1 = true then ((if (pm_bl n (pm_nt σ n 0).toNatClampNeg x.toNatClampNeg σ).2 4 (pm_nt σ n 0).toNatClampNeg = nI 2 then nI 24 - (pm_bl n (pm_nt σ n 0).toNatClampNeg x.toNatClampNeg σ).2 5 (pm_nt σ n 0).toNatClampNeg else nI 0), (pm_bl n (pm_nt σ n 0).toNatClampNeg x.toNatClampNeg σ).2)
   else (-106, (pm_bl n (pm_nt σ n 0).toNatClampNeg x.toNatClampNeg σ).2)) else (-103, σ)) else (-102, σ)) else (-100, σ)
/-- scrub: missing chunks, the last of them -/
def pm_mi (σ : vv_S) (s : Nat) : Nat → Nat
  | 0 => 0
  | m + 1 => if pm_there σ m s then pm_mi σ s m else pm_mi σ s m + 1
def pm_wh (σ : vv_S) (s : Nat) : Nat → Int32
  | 0 => -1
  | m + 1 => if pm_there σ m s then pm_wh σ s m else nI m
theorem pm_mi_le {σ : vv_S} {s : Nat} : ∀ {m : Nat}, pm_mi σ s m ≤ m
  | 0 => Nat.le_refl 0
  | m + 1 => by have := pm_mi_le (σ := σ) (s := s) (m := m); unfold pm_mi; split <;> omega
theorem pm_wh_or {σ : vv_S} {s : Nat} : ∀ m, (pm_wh σ s m = -1 ∧ pm_mi σ s m = 0) ∨ ∃ k, k < m ∧ pm_wh σ s m = nI k
  | 0 => Or.inl ⟨rfl, rfl⟩
  | m + 1 => by
    unfold pm_wh pm_mi
    split
    · rcases pm_wh_or (σ := σ) (s := s) m with h | ⟨k, h1, h2⟩
      · exact Or.inl h
      · exact Or.inr ⟨k, by omega, h2⟩
    · exact Or.inr ⟨m, by omega, rfl⟩
def pm_s0 (τ : vv_S) (n s : Nat) : vv_S := vv_up (vv_up τ 0 21 (nI ((s + 1) % 24))) 13 3 (τ 13 3 + nI n)
/-- which member is mended -/
def pm_sw (τ : vv_S) (n s : Nat) : Int32 := if pm_mi τ s n = 0 ∧ ¬ pm_ev τ n s then nI (pc_pm n s) else if pm_mi τ s n = 1 then pm_wh τ s n else -1
def pm_s1 (τ : vv_S) (n s t : Nat) : vv_S := pm_ch (pm_fo (pm_s0 τ n s) n (pm_sw (pm_s0 τ n s) n s) s) n (pm_sw (pm_s0 τ n s) n s).toNatClampNeg s t
def pm_sl (n t : Nat) : Nat → Nat → vv_S → Bool × Nat × vv_S
  | 0, c, τ => (true, c, τ)
  | f + 1, c, τ => if pm_sw (pm_s0 τ n (τ 0 21).toNatClampNeg) n (τ 0 21).toNatClampNeg = -1 then pm_sl n t f c (pm_s0 τ n (τ 0 21).toNatClampNeg) else if τ 0 19 = 0 then (false, c, pm_s1 τ n (τ 0 21).toNatClampNeg t) else pm_sl n t f (c + 1) (pm_tl (pm_s1 τ n (τ 0 21).toNatClampNeg t) 7)
def pm_scrub (σ : vv_S) (n : Nat) (x : Int32) : Int32 × vv_S := if σ 0 18 = 0 then (if ¬ x < nI 1 ∧ x ≤ nI 24 then (if pm_nt σ n 0 = -1 then (if (pm_sl n (pm_t σ) x.toNatClampNeg 0 σ).1 = true then (nI (pm_sl n (pm_t σ) x.toNatClampNeg 0 σ).2.1, (pm_sl n (pm_t σ) x.toNatClampNeg 0 σ).2.2) else (-106, (pm_sl n (pm_t σ) x.toNatClampNeg 0 σ).2.2)) else (-103, σ)) else (-102, σ)) else (-100, σ)
theorem pm_sw_nat {τ : vv_S} {n s : Nat} (hn3 : 3 ≤ n) (hn : n ≤ 6) (h : ¬ pm_sw τ n s = -1) : ∃ k, k < n ∧ pm_sw τ n s = nI k := by
  unfold pm_sw at h ⊢
  split
  · exact ⟨_, pc_pm_lt hn3, rfl⟩
  · rename_i h1
    rw [if_neg h1] at h
    split
    · rename_i h2
      rw [if_pos h2] at h
      rcases pm_wh_or (σ := τ) (s := s) n with ⟨z, -⟩ | z
      · exact absurd z h
      · exact z
    · rename_i h2
      rw [if_neg h2] at h
      exact absurd rfl h
def pm_gv (τ : vv_S) (d : Nat) (u : Int32) (i : Nat) : vv_S := vv_row τ 15 (fun j => if 8 * d ≤ j ∧ j < 8 * d + i then u + nI (j - 8 * d) else τ 15 j)
theorem pm_gv_0 {τ : vv_S} {d : Nat} {u : Int32} : pm_gv τ d u 0 = τ := vv_row_of (by funext j; exact if_neg (by omega))
theorem pm_gv_s {τ : vv_S} {d i : Nat} {u : Int32} : vv_up (pm_gv τ d u i) 15 (8 * d + i) (u + nI i) = pm_gv τ d u (i + 1) := by unfold pm_gv; rw [vv_up_row]; exact congrArg (vv_row τ 15) (vv_upd_rng (F := fun j => u + nI j))
def pm_wb (n kb kc s : Nat) (v : Int32) : Nat → Nat → Int32 → vv_S → Nat × Int32 × vv_S
  | 0, k, x, τ => (k, x, τ)
  | f + 1, k, x, τ => if k < kc ∧ (kb + k) / (n - 1) = s then pm_wb n kb kc s v f (k + 1) (x ||| (nI 1 <<< (nI ((kb + k) % (n - 1)) &&& 31))) (pm_gv τ ((kb + k) % (n - 1)) (v + nI (8 * k)) 8) else (k, x, τ)
def pm_wt (τ : vv_S) (n kb kc k : Nat) (v : Int32) : Nat × Int32 × vv_S := pm_wb n kb kc ((kb + k) / (n - 1)) v (kc - k) k (nI 0) τ
def pm_ww (τ : vv_S) (n kb kc k : Nat) (v : Int32) : Int32 × vv_S := pm_st (pm_wt τ n kb kc k v).2.2 n (pm_r τ) ((kb + k) / (n - 1)) (pm_wt τ n kb kc k v).2.1
def pm_wr (n kb kc : Nat) (v : Int32) : Nat → Nat → vv_S → Int32 × vv_S
  | 0, _, τ => (nI 0, τ)
  | f + 1, k, τ => if k < kc then (if (pm_ww τ n kb kc k v).1 = 0 then pm_wr n kb kc v f (pm_wt τ n kb kc k v).1 (pm_ww τ n kb kc k v).2 else pm_ww τ n kb kc k v) else (nI 0, τ)
def pm_wok (n kb kc : Nat) (v : Int32) : Nat → Nat → vv_S → Prop
  | 0, _, _ => True
  | f + 1, k, τ => k < kc → pm_J τ ∧ ((pm_ww τ n kb kc k v).1 = 0 → pm_wok n kb kc v f (pm_wt τ n kb kc k v).1 (pm_ww τ n kb kc k v).2)
theorem pm_wb_o {n kb kc s : Nat} {v : Int32} {i : Nat} (h : i ≠ 15) : ∀ (f k : Nat) (x : Int32) (τ : vv_S), (pm_wb n kb kc s v f k x τ).2.2 i = τ i
  | 0, _, _, _ => rfl
  | f + 1, k, x, τ => by
    unfold pm_wb
    split
    · rw [pm_wb_o h f]
      exact vv_row_n h
    · rfl
theorem pm_wb_ge {n kb kc s : Nat} {v : Int32} : ∀ (f k : Nat) (x : Int32) (τ : vv_S), k ≤ (pm_wb n kb kc s v f k x τ).1
  | 0, k, _, _ => Nat.le_refl k
  | f + 1, k, x, τ => by
    unfold pm_wb
    split
    · have := pm_wb_ge (n := n) (kb := kb) (kc := kc) (s := s) (v := v) f (k + 1) (x ||| (nI 1 <<< (nI ((kb + k) % (n - 1)) &&& 31))) (pm_gv τ ((kb + k) % (n - 1)) (v + nI (8 * k)) 8); omega
    · exact Nat.le_refl k
theorem pm_wt_gt {τ : vv_S} {n kb kc k : Nat} {v : Int32} (h : k < kc) : k < (pm_wt τ n kb kc k v).1 := by
  unfold pm_wt
  rw [show kc - k = (kc - (k + 1)) + 1 by omega]
  unfold pm_wb
  rw [if_pos ⟨h, rfl⟩]
  exact pm_wb_ge _ _ _ _
def pm_write (σ : vv_S) (n : Nat) (b c v : Int32) : Int32 × vv_S := if σ 0 18 = 0 then (if pc_isb n b then (if ¬ c < nI 1 ∧ c ≤ nI (2 * (n - 1)) then
  (if pc_isb n (nI (b.toNatClampNeg + c.toNatClampNeg - 1)) then (if (pm_wr n b.toNatClampNeg c.toNatClampNeg v c.toNatClampNeg 0 σ).1 = 0 then (c, (pm_wr n b.toNatClampNeg c.toNatClampNeg v c.toNatClampNeg 0 σ).2) else pm_wr n b.toNatClampNeg c.toNatClampNeg v c.toNatClampNeg 0 σ) else (-101, σ)) else (-102, σ)) else (-101, σ)) else (-100, σ)
/-- word: what it would throw, its answer -/
def pm_th (σ : vv_S) (n r : Nat) (b i : Int32) : Nat := if pc_isb n b ∧ ¬ i < 0 ∧ i < nI 8 then (if σ 0 18 = 0 ∧ ¬ pm_from σ n r b.toNatClampNeg = 3 then 0 else 2) else 1
def pm_wd (σ : vv_S) (n r : Nat) (b i : Int32) : Int32 := if pm_th σ n r b i = 0 then (if pm_from σ n r b.toNatClampNeg = 2 then pm_ox σ (nI (pc_mo n (b.toNatClampNeg / (n - 1)) (b.toNatClampNeg % (n - 1)))) (b.toNatClampNeg / (n - 1)) i.toNatClampNeg n else pm_nw σ n r (b.toNatClampNeg / (n - 1)) (b.toNatClampNeg % (n - 1)) i.toNatClampNeg) else nI 0
theorem pm_ch_21 {σ : vv_S} {n m s t j : Nat} (h : ¬ σ 0 19 = 0) (hj : j ≠ 19) : pm_ch σ n m s t 0 j = σ 0 j := by
  have e : pm_c2 σ n m s t 0 j = σ 0 j := by
    unfold pm_c2 pm_c1 pm_go
    rw [vv_row_n (by decide), if_neg (show ¬ vv_up σ 6 m (σ 6 m + nI 1) 0 19 = 0 from h)]
    unfold pm_tl
    rw [vv_up_s, vv_upd_n hj, vv_up_n (by decide), vv_up_n (by decide)]
  unfold pm_ch
  rw [if_neg h, vv_up_n (by decide), vv_up_n (by decide)]
  exact e
theorem pm_s0_21 {τ : vv_S} {n z : Nat} (hz : z < 24) : pm_s0 τ n z 0 21 = nI (pm_s0 τ n z 0 21).toNatClampNeg ∧ (pm_s0 τ n z 0 21).toNatClampNeg < 24 := by
  have e : pm_s0 τ n z 0 21 = nI ((z + 1) % 24) := by unfold pm_s0; rw [vv_up_n (by decide), vv_up_s, vv_upd_s]
  rw [e, nI_clamp (by omega)]
  exact ⟨rfl, Nat.mod_lt _ (by decide)⟩
