/-! THE MODEL'S JOURNAL: drained, shifted -/
def pm_r (τ : vv_S) : Nat := (τ 0 8).toNatClampNeg
def pm_t (τ : vv_S) : Nat := (τ 0 20).toNatClampNeg
def pm_s (τ : vv_S) (k : Nat) : Nat := (τ 7 k).toNatClampNeg
def pm_J (τ : vv_S) : Prop := (τ 0 8 = nI (pm_r τ) ∧ pm_r τ ≤ 10) ∧ (τ 0 20 = nI (pm_t τ) ∧ pm_t τ ≤ 8) ∧ (∀ k, k < 16 → vp_nar .boolean (τ 10 k) = τ 10 k) ∧ ∀ k, k < pm_r τ → τ 7 k = nI (pm_s τ k) ∧ pm_s τ k < 24
theorem pm_J_of {τ : vv_S} {r t : Nat} (hr : τ 0 8 = nI r) (hr10 : r ≤ 10) (ht : τ 0 20 = nI t) (ht8 : t ≤ 8) (hb : ∀ k, k < 16 → vp_nar .boolean (τ 10 k) = τ 10 k) (hs : ∀ k, k < r → ∃ s, s < 24 ∧ τ 7 k = nI s) : pm_J τ := by
  have h1 : pm_r τ = r := by unfold pm_r; rw [hr, nI_clamp (by omega)]
  have h2 : pm_t τ = t := by unfold pm_t; rw [ht, nI_clamp (by omega)]
  refine ⟨⟨by rw [h1]; exact hr, by rw [h1]; exact hr10⟩, ⟨by rw [h2]; exact ht, by rw [h2]; exact ht8⟩, hb, fun k hk => ?_⟩
  rw [h1] at hk
  obtain ⟨s, h3, h4⟩ := hs k hk
  have h5 : pm_s τ k = s := by unfold pm_s; rw [h4, nI_clamp (by omega)]
  rw [h5]
  exact ⟨h4, h3⟩
theorem pm_J.same {τ τ' : vv_S} (h : pm_J τ) (h8 : τ' 0 8 = τ 0 8) (h20 : τ' 0 20 = τ 0 20) (h7 : τ' 7 = τ 7) (h10 : τ' 10 = τ 10) : pm_J τ' :=
  pm_J_of (by rw [h8]; exact h.1.1) h.1.2 (by rw [h20]; exact h.2.1.1) h.2.1.2 (fun k hk => by rw [h10]; exact h.2.2.1 k hk) (fun k hk => ⟨_, (h.2.2.2 k hk).2, by rw [h7]; exact (h.2.2.2 k hk).1⟩)
theorem pm_dnr_o {n k s t i : Nat} (h0 : i ≠ 0) (h1 : i ≠ 1) (h2 : i ≠ 2) (h3 : i ≠ 3) (h5 : i ≠ 5) (h6 : i ≠ 6) (h13 : i ≠ 13) (h14 : i ≠ 14) : ∀ (f d : Nat) (τ : vv_S), (pm_dnr n k s t f d τ).2 i = τ i
  | 0, _, _ => rfl
  | f + 1, d, τ => by
    unfold pm_dnr
    split
    · split
      · rw [show (false, pm_ch (pm_ff τ k d) n (pc_mo n s d) s t).2 = pm_ch (pm_ff τ k d) n (pc_mo n s d) s t from rfl, pm_ch_o h0 h1 h2 h3 h5 h6 h13, pm_ff_o h14]
      · rw [pm_dnr_o h0 h1 h2 h3 h5 h6 h13 h14 f, pm_ch_o h0 h1 h2 h3 h5 h6 h13, pm_ff_o h14]
    · exact pm_dnr_o h0 h1 h2 h3 h5 h6 h13 h14 f _ _
theorem pm_dnr_f {n k s t j : Nat} (h18 : j ≠ 18) (h19 : j ≠ 19) (h21 : j ≠ 21) : ∀ (f d : Nat) (τ : vv_S), (pm_dnr n k s t f d τ).2 0 j = τ 0 j
  | 0, _, _ => rfl
  | f + 1, d, τ => by
    unfold pm_dnr
    split
    · split
      · rw [show (false, pm_ch (pm_ff τ k d) n (pc_mo n s d) s t).2 = pm_ch (pm_ff τ k d) n (pc_mo n s d) s t from rfl, pm_ch_f h18 h19 h21, pm_ff_o (by decide)]
      · rw [pm_dnr_f h18 h19 h21 f, pm_ch_f h18 h19 h21, pm_ff_o (by decide)]
    · exact pm_dnr_f h18 h19 h21 f _ _
theorem pm_dn_o {n k s t i : Nat} {τ : vv_S} (h0 : i ≠ 0) (h1 : i ≠ 1) (h2 : i ≠ 2) (h3 : i ≠ 3) (h5 : i ≠ 5) (h6 : i ≠ 6) (h13 : i ≠ 13) (h14 : i ≠ 14) : (pm_dn n k s t τ).2 i = τ i := by
  have e := pm_dnr_o (n := n) (k := k) (s := s) (t := t) h0 h1 h2 h3 h5 h6 h13 h14 (n - 1) 0 τ
  unfold pm_dn
  split
  · unfold pm_dp
    split
    · split
      · rw [show ∀ z : vv_S, (false, z).2 = z from fun _ => rfl, pm_ch_o h0 h1 h2 h3 h5 h6 h13, pm_ff_o h14, e]
      · rw [show ∀ z : vv_S, (true, z).2 = z from fun _ => rfl, pm_ch_o h0 h1 h2 h3 h5 h6 h13, pm_ff_o h14, e]
    · exact e
  · exact e
theorem pm_dn_f {n k s t j : Nat} {τ : vv_S} (h18 : j ≠ 18) (h19 : j ≠ 19) (h21 : j ≠ 21) : (pm_dn n k s t τ).2 0 j = τ 0 j := by
  have e := pm_dnr_f (n := n) (k := k) (s := s) (t := t) h18 h19 h21 (n - 1) 0 τ
  unfold pm_dn
  split
  · unfold pm_dp
    split
    · split
      · rw [show ∀ z : vv_S, (false, z).2 = z from fun _ => rfl, pm_ch_f h18 h19 h21, pm_ff_o (by decide), e]
      · rw [show ∀ z : vv_S, (true, z).2 = z from fun _ => rfl, pm_ch_f h18 h19 h21, pm_ff_o (by decide), e]
    · exact e
  · exact e
/-- a row moved by one, as far as i; by 48, as far as c -/
def pm_sf (f : Nat → Int32) (i : Nat) : Nat → Int32 := fun j => if j < i then f (j + 1) else f j
def pm_s48 (f : Nat → Int32) (c : Nat) : Nat → Int32 := fun j => if j < c then f (j + 48) else f j
theorem pm_sf_0 {f : Nat → Int32} : pm_sf f 0 = f := by funext j; exact if_neg (Nat.not_lt_zero j)
theorem pm_s48_0 {f : Nat → Int32} : pm_s48 f 0 = f := by funext j; exact if_neg (Nat.not_lt_zero j)
theorem pm_sf_up {f : Nat → Int32} {i : Nat} : upd (pm_sf f i) i (f (i + 1)) = pm_sf f (i + 1) := by funext j; unfold upd pm_sf; grind
theorem pm_s48_up {f : Nat → Int32} {c : Nat} : upd (pm_s48 f c) c (f (c + 48)) = pm_s48 f (c + 1) := by funext j; unfold upd pm_s48; grind
def pm_r6 (τ : vv_S) (f7 f8 f9 f10 f11 f12 : Nat → Int32) : vv_S := fun k => if k = 7 then f7 else if k = 8 then f8 else if k = 9 then f9 else if k = 10 then f10 else if k = 11 then f11 else if k = 12 then f12 else τ k
section R6
variable {τ : vv_S} {f7 f8 f9 f10 f11 f12 : Nat → Int32} {j : Nat} {v : Int32}
theorem pm_r6_7 : vv_up (pm_r6 τ f7 f8 f9 f10 f11 f12) 7 j v = pm_r6 τ (upd f7 j v) f8 f9 f10 f11 f12 := by funext k; unfold vv_up pm_r6; by_cases h : k = 7 <;> simp [h]
theorem pm_r6_8 : vv_up (pm_r6 τ f7 f8 f9 f10 f11 f12) 8 j v = pm_r6 τ f7 (upd f8 j v) f9 f10 f11 f12 := by funext k; unfold vv_up pm_r6; by_cases h : k = 8 <;> simp [h]
theorem pm_r6_9 : vv_up (pm_r6 τ f7 f8 f9 f10 f11 f12) 9 j v = pm_r6 τ f7 f8 (upd f9 j v) f10 f11 f12 := by funext k; unfold vv_up pm_r6; by_cases h : k = 9 <;> simp [h]
theorem pm_r6_10 : vv_up (pm_r6 τ f7 f8 f9 f10 f11 f12) 10 j v = pm_r6 τ f7 f8 f9 (upd f10 j v) f11 f12 := by funext k; unfold vv_up pm_r6; by_cases h : k = 10 <;> simp [h]
theorem pm_r6_11 : vv_up (pm_r6 τ f7 f8 f9 f10 f11 f12) 11 j v = pm_r6 τ f7 f8 f9 f10 (upd f11 j v) f12 := by funext k; unfold vv_up pm_r6; by_cases h : k = 11 <;> simp [h]
theorem pm_r6_12 : vv_up (pm_r6 τ f7 f8 f9 f10 f11 f12) 12 j v = pm_r6 τ f7 f8 f9 f10 f11 (upd f12 j v) := by funext k; unfold vv_up pm_r6; by_cases h : k = 12 <;> simp [h]
theorem pm_r6_id : pm_r6 τ (τ 7) (τ 8) (τ 9) (τ 10) (τ 11) (τ 12) = τ := by
  funext k
  unfold pm_r6
  by_cases h7 : k = 7
  · simp [h7]
  · by_cases h8 : k = 8
    · simp [h8]
    · by_cases h9 : k = 9
      · simp [h9]
      · by_cases h10 : k = 10
        · simp [h10]
        · by_cases h11 : k = 11
          · simp [h11]
          · by_cases h12 : k = 12
            · simp [h12]
            · simp [h7, h8, h9, h10, h11, h12]
end R6
def pm_shi (τ : vv_S) (i c : Nat) : vv_S := pm_r6 τ (pm_sf (τ 7) i) (pm_sf (τ 8) i) (pm_sf (τ 9) i) (pm_sf (τ 10) i) (pm_sf (τ 11) i) (pm_s48 (τ 12) c)
theorem pm_shi_0 {τ : vv_S} : pm_shi τ 0 0 = τ := by unfold pm_shi; rw [pm_sf_0, pm_sf_0, pm_sf_0, pm_sf_0, pm_sf_0, pm_s48_0, pm_r6_id]
theorem pm_shi_st {τ : vv_S} {i c : Nat} : vv_up (vv_up (vv_up (vv_up (vv_up (pm_shi τ i c) 7 i (τ 7 (i + 1))) 8 i (τ 8 (i + 1))) 9 i (τ 9 (i + 1))) 10 i (τ 10 (i + 1))) 11 i (τ 11 (i + 1)) = pm_shi τ (i + 1) c := by
  unfold pm_shi
  rw [pm_r6_7, pm_r6_8, pm_r6_9, pm_r6_10, pm_r6_11, pm_sf_up, pm_sf_up, pm_sf_up, pm_sf_up, pm_sf_up]
theorem pm_shi_k {τ : vv_S} {i c : Nat} : vv_up (pm_shi τ i c) 12 c (τ 12 (c + 48)) = pm_shi τ i (c + 1) := by
  unfold pm_shi
  rw [pm_r6_12, pm_s48_up]
def pm_sh (τ : vv_S) (r : Nat) : vv_S := vv_up (pm_shi τ (r - 1) (48 * (r - 1))) 0 8 (nI (r - 1))
/-- a rest as the machine has it -/
abbrev pm_rem (x : Int32) : Int32 := x - x / nI 32 * nI 32
def pm_dd (n : Nat) (τ : vv_S) : Bool × vv_S := pm_dn n 0 (pm_s τ 0) (pm_t τ) τ
def pm_dm (n : Nat) (τ : vv_S) : vv_S := pm_mk (pm_dd n τ).2 n (pm_rem (τ 0 15 + nI (pm_cells τ n 0))) ((pm_dd n τ).2 8 0 + nI 1)
def pm_dr1 (n : Nat) (τ : vv_S) : Bool × vv_S := if (pm_dd n τ).1 = true then (if (pm_dd n τ).2 0 19 = 0 then (false, pm_dm n τ) else (true, pm_sh (pm_tl (pm_dm n τ) 5) (pm_r τ))) else (false, (pm_dd n τ).2)
theorem pm_mk_o {σ : vv_S} {n k : Nat} {c r : Int32} (h0 : k ≠ 0) (h5 : k ≠ 5) (h13 : k ≠ 13) : pm_mk σ n c r k = σ k := by
  unfold pm_mk
  split
  · rw [pm_go_o h0 h5 h13, pm_tl_o h13]
  · rw [vv_up_n h0, vv_up_n h0, pm_go_o h0 h5 h13, pm_tl_o h13]
theorem pm_mk_f {σ : vv_S} {n j : Nat} {c r : Int32} (h15 : j ≠ 15) (h16 : j ≠ 16) (h18 : j ≠ 18) (h19 : j ≠ 19) (h21 : j ≠ 21) : pm_mk σ n c r 0 j = σ 0 j := by
  unfold pm_mk
  split
  · rw [pm_go_f h18 h19 h21, pm_tl_o (by decide)]
  · rw [vv_up_s, vv_upd_n h16, vv_up_s, vv_upd_n h15, pm_go_f h18 h19 h21, pm_tl_o (by decide)]
theorem pm_dm_o {n i : Nat} {τ : vv_S} (h0 : i ≠ 0) (h1 : i ≠ 1) (h2 : i ≠ 2) (h3 : i ≠ 3) (h5 : i ≠ 5) (h6 : i ≠ 6) (h13 : i ≠ 13) (h14 : i ≠ 14) : pm_dm n τ i = τ i := by
  unfold pm_dm pm_dd
  rw [pm_mk_o h0 h5 h13, pm_dn_o h0 h1 h2 h3 h5 h6 h13 h14]
theorem pm_dm_f {n j : Nat} {τ : vv_S} (h15 : j ≠ 15) (h16 : j ≠ 16) (h18 : j ≠ 18) (h19 : j ≠ 19) (h21 : j ≠ 21) : pm_dm n τ 0 j = τ 0 j := by
  unfold pm_dm pm_dd
  rw [pm_mk_f h15 h16 h18 h19 h21, pm_dn_f h18 h19 h21]
theorem pm_dr1_J {n : Nat} {τ : vv_S} (h : pm_J τ) (hr : 0 < pm_r τ) : pm_J (pm_dr1 n τ).2 ∧ ((pm_dr1 n τ).1 = true → pm_r (pm_dr1 n τ).2 = pm_r τ - 1) := by
  have hr10 := h.1.2
  unfold pm_dr1
  split
  · split
    · refine ⟨h.same ?_ ?_ ?_ ?_, fun z => by cases z⟩
      · exact pm_dm_f (by decide) (by decide) (by decide) (by decide) (by decide)
      · exact pm_dm_f (by decide) (by decide) (by decide) (by decide) (by decide)
      · exact pm_dm_o (by decide) (by decide) (by decide) (by decide) (by decide) (by decide) (by decide) (by decide)
      · exact pm_dm_o (by decide) (by decide) (by decide) (by decide) (by decide) (by decide) (by decide) (by decide)
    · have e7 : pm_tl (pm_dm n τ) 5 7 = τ 7 := by rw [pm_tl_o (by decide)]; exact pm_dm_o (by decide) (by decide) (by decide) (by decide) (by decide) (by decide) (by decide) (by decide)
      have e10 : pm_tl (pm_dm n τ) 5 10 = τ 10 := by rw [pm_tl_o (by decide)]; exact pm_dm_o (by decide) (by decide) (by decide) (by decide) (by decide) (by decide) (by decide) (by decide)
      have e8 : pm_sh (pm_tl (pm_dm n τ) 5) (pm_r τ) 0 8 = nI (pm_r τ - 1) := by unfold pm_sh; rw [vv_up_s, vv_upd_s]
      have e20 : pm_sh (pm_tl (pm_dm n τ) 5) (pm_r τ) 0 20 = τ 0 20 := by
        unfold pm_sh
        rw [vv_up_s, vv_upd_n (by decide)]
        show pm_tl (pm_dm n τ) 5 0 20 = _
        rw [pm_tl_o (by decide)]
        exact pm_dm_f (by decide) (by decide) (by decide) (by decide) (by decide)
      have f7 : pm_sh (pm_tl (pm_dm n τ) 5) (pm_r τ) 7 = pm_sf (τ 7) (pm_r τ - 1) := by unfold pm_sh; rw [vv_up_n (by decide)]; show pm_sf (pm_tl (pm_dm n τ) 5 7) _ = _; rw [e7]
      have f10 : pm_sh (pm_tl (pm_dm n τ) 5) (pm_r τ) 10 = pm_sf (τ 10) (pm_r τ - 1) := by unfold pm_sh; rw [vv_up_n (by decide)]; show pm_sf (pm_tl (pm_dm n τ) 5 10) _ = _; rw [e10]
      show pm_J (pm_sh (pm_tl (pm_dm n τ) 5) (pm_r τ)) ∧ (true = true → pm_r (pm_sh (pm_tl (pm_dm n τ) 5) (pm_r τ)) = pm_r τ - 1)
      refine ⟨pm_J_of (r := pm_r τ - 1) (t := pm_t τ) e8 (by omega) (by rw [e20]; exact h.2.1.1) h.2.1.2 (fun k hk => ?_) (fun k hk => ?_), fun _ => ?_⟩
      · rw [f10]
        unfold pm_sf
        split
        · exact h.2.2.1 (k + 1) (by omega)
        · exact h.2.2.1 k hk
      · rw [f7]
        unfold pm_sf
        rw [if_pos (by omega)]
        exact ⟨_, (h.2.2.2 (k + 1) (by omega)).2, (h.2.2.2 (k + 1) (by omega)).1⟩
      · show pm_r (pm_sh (pm_tl (pm_dm n τ) 5) (pm_r τ)) = _
        unfold pm_r at e8 ⊢
        rw [e8, nI_clamp (by unfold pm_r at hr10; omega)]
  · refine ⟨h.same ?_ ?_ ?_ ?_, fun z => by cases z⟩
    · exact pm_dn_f (by decide) (by decide) (by decide)
    · exact pm_dn_f (by decide) (by decide) (by decide)
    · exact pm_dn_o (by decide) (by decide) (by decide) (by decide) (by decide) (by decide) (by decide) (by decide)
    · exact pm_dn_o (by decide) (by decide) (by decide) (by decide) (by decide) (by decide) (by decide) (by decide)
