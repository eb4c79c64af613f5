/-! THE RELATION between the class's store and the model's -/
/-- one record: the class's entry e is the model's k-th -/
def pr_ent (n : Nat) (σ ρ : vv_S) (e k : Nat) : Prop :=
  ρ 7 k = σ (pc_e e) 1 ∧ ρ 9 k = σ (pc_e e) 2 &&& pc_all n ∧ ρ 10 k = (if pc_bit (σ (pc_e e) 2) (n - 1) then nI 1 else nI 0) ∧ ρ 11 k = σ (pc_e e) 3 ∧
  (∃ x, x < 2 ^ n ∧ x ≠ 0 ∧ σ (pc_e e) 2 = nI x) ∧ (∀ d i, d < n - 1 → i < 8 → pc_bit (σ (pc_e e) 2) d → ρ 12 (8 * (6 * k + d) + i) = σ (pc_e e + 1) (d * 8 + i)) ∧
  ∀ i, i < 8 → pc_bit (σ (pc_e e) 2) (n - 1) → ρ 12 (8 * (6 * k + 5) + i) = σ (pc_e e + 1) ((n - 1) * 8 + i)
/-- one member's chunks, counters, state -/
def pr_st (σ ρ : vv_S) (m : Nat) : Prop := (σ (pc_d m) 3 = 0 ∧ σ (pc_d m) 4 = nI 24) ∨ (σ (pc_d m) 3 = nI 1 ∧ σ (pc_d m) 4 = nI 0) ∨ (σ (pc_d m) 3 = nI 2 ∧ ∃ b, b < 24 ∧ σ (pc_d m) 4 = nI b ∧ ρ 5 m = nI b)
def pr_mem (σ ρ : vv_S) (m : Nat) : Prop :=
  (∀ s i, s < 24 → i < 8 → ρ 1 (8 * (24 * m + s) + i) = σ (pc_d m + 1) (s * 8 + i)) ∧ (∀ s, s < 24 → ρ 2 (24 * m + s) = σ (pc_d m + 2) s) ∧ (∀ s, s < 24 → ρ 3 (24 * m + s) = σ (pc_d m + 3) s) ∧
  ρ 4 m = σ (pc_d m) 3 ∧ ρ 6 m = σ (pc_d m) 5 ∧ pr_st σ ρ m
def pr_one (n : Nat) (σ : vv_S) : Prop := ∀ m m', m < n → m' < n → ¬ σ (pc_d m) 3 = 0 → ¬ σ (pc_d m') 3 = 0 → m = m'
def pr_dev (n : Nat) (σ ρ : vv_S) : Prop := (∀ m, m < n → pr_mem σ ρ m) ∧ pr_one n σ
/-- the numbers of the object -/
def pr_num (σ ρ : vv_S) : Prop := ρ 0 18 = σ 0 6 ∧ ρ 0 19 = σ 0 7 ∧ ρ 0 20 = σ 0 8 ∧ ρ 0 21 = σ 0 9 ∧ (∀ j, j < 13 → ρ 13 j = σ 4 j) ∧
  (∃ t, t ≤ 8 ∧ σ 0 8 = nI t) ∧ (∃ z, z < 24 ∧ σ 0 9 = nI z ∧ (¬ σ 0 6 = 0 → z = 0)) ∧ (σ 0 6 = nI 0 ∨ σ 0 6 = nI 1)
/-- the journal -/
def pr_log (n : Nat) (σ ρ : vv_S) : Prop := pc_I σ ∧ ρ 0 8 = σ 2 2 ∧ ρ 0 15 = σ 2 4 ∧ ρ 0 16 = σ 2 5 ∧ ρ 0 17 = σ 2 5 + σ 2 2 ∧
  (∀ k, k < pc_r σ → pr_ent n σ ρ (pc_re (pc_o σ) k) k ∧ ρ 8 k = σ 2 5 + nI k) ∧ ∀ k, k < 16 → vp_nar .boolean (ρ 10 k) = ρ 10 k
def pr_Rel (n : Nat) (σ ρ : vv_S) : Prop := pr_dev n σ ρ ∧ pr_num σ ρ ∧ pr_log n σ ρ
section PRREL
variable {n : Nat} {σ ρ σ' ρ' : vv_S}
theorem pr_Rel.I (h : pr_Rel n σ ρ) : pc_I σ := h.2.2.1
theorem pr_Rel.mem (h : pr_Rel n σ ρ) {m : Nat} (hm : m < n) : pr_mem σ ρ m := h.1.1 m hm
theorem pr_Rel.r (h : pr_Rel n σ ρ) : pm_r ρ = pc_r σ := by unfold pm_r pc_r; rw [h.2.2.2.1]
theorem pr_Rel.cut (h : pr_Rel n σ ρ) : ρ 0 19 = σ 0 7 := h.2.1.2.1
theorem pr_Rel.t (h : pr_Rel n σ ρ) : σ 0 8 = nI (pm_t ρ) ∧ pm_t ρ ≤ 8 := by
  obtain ⟨t, t1, t2⟩ := h.2.1.2.2.2.2.2.1
  have : pm_t ρ = t := by unfold pm_t; rw [h.2.1.2.2.1, t2, nI_clamp (by omega)]
  rw [this]
  exact ⟨t2, t1⟩
theorem pr_Rel.ent (h : pr_Rel n σ ρ) {k : Nat} (hk : k < pc_r σ) : pr_ent n σ ρ (pc_re (pc_o σ) k) k := (h.2.2.2.2.2.2.2.1 k hk).1
theorem pr_Rel.s (h : pr_Rel n σ ρ) {k : Nat} (hk : k < pc_r σ) : ρ 7 k = nI (pc_s σ (pc_re (pc_o σ) k)) ∧ pm_s ρ k = pc_s σ (pc_re (pc_o σ) k) ∧ pc_s σ (pc_re (pc_o σ) k) < 24 := by
  have he := (h.ent hk).1
  have hs := h.I.1.2.2.2.2 (pc_re (pc_o σ) k) (Nat.mod_lt _ (by decide))
  refine ⟨by rw [he]; exact hs.1, ?_, hs.2⟩
  unfold pm_s
  rw [he]
  rfl
theorem pr_Rel.J (h : pr_Rel n σ ρ) : pm_J ρ := by
  have hJ := h.I.1
  refine pm_J_of (r := pc_r σ) (t := pm_t ρ) (by rw [h.2.2.2.1]; exact hJ.2.2.1) hJ.2.2.2.1 (by rw [h.2.1.2.2.1]; exact h.t.1) h.t.2 h.2.2.2.2.2.2.2.2 (fun k hk => ?_)
  have hs := h.s hk
  exact ⟨_, hs.2.2, hs.1⟩
/-! what isn't touched stays related -/
theorem pr_mem.same {m : Nat} (h : pr_mem σ ρ m) (hd : ∀ i, i < 4 → σ' (pc_d m + i) = σ (pc_d m + i)) (hr : ∀ i, 1 ≤ i → i ≤ 6 → ρ' i = ρ i) : pr_mem σ' ρ' m := by
  have d0 : σ' (pc_d m) = σ (pc_d m) := hd 0 (by decide)
  unfold pr_mem pr_st
  rw [hr 1 (by decide) (by decide), hr 2 (by decide) (by decide), hr 3 (by decide) (by decide), hr 4 (by decide) (by decide), hr 5 (by decide) (by decide), hr 6 (by decide) (by decide), d0, hd 1 (by decide), hd 2 (by decide), hd 3 (by decide)]
  exact h
theorem pr_dev.same (h : pr_dev n σ ρ) (hd : ∀ k, 28 ≤ k → σ' k = σ k) (hr : ∀ i, 1 ≤ i → i ≤ 6 → ρ' i = ρ i) : pr_dev n σ' ρ' := by
  refine ⟨fun m hm => (h.1 m hm).same (fun i _ => hd _ (by unfold pc_d; omega)) hr, fun m m' a b c d => h.2 m m' a b ?_ ?_⟩
  · rw [← hd (pc_d m) (by unfold pc_d; omega)]; exact c
  · rw [← hd (pc_d m') (by unfold pc_d; omega)]; exact d
theorem pr_num.same (h : pr_num σ ρ) (h0 : σ' 0 = σ 0) (h4 : ∀ j, j < 13 → σ' 4 j = σ 4 j) (r0 : ∀ j, 18 ≤ j → ρ' 0 j = ρ 0 j) (r13 : ∀ j, j < 13 → ρ' 13 j = ρ 13 j) : pr_num σ' ρ' := by
  unfold pr_num
  rw [h0, r0 18 (by decide), r0 19 (by decide), r0 20 (by decide), r0 21 (by decide)]
  exact ⟨h.1, h.2.1, h.2.2.1, h.2.2.2.1, fun j hj => by rw [h4 j hj, r13 j hj]; exact h.2.2.2.2.1 j hj, h.2.2.2.2.2⟩
theorem pc_I.same {σ σ' : vv_S} (h : pc_I σ) (h2 : σ' 2 = σ 2) (he : ∀ i, 6 ≤ i → i < 28 → σ' i = σ i) : pc_I σ' := by
  have hee : ∀ e, e < 11 → σ' (pc_e e) = σ (pc_e e) := fun e h1 => he _ (by unfold pc_e; omega) (pc_e_lt h1)
  exact ⟨h.1.same h2 (fun e h1 => by rw [hee e h1]), h.2.same h.1 h2 (fun e h1 => by rw [hee e h1])⟩
theorem pr_ent.same {e k : Nat} (h : pr_ent n σ ρ e k) (he0 : σ' (pc_e e) = σ (pc_e e)) (he1 : σ' (pc_e e + 1) = σ (pc_e e + 1)) (hr : ∀ i, 7 ≤ i → i ≤ 12 → ρ' i = ρ i) : pr_ent n σ' ρ' e k := by
  unfold pr_ent
  rw [he0, he1, hr 7 (by decide) (by decide), hr 9 (by decide) (by decide), hr 10 (by decide) (by decide), hr 11 (by decide) (by decide), hr 12 (by decide) (by decide)]
  exact h
theorem pr_log.same (h : pr_log n σ ρ) (h2 : σ' 2 = σ 2) (he : ∀ i, 6 ≤ i → i < 28 → σ' i = σ i) (r0 : ∀ j, 8 ≤ j → j ≤ 17 → ρ' 0 j = ρ 0 j) (hr : ∀ i, 7 ≤ i → i ≤ 12 → ρ' i = ρ i) : pr_log n σ' ρ' := by
  have ho := pc_o_row h2
  have hrr := pc_r_row h2
  refine ⟨h.1.same h2 he, by rw [h2, r0 8 (by decide) (by decide)]; exact h.2.1, by rw [h2, r0 15 (by decide) (by decide)]; exact h.2.2.1, by rw [h2, r0 16 (by decide) (by decide)]; exact h.2.2.2.1, by rw [h2, r0 17 (by decide) (by decide)]; exact h.2.2.2.2.1, ?_, fun k hk => by rw [hr 10 (by decide) (by decide)]; exact h.2.2.2.2.2.2 k hk⟩
  intro k hk
  rw [hrr] at hk
  have := h.2.2.2.2.2.1 k hk
  have hlt : pc_re (pc_o σ) k < 11 := Nat.mod_lt _ (by decide)
  rw [ho, h2, hr 8 (by decide) (by decide)]
  exact ⟨this.1.same (he _ (by unfold pc_e; omega) (by unfold pc_e; omega)) (he _ (by unfold pc_e; omega) (by unfold pc_e; omega)) hr, this.2⟩
theorem pr_Rel.five (h : pr_Rel n σ ρ) (hs : ∀ i, i ≠ 5 → σ' i = σ i) (hr : ∀ i, i ≠ 14 → i ≠ 15 → ρ' i = ρ i) : pr_Rel n σ' ρ' := by
  refine ⟨h.1.same (fun k hk => hs k (by omega)) (fun i a b => hr i (by omega) (by omega)), h.2.1.same (hs 0 (by decide)) (fun j _ => by rw [hs 4 (by decide)]) (fun j _ => by rw [hr 0 (by decide) (by decide)]) (fun j _ => by rw [hr 13 (by decide) (by decide)]), h.2.2.same (hs 2 (by decide)) (fun i a b => hs i (by omega)) (fun j _ _ => by rw [hr 0 (by decide) (by decide)]) (fun i a b => hr i (by omega) (by omega))⟩
/-! a tally -/
theorem pr_num.tly (h : pr_num σ ρ) {w : Nat} {x y : Int32} (hw : w < 13) (hxy : y = x) : pr_num (vv_up σ 4 w x) (vv_up ρ 13 w y) := by
  unfold pr_num
  rw [vv_up_n (show 0 ≠ 4 by decide), vv_up_n (show 0 ≠ 13 by decide), vv_up_s, vv_up_s]
  refine ⟨h.1, h.2.1, h.2.2.1, h.2.2.2.1, fun j hj => ?_, h.2.2.2.2.2⟩
  by_cases e : j = w
  · rw [e, vv_upd_s, vv_upd_s, hxy]
  · rw [vv_upd_n e, vv_upd_n e]; exact h.2.2.2.2.1 j hj
theorem pr_Rel.tly (h : pr_Rel n σ ρ) {w : Nat} {x y : Int32} (hw : w < 13) (hxy : y = x) : pr_Rel n (vv_up σ 4 w x) (vv_up ρ 13 w y) :=
  ⟨h.1.same (fun k hk => vv_up_n (by omega)) (fun i a b => vv_up_n (by omega)), h.2.1.tly hw hxy, h.2.2.same (vv_up_n (by decide)) (fun i a b => vv_up_n (by omega)) (fun j _ _ => by rw [vv_up_n (by decide)]) (fun i a b => vv_up_n (by omega))⟩
theorem pr_Rel.tl (h : pr_Rel n σ ρ) {w : Nat} (hw : w < 13) : pr_Rel n (pc_tl σ w) (pm_tl ρ w) := h.tly hw (by rw [h.2.1.2.2.2.2.1 w hw])
/-! a write of a device: the power may go -/
theorem pc_fb_d {τ : vv_S} {m : Nat} : ∀ k, pc_fb τ k (pc_d m) = if m < k ∧ τ (pc_d m) 3 = nI 2 then upd (τ (pc_d m)) 4 (nI 0) else τ (pc_d m)
  | 0 => by rw [if_neg (by omega)]; rfl
  | k + 1 => by
    have ih := pc_fb_d (τ := τ) (m := m) k
    have ihk := pc_fb_d (τ := τ) (m := k) k
    rw [if_neg (by omega)] at ihk
    unfold pc_fb
    rw [ihk]
    by_cases hm : m = k
    · subst hm
      by_cases h2 : τ (pc_d m) 3 = nI 2
      · rw [if_pos h2, if_pos ⟨by omega, h2⟩, vv_up_s, ihk]
      · rw [if_neg h2, if_neg (fun z => h2 z.2), ihk]
    · have hne : pc_d m ≠ pc_d k := by unfold pc_d; omega
      have e : (if τ (pc_d k) 3 = nI 2 then vv_up (pc_fb τ k) (pc_d k) 4 (nI 0) else pc_fb τ k) (pc_d m) = pc_fb τ k (pc_d m) := by
        split
        · exact vv_up_n hne
        · rfl
      rw [e, ih]
      by_cases h3 : m < k ∧ τ (pc_d m) 3 = nI 2
      · rw [if_pos h3, if_pos ⟨by omega, h3.2⟩]
      · rw [if_neg h3, if_neg (fun z => h3 ⟨by omega, z.2⟩)]
theorem pc_pw_d {m : Nat} (hm : m < n) : pc_pw σ n (pc_d m) = if σ 0 7 = 0 ∧ σ (pc_d m) 3 = nI 2 then upd (σ (pc_d m)) 4 (nI 0) else σ (pc_d m) := by
  have hd : pc_cutS σ (pc_d m) = σ (pc_d m) := by unfold pc_cutS pc_tl; rw [vv_up_n (by unfold pc_d; omega), vv_up_n (by unfold pc_d; omega), vv_up_n (by unfold pc_d; omega), vv_up_n (by unfold pc_d; omega)]
  unfold pc_pw
  by_cases h : σ 0 7 = 0
  · rw [if_pos h, pc_fb_d, hd]
    by_cases h2 : σ (pc_d m) 3 = nI 2
    · rw [if_pos ⟨hm, h2⟩, if_pos ⟨h, h2⟩]
    · rw [if_neg (fun z => h2 z.2), if_neg (fun z => h2 z.2)]
  · rw [if_neg h]
    unfold pc_tl
    rw [vv_up_n (by unfold pc_d; omega), vv_up_n (by unfold pc_d; omega)]
    exact (if_neg (fun z => h z.1)).symm
theorem pm_go_5 : pm_go ρ n 5 = if ρ 0 19 = 0 then (fun j => if j < n then nI 0 else ρ 5 j) else ρ 5 := by
  unfold pm_go
  split
  · exact vv_row_s
  · unfold pm_tl; rw [vv_up_n (by decide), vv_up_n (by decide)]
theorem pr_st.pw {m : Nat} (h : pr_st σ ρ m) (hc : ρ 0 19 = σ 0 7) (hm : m < n) : pr_st (pc_pw σ n) (pm_go ρ n) m := by
  unfold pr_st
  rw [pc_pw_d hm, pm_go_5]
  by_cases h7 : σ 0 7 = 0
  · rw [if_pos (show ρ 0 19 = 0 by rw [hc]; exact h7)]
    rcases h with ⟨a, b⟩ | ⟨a, b⟩ | ⟨a, c⟩
    · rw [if_neg (fun z => by rw [a] at z; exact absurd z.2 (by decide))]; exact Or.inl ⟨a, b⟩
    · rw [if_neg (fun z => by rw [a] at z; exact absurd z.2 (by decide))]; exact Or.inr (Or.inl ⟨a, b⟩)
    · rw [if_pos ⟨h7, a⟩]
      exact Or.inr (Or.inr ⟨by rw [vv_upd_n (by decide)]; exact a, 0, by decide, vv_upd_s, if_pos hm⟩)
  · rw [if_neg (fun z => h7 z.1), if_neg (show ¬ ρ 0 19 = 0 by rw [hc]; exact h7)]
    exact h
theorem pc_pw_d3 {m : Nat} (hm : m < n) {j : Nat} (hj : j ≠ 4) : pc_pw σ n (pc_d m) j = σ (pc_d m) j := by
  rw [pc_pw_d hm]
  split
  · exact vv_upd_n hj
  · rfl
theorem pr_one.pw (h : pr_one n σ) : pr_one n (pc_pw σ n) := by
  intro m m' a b c d
  rw [pc_pw_d3 a (by decide)] at c
  rw [pc_pw_d3 b (by decide)] at d
  exact h m m' a b c d
theorem pr_dev.pw (h : pr_dev n σ ρ) (hc : ρ 0 19 = σ 0 7) : pr_dev n (pc_pw σ n) (pm_go ρ n) := by
  refine ⟨fun m hm => ?_, h.2.pw⟩
  obtain ⟨h1, h2, h3, h4, h5, h6⟩ := h.1 m hm
  unfold pr_mem
  rw [pm_go_o (by decide) (by decide) (by decide), pm_go_o (by decide) (by decide) (by decide), pm_go_o (by decide) (by decide) (by decide), pm_go_o (by decide) (by decide) (by decide), pm_go_o (by decide) (by decide) (by decide), pc_pw_d3 hm (by decide), pc_pw_d3 hm (by decide),
    pc_pw_o (by unfold pc_d; omega) (by unfold pc_d; omega) (by unfold pc_d; omega), pc_pw_o (by unfold pc_d; omega) (by unfold pc_d; omega) (by unfold pc_d; omega), pc_pw_o (by unfold pc_d; omega) (by unfold pc_d; omega) (by unfold pc_d; omega)]
  exact ⟨h1, h2, h3, h4, h5, h6.pw hc hm⟩
theorem pr_cutv (x : Int32) : (if x ≤ -1 then (-1 : Int32) else x - nI 1) = (if 0 ≤ x then x - nI 1 else -1) := by
  by_cases h : 0 ≤ x
  · rw [if_pos h, if_neg (fun z => absurd (Int32.le_trans h z) (by decide))]
  · rw [if_neg h, if_pos]
    have h2 : x < 0 := Int32.not_le.mp h
    rw [Int32.lt_iff_toInt_lt] at h2
    rw [Int32.le_iff_toInt_le]
    have e1 : (-1 : Int32).toInt = -1 := by decide
    have e2 : (0 : Int32).toInt = 0 := by decide
    omega
theorem pr_num.pw (h : pr_num σ ρ) : pr_num (pc_pw σ n) (pm_go ρ n) := by
  obtain ⟨h1, h2, h3, h4, h5, h6, h7, h8⟩ := h
  have tal : pr_num (pc_tl σ 0) (pm_tl ρ 0) := pr_num.tly ⟨h1, h2, h3, h4, h5, h6, h7, h8⟩ (by decide) (by rw [h5 0 (by decide)])
  have t5 := tal.2.2.2.2.1
  unfold pc_pw pm_go
  by_cases hc : σ 0 7 = 0
  · rw [if_pos hc, if_pos (show ρ 0 19 = 0 by rw [h2]; exact hc)]
    unfold pr_num
    rw [pc_fb_o (by decide), pc_fb_o (by decide), vv_row_n (show 0 ≠ 5 by decide), vv_row_n (show 13 ≠ 5 by decide)]
    have a4 : pc_cutS σ 4 = pc_tl σ 0 4 := by unfold pc_cutS; rw [vv_up_n (by decide), vv_up_n (by decide), vv_up_n (by decide)]
    have b13 : pm_goS ρ 13 = pm_tl ρ 0 13 := by unfold pm_goS; rw [vv_up_n (by decide), vv_up_n (by decide), vv_up_n (by decide), vv_up_n (by decide)]
    have a0 : pc_cutS σ 0 = upd (upd (upd (σ 0) 7 (-1)) 6 (nI 1)) 9 (nI 0) := by unfold pc_cutS; rw [vv_up_s, vv_up_s, vv_up_s, pc_tl_o (by decide)]
    have b0 : pm_goS ρ 0 = upd (upd (upd (upd (ρ 0) 19 (ρ 0 19 - nI 1)) 18 (nI 1)) 19 (-1)) 21 (nI 0) := by unfold pm_goS; rw [vv_up_s, vv_up_s, vv_up_s, vv_up_s, pm_tl_o (by decide)]
    rw [a4, b13, a0, b0]
    refine ⟨rfl, rfl, ?_, rfl, t5, ?_, ⟨0, by decide, rfl, fun _ => rfl⟩, Or.inr rfl⟩
    · exact h3
    · exact h6
  · rw [if_neg hc, if_neg (show ¬ ρ 0 19 = 0 by rw [h2]; exact hc)]
    unfold pr_num
    rw [vv_up_s, vv_up_s, vv_up_n (show 13 ≠ 0 by decide), vv_up_n (show 4 ≠ 0 by decide), pc_tl_o (show 0 ≠ 4 by decide), pm_tl_o (show 0 ≠ 13 by decide)]
    refine ⟨h1, ?_, h3, h4, t5, h6, h7, h8⟩
    rw [vv_upd_s, vv_upd_s, h2]
    exact pr_cutv _
theorem pr_Rel.pw (h : pr_Rel n σ ρ) : pr_Rel n (pc_pw σ n) (pm_go ρ n) :=
  ⟨h.1.pw h.cut, h.2.1.pw, h.2.2.same (pc_pw_o (by decide) (by decide) (by decide)) (fun i a b => pc_pw_o (Or.inl b) (by omega) (by omega)) (fun j a b => pm_go_f (by omega) (by omega) (by omega)) (fun i a b => pm_go_o (by omega) (by omega) (by omega))⟩
end PRREL
