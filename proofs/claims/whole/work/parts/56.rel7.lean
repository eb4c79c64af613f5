/-! MIXING, BUILD, alike -/
section PRREL7
variable {n : Nat} {σ ρ σ' ρ' : vv_S}
theorem pr_mxo (h : pr_dev n σ ρ) {s i : Nat} {x : Int32} (hs : s < 24) (hi : i < 8) : ∀ k, k ≤ n → pc_mxo (pc_clr σ) x s k i = pm_ox ρ x s i k
  | 0, _ => by
    show pc_clr σ 5 i = nI 0
    unfold pc_clr
    rw [vv_row_s]
    exact if_pos hi
  | k + 1, hk => by
    have ih := pr_mxo h (x := x) hs hi k (by omega)
    unfold pc_mxo pm_ox
    by_cases e : nI k = x
    · rw [if_pos e, if_pos e, ih]
      show _ = _ ^^^ (0 : Int32)
      rw [Int32.xor_zero]
    · rw [if_neg e, if_neg e]
      unfold pc_mx
      rw [if_pos hi, ih, (h.1 k (by omega)).1 s i hs hi]
      unfold pc_clr
      rw [vv_row_n (by unfold pc_d; omega)]
theorem pr_xst (h : pr_dev n σ ρ) {s i : Nat} {x : Int32} (hs : s < 24) (hi : i < 8) : pc_xst σ n x s 5 i = pm_ox ρ x s i n := by
  unfold pc_xst
  rw [vv_row_s]
  exact pr_mxo h hs hi n (Nat.le_refl n)
theorem pr_pox (h : pr_Rel n σ ρ) {m s : Nat} (hm : m < n) (hs : s < 24) : pr_Rel n (pc_pox σ n m s) (pm_ch (pm_fo ρ n (nI m) s) n m s (pm_t ρ)) := by
  have h5 := h.five (σ' := pc_xst σ n (nI m) s) (ρ' := pm_fo ρ n (nI m) s) (fun i hi => pc_xst_o hi) (fun i a b => vv_row_n a)
  have := h5.pch hm hs (k := 5) (b := 0) (by decide) (by decide) (fun i hi => by
    rw [Nat.zero_add, pr_xst h.1 hs hi]
    show (if i < 8 then pm_ox ρ (nI m) s i n else ρ 14 i) = _
    rw [if_pos hi])
  exact this
theorem pr_z8 (h : pr_dev n σ ρ) {s : Nat} (hs : s < 24) : pc_z8 (pc_xst σ n (-1) s 5) = true ↔ pm_ev ρ n s := by
  unfold pm_ev
  rw [pc_z8_iff, vv_all_iff]
  exact ⟨fun z i hi => by rw [← pr_xst h hs hi]; exact z i hi, fun z i hi => by rw [pr_xst h hs hi]; exact z i hi⟩
/-! a run that the power stays through leaves each member's state and how far it is built -/
theorem pc_pch_st {m m' s k b j : Nat} (hc : ¬ σ 0 7 = 0) (hj : j ≠ 5) : pc_pch σ n m s k b (pc_d m') j = σ (pc_d m') j := by
  have e : pc_pw σ n (pc_d m') = σ (pc_d m') := pc_pw_s hc (by unfold pc_d; omega) (by unfold pc_d; omega)
  by_cases hm : m' = m
  · subst hm
    rw [pc_pch_0, vv_upd_n hj, e]
  · rw [show pc_pch σ n m s k b (pc_d m') = pc_pw σ n (pc_d m') from pc_pch_m' hm (i := 0) (by decide), e]
theorem pc_per_st {e s m j : Nat} (hj : j ≠ 5) : ∀ (f p : Nat) (σ : vv_S), (pc_per n e s f p σ).1 = true → (pc_per n e s f p σ).2 (pc_d m) j = σ (pc_d m) j
  | 0, _, _, _ => rfl
  | f + 1, p, σ, h => by
    unfold pc_per at h ⊢
    split at h
    · rename_i c
      rw [if_pos c]
      split at h
      · cases h
      · rename_i d
        rw [if_neg d, pc_per_st hj f _ _ h, pc_pch_st d hj]
    · rename_i c
      rw [if_neg c]
      exact pc_per_st hj f _ _ h
theorem pc_dr_st {m j : Nat} (hj : j ≠ 5) : ∀ (q : Nat) (σ : vv_S), (pc_dr n q σ).1 = true → (pc_dr n q σ).2 (pc_d m) j = σ (pc_d m) j
  | 0, _, _ => rfl
  | q + 1, σ, h => by
    have hd : (pc_d1 n σ).1 = true → (pc_d1 n σ).2 (pc_d m) j = σ (pc_d m) j := pc_per_st hj n 0 σ
    unfold pc_dr at h ⊢
    split at h
    · rename_i a
      rw [if_pos a]
      split at h
      · cases h
      · rename_i b
        rw [if_neg b, pc_dr_st hj q _ h, pc_tl_o (by unfold pc_d; omega), pc_pmk_s b (by unfold pc_d; omega) (by unfold pc_d; omega) (by unfold pc_d; omega)]
        exact hd a
    · cases h
theorem pr_up (h : pr_Rel n σ ρ) {s : Nat} : ∀ k, k ≤ pc_r σ → pm_up ρ s k = pc_upto σ (pc_o σ) s k
  | 0, _ => rfl
  | k + 1, hk => by
    have ih := pr_up h (s := s) k (by omega)
    unfold pm_up pc_upto
    rw [ih, (h.ent (show k < pc_r σ by omega)).1]
/-- a stripe that can't be built: its chunk is torn -/
theorem pr_torn (h : pr_Rel n σ ρ) {m s : Nat} (hm : m < n) (hs : s < 24) : pr_Rel n (vv_up σ (pc_d m + 3) s (nI 1)) (vv_up ρ 3 (24 * m + s) (nI 1)) := by
  refine pr_dn_same h ⟨fun m' hm' => ?_, fun a a' ha ha' ea ea' => ?_⟩ (fun i hi => vv_up_n (by unfold pc_d; omega)) (fun i hi => vv_up_n (by omega))
  · obtain ⟨p1, p2, p3, p4, p5, p6⟩ := h.mem hm'
    unfold pr_mem pr_st
    rw [vv_up_n (show pc_d m' ≠ pc_d m + 3 by unfold pc_d; omega), vv_up_n (show pc_d m' + 1 ≠ pc_d m + 3 by unfold pc_d; omega), vv_up_n (show pc_d m' + 2 ≠ pc_d m + 3 by unfold pc_d; omega), vv_up_n (show 1 ≠ 3 by decide), vv_up_n (show 2 ≠ 3 by decide), vv_up_n (show 4 ≠ 3 by decide), vv_up_n (show 5 ≠ 3 by decide), vv_up_n (show 6 ≠ 3 by decide), vv_up_s]
    refine ⟨p1, p2, fun s' hs' => ?_, p4, p5, p6⟩
    by_cases e : m' = m
    · subst e
      rw [vv_up_s]
      by_cases e2 : s' = s
      · rw [e2, vv_upd_s, vv_upd_s]
      · rw [vv_upd_n (by omega), vv_upd_n e2]; exact p3 s' hs'
    · rw [vv_upd_n (by omega), vv_up_n (by unfold pc_d; omega)]; exact p3 s' hs'
  · rw [vv_up_n (by unfold pc_d; omega)] at ea ea'
    exact h.1.2 a a' ha ha' ea ea'
theorem pr_b1 (h : pr_Rel n σ ρ) (hn3 : 3 ≤ n) (hn : n ≤ 6) {m s : Nat} (hm : m < n) (hs : s < 24) : pr_Rel n (pc_bs1 σ n m s) (pm_b1 ρ n m s (pm_t ρ)) := by
  have ho := pr_oth h.1 hm hn hs
  unfold pc_bs1 pm_b1
  by_cases c : pc_oth σ n m s
  · rw [if_pos c, if_pos (ho.mpr c)]
    have h1 := h.tly (w := 3) (x := σ 4 3 + nI (n - 1)) (y := ρ 13 3 + nI (n - 1)) (by decide) (by rw [h.2.1.2.2.2.2.1 3 (by decide)])
    have h2 := pr_pox h1 hm hs
    have e : pm_t (vv_up ρ 13 3 (ρ 13 3 + nI (n - 1))) = pm_t ρ := by unfold pm_t; rw [vv_up_n (by decide)]
    rw [e] at h2
    exact h2
  · rw [if_neg c, if_neg (fun z => c (ho.mp z))]
    exact (pr_torn h hm hs).tl (by decide)
/-- behind it the state and how far it is built are as before, unless the power went -/
theorem pc_bs1_st {m m' s j : Nat} (hc : ¬ (pc_oth σ n m s ∧ σ 0 7 = 0)) (hj : j ≠ 5) : pc_bs1 σ n m s (pc_d m') j = σ (pc_d m') j := by
  unfold pc_bs1
  by_cases c : pc_oth σ n m s
  · rw [if_pos c]
    unfold pc_pox
    rw [pc_pch_st (by rw [pc_xst_o (by decide), vv_up_n (by decide)]; exact fun z => hc ⟨c, z⟩) hj, pc_xst_o (by unfold pc_d; omega), vv_up_n (by unfold pc_d; omega)]
  · rw [if_neg c]
    unfold pc_tl
    rw [vv_up_n (by unfold pc_d; omega), vv_up_n (by unfold pc_d; omega)]
theorem pc_pw_low (h : ∀ i, i < 28 → σ' i = σ i) {i : Nat} (hi : i < 28) : pc_pw σ' n i = pc_pw σ n i := by
  have h4 := h 4 (by decide)
  have h0 := h 0 (by decide)
  by_cases z : i = 0 ∨ i = 4
  · have tl : ∀ k, k = 0 ∨ k = 4 → pc_tl σ' 0 k = pc_tl σ 0 k := by
      intro k hk
      unfold pc_tl
      rcases hk with rfl | rfl
      · rw [vv_up_n (by decide), vv_up_n (by decide), h0]
      · rw [vv_up_s, vv_up_s, h4]
    have t0 := tl 0 (Or.inl rfl)
    have t4 := tl 4 (Or.inr rfl)
    unfold pc_pw
    rw [h0]
    split
    · rw [pc_fb_o (Or.inl hi), pc_fb_o (Or.inl hi)]
      unfold pc_cutS
      rcases z with rfl | rfl
      · rw [vv_up_s, vv_up_s, vv_up_s, vv_up_s, vv_up_s, vv_up_s, t0]
      · rw [vv_up_n (by decide), vv_up_n (by decide), vv_up_n (by decide), vv_up_n (by decide), vv_up_n (by decide), vv_up_n (by decide), t4]
    · rcases z with rfl | rfl
      · rw [vv_up_s, vv_up_s, t0]
      · rw [vv_up_n (by decide), vv_up_n (by decide), t4]
  · rw [pc_pw_o (Or.inl hi) (by omega) (by omega), pc_pw_o (Or.inl hi) (by omega) (by omega), h i hi]
theorem pc_tl_low (h : ∀ i, i < 28 → σ' i = σ i) {w i : Nat} (hi : i < 28) : pc_tl σ' w i = pc_tl σ w i := by
  unfold pc_tl
  by_cases e : i = 4
  · subst e; rw [vv_up_s, vv_up_s, h 4 (by decide)]
  · rw [vv_up_n e, vv_up_n e, h i hi]
theorem pc_pmk_low (h : ∀ i, i < 28 → σ' i = σ i) {o r i : Nat} (hi : i < 28) : pc_pmk σ' n o r 0 i = pc_pmk σ n o r 0 i := by
  have w : ∀ k, k < 28 → pc_pw (pc_tl σ' 2) n k = pc_pw (pc_tl σ 2) n k := fun k hk => pc_pw_low (fun j hj => pc_tl_low h hj) hk
  unfold pc_pmk
  rw [h 0 (by decide)]
  split
  · exact w i hi
  · by_cases e : i = 2
    · subst e; rw [vv_row_s, vv_row_s]; exact w 2 (by decide)
    · rw [vv_row_n e, vv_row_n e]; exact w i hi
theorem pr_mk_same (h : pr_Rel n σ ρ) {o r : Nat} : pr_Rel n (pc_pmk σ n o r 0) (pm_mk ρ n (ρ 0 15) (ρ 0 16)) := by
  by_cases hc : σ 0 7 = 0
  · exact pr_mk_0 h hc
  · have hdn := pr_mk_dn h (o := o) (r := r) (q := 0) (c := ρ 0 15) (s := ρ 0 16)
    have h15 := pm_mk_15 (n := n) (c := ρ 0 15) (r := ρ 0 16) (show ¬ ρ 0 19 = 0 by rw [h.cut]; exact hc)
    refine ⟨hdn.1, hdn.2, h.2.2.same ?_ (fun i a b => ?_) (fun j a b => ?_) (fun i a b => pm_mk_o (by omega) (by omega) (by omega))⟩
    · rw [pc_pmk_2 hc]
      show pc_pw (pc_tl σ 2) n 2 = _
      rw [pc_pw_o (by decide) (by decide) (by decide), pc_tl_o (by decide)]
    · by_cases e : i = 2
      · omega
      · exact pc_pmk_o b (by omega) e (by omega)
    · by_cases e5 : j = 15
      · rw [e5]; exact h15.1
      · by_cases e6 : j = 16
        · rw [e6]; exact h15.2
        · exact pm_mk_f e5 e6 (by omega) (by omega) (by omega)
theorem pr_upd2 {f : Nat → Int32} {j : Nat} {a b : Int32} : upd (upd f j a) j b = upd f j b := by
  funext i
  by_cases e : i = j
  · rw [e, vv_upd_s, vv_upd_s]
  · rw [vv_upd_n e, vv_upd_n e, vv_upd_n e]
/-- what pm_mk leaves where only row 5 differs -/
theorem pm_go_not5 {m i : Nat} {v : Int32} (hi : i ≠ 5) : pm_go (vv_up ρ 5 m v) n i = pm_go ρ n i := by
  unfold pm_go
  rw [vv_up_n (show 0 ≠ 5 by decide)]
  have t : ∀ k, k ≠ 5 → pm_tl (vv_up ρ 5 m v) 0 k = pm_tl ρ 0 k := by
    intro k hk
    unfold pm_tl
    by_cases e : k = 13
    · subst e; rw [vv_up_s, vv_up_s, vv_up_n (by decide)]
    · rw [vv_up_n e, vv_up_n e, vv_up_n hk]
  split
  · rw [vv_row_n hi, vv_row_n hi]
    unfold pm_goS
    by_cases e : i = 0
    · subst e; rw [vv_up_s, vv_up_s, vv_up_s, vv_up_s, vv_up_s, vv_up_s, vv_up_s, vv_up_s, t 0 (by decide), vv_up_n (by decide)]
    · rw [vv_up_n e, vv_up_n e, vv_up_n e, vv_up_n e, vv_up_n e, vv_up_n e, vv_up_n e, vv_up_n e, t i hi]
  · by_cases e : i = 0
    · subst e; rw [vv_up_s, vv_up_s, t 0 (by decide)]
    · rw [vv_up_n e, vv_up_n e, t i hi]
theorem pm_tl_5 {m w : Nat} {v : Int32} : pm_tl (vv_up ρ 5 m v) w = vv_up (pm_tl ρ w) 5 m v := by
  funext k
  unfold pm_tl
  by_cases e : k = 13
  · subst e; rw [vv_up_s, vv_up_n (by decide), vv_up_n (by decide), vv_up_s]
  · rw [vv_up_n e]
    by_cases e5 : k = 5
    · subst e5; rw [vv_up_s, vv_up_s, vv_up_n (by decide)]
    · rw [vv_up_n e5, vv_up_n e5, vv_up_n e]
theorem pm_mk_not5 {m i : Nat} {v c r : Int32} (hi : i ≠ 5) : pm_mk (vv_up ρ 5 m v) n c r i = pm_mk ρ n c r i := by
  unfold pm_mk
  rw [vv_up_n (show 0 ≠ 5 by decide), pm_tl_5]
  split
  · exact pm_go_not5 hi
  · by_cases e : i = 0
    · subst e; rw [vv_up_s, vv_up_s, vv_up_s, vv_up_s, pm_go_not5 (by decide)]
    · rw [vv_up_n e, vv_up_n e, vv_up_n e, vv_up_n e, pm_go_not5 hi]
theorem pm_mk_5 {c r : Int32} : pm_mk ρ n c r 5 = if ρ 0 19 = 0 then (fun j => if j < n then nI 0 else ρ 5 j) else ρ 5 := by
  have e : pm_go (pm_tl ρ 2) n 5 = if ρ 0 19 = 0 then (fun j => if j < n then nI 0 else ρ 5 j) else ρ 5 := by
    rw [pm_go_5, pm_tl_o (by decide), pm_tl_o (by decide)]
  unfold pm_mk
  split
  · rename_i c; rw [e, if_pos c]
  · rename_i c; rw [vv_up_n (by decide), vv_up_n (by decide), e, if_neg c]
theorem pc_pmk_d0 {m o r q : Nat} (hm : m < n) : pc_pmk σ n o r q (pc_d m) = if σ 0 7 = 0 ∧ σ (pc_d m) 3 = nI 2 then upd (σ (pc_d m)) 4 (nI 0) else σ (pc_d m) := by
  have e : pc_pw (pc_tl σ 2) n (pc_d m) = if σ 0 7 = 0 ∧ σ (pc_d m) 3 = nI 2 then upd (σ (pc_d m)) 4 (nI 0) else σ (pc_d m) := by
    rw [pc_pw_d hm, pc_tl_o (by decide), pc_tl_o (by unfold pc_d; omega)]
  unfold pc_pmk
  split
  · exact e
  · rw [vv_row_n (by unfold pc_d; omega)]; exact e
theorem pc_pmk_d1 {m o r q i : Nat} (hi : 1 ≤ i) (hi4 : i < 4) : pc_pmk σ n o r q (pc_d m + i) = σ (pc_d m + i) := by
  have e : pc_pw (pc_tl σ 2) n (pc_d m + i) = σ (pc_d m + i) := by
    rw [pc_pw_o (by unfold pc_d; omega) (by unfold pc_d; omega) (by unfold pc_d; omega), pc_tl_o (by unfold pc_d; omega)]
  unfold pc_pmk
  split
  · exact e
  · rw [vv_row_n (by unfold pc_d; omega)]; exact e
end PRREL7
