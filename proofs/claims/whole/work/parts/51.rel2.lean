/-! A CHUNK IS WRITTEN, a record's parts are -/
section PRREL2
variable {n : Nat} {σ ρ σ' ρ' : vv_S}
theorem pr_sum {f g : Nat → Int32} {a b : Nat} : ∀ (i : Nat), (∀ j, j < i → f (a + j) = g (b + j)) → pc_sum f a i = pc_sum g b i
  | 0, _ => rfl
  | i + 1, h => by unfold pc_sum; rw [pr_sum i (fun j hj => h j (by omega)), h i (by omega)]
theorem pm_ch_1 {m s t : Nat} : pm_ch ρ n m s t 1 = fun j => if 8 * (24 * m + s) ≤ j ∧ j < 8 * (24 * m + s) + pm_tn ρ t then ρ 14 (j - 8 * (24 * m + s)) else ρ 1 j := by
  unfold pm_ch
  split
  · rw [vv_up_n (by decide)]; unfold pm_c2; rw [vv_row_s]
  · rw [vv_up_n (by decide), vv_up_n (by decide)]; unfold pm_c2; rw [vv_row_s]
theorem pm_c2_k {m s t k : Nat} (h0 : k ≠ 0) (h1 : k ≠ 1) (h5 : k ≠ 5) (h13 : k ≠ 13) : pm_c2 ρ n m s t k = vv_up ρ 6 m (ρ 6 m + nI 1) k := by
  unfold pm_c2 pm_c1
  rw [vv_row_n h1, pm_go_o h0 h5 h13]
theorem pm_ch_2 {m s t : Nat} : pm_ch ρ n m s t 2 = if ρ 0 19 = 0 then ρ 2 else upd (ρ 2) (24 * m + s) (pc_sum (pm_ch ρ n m s t 1) (8 * (24 * m + s)) 8) := by
  have e1 : pm_ch ρ n m s t 1 = pm_c2 ρ n m s t 1 := by
    unfold pm_ch
    split
    · rw [vv_up_n (by decide)]
    · rw [vv_up_n (by decide), vv_up_n (by decide)]
  rw [e1]
  unfold pm_ch
  split
  · rw [vv_up_n (by decide), pm_c2_k (by decide) (by decide) (by decide) (by decide), vv_up_n (by decide)]
  · rw [vv_up_s, vv_up_n (by decide), pm_c2_k (by decide) (by decide) (by decide) (by decide), vv_up_n (by decide)]
theorem pm_ch_3 {m s t : Nat} : pm_ch ρ n m s t 3 = upd (ρ 3) (24 * m + s) (if ρ 0 19 = 0 then nI 1 else nI 0) := by
  unfold pm_ch
  split
  · rw [vv_up_s, pm_c2_k (by decide) (by decide) (by decide) (by decide), vv_up_n (by decide)]
  · rw [vv_up_n (by decide), vv_up_s, pm_c2_k (by decide) (by decide) (by decide) (by decide), vv_up_n (by decide)]
theorem pm_ch_4 {m s t : Nat} : pm_ch ρ n m s t 4 = ρ 4 := pm_ch_o (by decide) (by decide) (by decide) (by decide) (by decide) (by decide) (by decide)
theorem pm_ch_6 {m s t : Nat} : pm_ch ρ n m s t 6 = upd (ρ 6) m (ρ 6 m + nI 1) := by
  unfold pm_ch
  split
  · rw [vv_up_n (by decide), pm_c2_k (by decide) (by decide) (by decide) (by decide), vv_up_s]
  · rw [vv_up_n (by decide), vv_up_n (by decide), pm_c2_k (by decide) (by decide) (by decide) (by decide), vv_up_s]
theorem pm_ch_g {m s t k : Nat} (hk : k = 0 ∨ k = 5 ∨ k = 13) : pm_ch ρ n m s t k = pm_go ρ n k := by
  have e : pm_c2 ρ n m s t k = pm_go ρ n k := by
    unfold pm_c2 pm_c1
    rw [vv_row_n (by omega)]
    unfold pm_go pm_goS pm_tl
    rw [vv_up_n (show 0 ≠ 6 by decide), vv_up_n (show 5 ≠ 6 by decide), vv_up_n (show 13 ≠ 6 by decide)]
    rcases hk with rfl | rfl | rfl
    · split
      · rw [vv_row_n (by decide), vv_row_n (by decide), vv_up_s, vv_up_s, vv_up_s, vv_up_s, vv_up_s, vv_up_s, vv_up_s, vv_up_s, vv_up_n (by decide), vv_up_n (by decide), vv_up_n (by decide)]
      · rw [vv_up_s, vv_up_s, vv_up_n (by decide), vv_up_n (by decide), vv_up_n (by decide)]
    · split
      · rw [vv_row_s, vv_row_s]
      · rw [vv_up_n (by decide), vv_up_n (by decide), vv_up_n (by decide), vv_up_n (by decide), vv_up_n (by decide)]
    · split
      · rw [vv_row_n (by decide), vv_row_n (by decide), vv_up_n (by decide), vv_up_n (by decide), vv_up_n (by decide), vv_up_n (by decide), vv_up_s, vv_up_n (by decide), vv_up_n (by decide), vv_up_n (by decide), vv_up_n (by decide), vv_up_n (by decide), vv_up_s]
      · rw [vv_up_n (by decide), vv_up_s, vv_up_n (by decide), vv_up_n (by decide), vv_up_s]
  unfold pm_ch
  split
  · rw [vv_up_n (by omega), e]
  · rw [vv_up_n (by omega), vv_up_n (by omega), e]
theorem pc_pch_m' {m m' s k b i : Nat} (h : m' ≠ m) (hi : i < 4) : pc_pch σ n m s k b (pc_d m' + i) = pc_pw σ n (pc_d m' + i) := by
  have e0 : pc_d m' + i ≠ pc_d m := by unfold pc_d; omega
  have e1 : pc_d m' + i ≠ pc_d m + 1 := by unfold pc_d; omega
  have e2 : pc_d m' + i ≠ pc_d m + 2 := by unfold pc_d; omega
  have e3 : pc_d m' + i ≠ pc_d m + 3 := by unfold pc_d; omega
  unfold pc_pch pc_tk
  generalize (if σ 0 7 = 0 then pc_pw σ n 0 8 else nI 9) = T
  rw [vv_up_n e0]
  unfold pc_tks
  split
  · rw [vv_up_n e3, vv_up_n e2, vv_row_n e1]
  · rw [vv_up_n e3, vv_row_n e1]
theorem pc_pch_0 {m s k b : Nat} : pc_pch σ n m s k b (pc_d m) = upd (pc_pw σ n (pc_d m)) 5 (pc_pw σ n (pc_d m) 5 + nI 1) := by
  have e : ∀ t, pc_tks (pc_pw σ n) m s k b t (pc_d m) = pc_pw σ n (pc_d m) := by
    intro t
    unfold pc_tks
    split
    · rw [vv_up_n (by omega), vv_up_n (by omega), vv_row_n (by omega)]
    · rw [vv_up_n (by omega), vv_row_n (by omega)]
  unfold pc_pch pc_tk
  rw [vv_up_s, e]
theorem pc_tk_1 {τ : vv_S} {m s k b : Nat} {t : Int32} : pc_tk τ m s k b t (pc_d m + 1) = pc_tw τ m s k b t := by
  unfold pc_tk
  rw [vv_up_n (by omega)]
  unfold pc_tks
  split
  · rw [vv_up_n (by omega), vv_up_n (by omega), vv_row_s]
  · rw [vv_up_n (by omega), vv_row_s]
theorem pc_tk_2 {τ : vv_S} {m s k b : Nat} {t : Int32} : pc_tk τ m s k b t (pc_d m + 2) = if nI 8 < t then upd (τ (pc_d m + 2)) s (pc_sum (τ k) b 8) else τ (pc_d m + 2) := by
  unfold pc_tk
  rw [vv_up_n (by omega)]
  unfold pc_tks
  split
  · rw [vv_up_n (by omega), vv_up_s, vv_row_n (by omega)]
  · rw [vv_up_n (by omega), vv_row_n (by omega)]
theorem pc_tk_3 {τ : vv_S} {m s k b : Nat} {t : Int32} : pc_tk τ m s k b t (pc_d m + 3) = upd (τ (pc_d m + 3)) s (if nI 8 < t then nI 0 else nI 1) := by
  unfold pc_tk
  rw [vv_up_n (by omega)]
  unfold pc_tks
  split
  · rw [vv_up_s, vv_up_n (by omega), vv_row_n (by omega)]
  · rw [vv_up_s, vv_row_n (by omega)]
/-- a chunk is written, alike on both sides -/
theorem pr_Rel.pch (h : pr_Rel n σ ρ) {m s k b : Nat} (hm : m < n) (hs : s < 24) (hk5 : 5 ≤ k) (hk : k < 28) (hw : ∀ i, i < 8 → ρ 14 i = σ k (b + i)) : pr_Rel n (pc_pch σ n m s k b) (pm_ch ρ n m s (pm_t ρ)) := by
  have hp := h.pw
  obtain ⟨ht1, ht2⟩ := h.t
  have hcut := h.cut
  have ek : pc_pw σ n k = σ k := pc_pw_o (Or.inl hk) (by omega) (by omega)
  have e08 : pc_pw σ n 0 8 = nI (pm_t ρ) := by rw [← hp.2.1.2.2.1, pm_go_f (by decide) (by decide) (by decide), h.2.1.2.2.1]; exact ht1
  have hT : ∃ T, (if σ 0 7 = 0 then pc_pw σ n 0 8 else nI 9) = nI T ∧ T ≤ 9 ∧ ((σ 0 7 = 0 ∧ T = pm_t ρ) ∨ (¬ σ 0 7 = 0 ∧ T = 9)) := by
    by_cases z : σ 0 7 = 0
    · rw [if_pos z, e08]; exact ⟨_, rfl, by omega, Or.inl ⟨z, rfl⟩⟩
    · rw [if_neg z]; exact ⟨9, rfl, by omega, Or.inr ⟨z, rfl⟩⟩
  obtain ⟨T, hT, hT9, hTc⟩ := hT
  have etn : ∀ i, i < 8 → (i < pm_tn ρ (pm_t ρ) ↔ nI i < nI T) := by
    intro i hi
    unfold pm_tn
    rw [hcut, nI_ltI (by omega) (by omega)]
    rcases hTc with ⟨a, c⟩ | ⟨a, c⟩
    · rw [if_pos a, c]
    · rw [if_neg a, c]; omega
  have tn8 : pm_tn ρ (pm_t ρ) ≤ 8 := by unfold pm_tn; split <;> omega
  have h8 : nI 8 < nI T ↔ ¬ σ 0 7 = 0 := by
    rw [nI_ltI (by omega) (by omega)]
    rcases hTc with ⟨a, c⟩ | ⟨a, c⟩
    · exact ⟨fun z => by omega, fun z => absurd a z⟩
    · exact ⟨fun _ => a, fun _ => by omega⟩
  have epch : pc_pch σ n m s k b = pc_tk (pc_pw σ n) m s k b (nI T) := by unfold pc_pch; rw [hT]
  have r0 := pm_ch_g (ρ := ρ) (n := n) (m := m) (s := s) (t := pm_t ρ) (k := 0) (by decide)
  have r5 := pm_ch_g (ρ := ρ) (n := n) (m := m) (s := s) (t := pm_t ρ) (k := 5) (by decide)
  have r13 := pm_ch_g (ρ := ρ) (n := n) (m := m) (s := s) (t := pm_t ρ) (k := 13) (by decide)
  have c28 : ∀ i, i < 28 → pc_pch σ n m s k b i = pc_pw σ n i := fun i hi => by unfold pc_pch; rw [pc_tk_o hi]
  refine ⟨⟨fun m' hm' => ?_, fun a a' ha ha' => ?_⟩, hp.2.1.same (c28 0 (by decide)) (fun j _ => by rw [c28 4 (by decide)]) (fun j _ => by rw [r0]) (fun j _ => by rw [r13]), hp.2.2.same (c28 2 (by decide)) (fun i a b => c28 i b) (fun j _ _ => by rw [r0]) (fun i a b => ?_)⟩
  · obtain ⟨p1, p2, p3, p4, p5, p6⟩ := hp.1.1 m' hm'
    rw [pm_go_o (by decide) (by decide) (by decide)] at p1 p2 p3 p4 p5
    by_cases hmm : m' = m
    · subst hmm
      have hst : pr_st (pc_pch σ n m' s k b) (pm_ch ρ n m' s (pm_t ρ)) m' := by
        unfold pr_st at p6 ⊢
        rw [pc_pch_0, r5, vv_upd_n (by decide), vv_upd_n (by decide)]
        exact p6
      have w1 : ∀ s' i, s' < 24 → i < 8 → pm_ch ρ n m' s (pm_t ρ) 1 (8 * (24 * m' + s') + i) = pc_pch σ n m' s k b (pc_d m' + 1) (s' * 8 + i) := by
        intro s' i hs' hi
        rw [pm_ch_1, epch, pc_tk_1]
        unfold pc_tw
        rw [ek]
        dsimp only
        by_cases hss : s' = s
        · subst hss
          by_cases hin : i < pm_tn ρ (pm_t ρ)
          · rw [if_pos ⟨by omega, by omega⟩, if_pos ⟨by omega, by omega, by rw [show s' * 8 + i - s' * 8 = i by omega]; exact (etn i hi).mp hin⟩, show 8 * (24 * m' + s') + i - 8 * (24 * m' + s') = i by omega, show s' * 8 + i - s' * 8 = i by omega]
            exact hw i hi
          · rw [if_neg (by omega), if_neg (fun z => by rw [show s' * 8 + i - s' * 8 = i by omega] at z; exact hin ((etn i hi).mpr z.2.2))]
            exact p1 s' i hs' hi
        · rw [if_neg (by omega), if_neg (by omega)]
          exact p1 s' i hs' hi
      refine ⟨w1, fun s' hs' => ?_, fun s' hs' => ?_, ?_, ?_, hst⟩
      · rw [pm_ch_2, epch, pc_tk_2, hcut]
        by_cases hc : σ 0 7 = 0
        · rw [if_pos hc, if_neg (fun z => h8.mp z hc)]
          exact p2 s' hs'
        · rw [if_neg hc, if_pos (h8.mpr hc)]
          by_cases hss : s' = s
          · subst hss
            rw [vv_upd_s, vv_upd_s]
            apply pr_sum
            intro j hj
            rw [w1 s' j hs' hj, epch, pc_tk_1]
            unfold pc_tw
            rw [if_pos ⟨by omega, by omega, by rw [show s' * 8 + j - s' * 8 = j by omega]; exact Int32.lt_trans (nI_lt hj (by decide)) (h8.mpr hc)⟩, show s' * 8 + j - s' * 8 = j by omega]
          · rw [vv_upd_n (by omega), vv_upd_n hss]
            exact p2 s' hs'
      · rw [pm_ch_3, epch, pc_tk_3, hcut]
        have ei : (if nI 8 < nI T then nI 0 else nI 1) = (if σ 0 7 = 0 then nI 1 else nI 0) := by
          by_cases hc : σ 0 7 = 0
          · rw [if_pos hc, if_neg (fun z => h8.mp z hc)]
          · rw [if_neg hc, if_pos (h8.mpr hc)]
        rw [ei]
        by_cases hss : s' = s
        · subst hss
          rw [vv_upd_s, vv_upd_s]
        · rw [vv_upd_n (by omega), vv_upd_n hss]
          exact p3 s' hs'
      · rw [pm_ch_4, pc_pch_0, vv_upd_n (by decide)]
        exact p4
      · rw [pm_ch_6, pc_pch_0, vv_upd_s, vv_upd_s, p5]
    · have q0 : pc_pch σ n m s k b (pc_d m') = pc_pw σ n (pc_d m') := pc_pch_m' hmm (i := 0) (by decide)
      unfold pr_mem pr_st
      rw [q0, pc_pch_m' hmm (by decide), pc_pch_m' hmm (by decide), pc_pch_m' hmm (by decide), pm_ch_4, pm_ch_6, vv_upd_n hmm, r5]
      refine ⟨fun s' i hs' hi => ?_, fun s' hs' => ?_, fun s' hs' => ?_, p4, p5, p6⟩
      · rw [pm_ch_1]
        dsimp only
        rw [if_neg (by omega)]
        exact p1 s' i hs' hi
      · rw [pm_ch_2]
        split
        · exact p2 s' hs'
        · rw [vv_upd_n (by omega)]; exact p2 s' hs'
      · rw [pm_ch_3, vv_upd_n (by omega)]; exact p3 s' hs'
  · have q : ∀ a, pc_pch σ n m s k b (pc_d a) 3 = pc_pw σ n (pc_d a) 3 := by
      intro a
      by_cases hmm : a = m
      · subst hmm; rw [pc_pch_0, vv_upd_n (by decide)]
      · exact congrFun (pc_pch_m' hmm (i := 0) (by decide)) 3
    rw [q, q]
    exact hp.1.2 a a' ha ha'
  · rw [pm_ch_o (by omega) (by omega) (by omega) (by omega) (by omega) (by omega) (by omega), pm_go_o (by omega) (by omega) (by omega)]
end PRREL2
