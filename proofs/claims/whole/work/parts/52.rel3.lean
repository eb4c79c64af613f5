/-! BITS of masks; what both sides read of a stripe -/
theorem pb_and : ∀ n, n < 7 → 3 ≤ n → ∀ x, x < 64 → ∀ d, d < n - 1 → (pc_bit (nI x &&& pc_all n) d ↔ pc_bit (nI x) d) := by decide +kernel
theorem pb_cells : ∀ n, n < 7 → 3 ≤ n → ∀ x, x < 2 ^ n → pc_cells (nI x) = nI ((if pc_bit (nI x) (n - 1) then 3 else 2) + pm_nb (nI x &&& pc_all n) (n - 1)) := by decide +kernel
theorem pb_64 {n x : Nat} (hn : n ≤ 6) (h : x < 2 ^ n) : x < 64 := Nat.lt_of_lt_of_le h (Nat.pow_le_pow_right (by decide) hn : 2 ^ n ≤ 2 ^ 6)
/-- a part's number in the model -/
def pr_p (n p : Nat) : Nat := if p = n - 1 then 5 else p
theorem pr_p_d {n d : Nat} (h : d < n - 1) : pr_p n d = d := if_neg (by omega)
theorem pr_p_l {n : Nat} : pr_p n (n - 1) = 5 := if_pos rfl
theorem pr_mo_l {n s : Nat} (h : 3 ≤ n) : pc_mo n s (n - 1) = pc_pm n s := by
  have := pc_pm_lt (s := s) h
  unfold pc_mo
  rw [show pc_pm n s + 1 + (n - 1) = pc_pm n s + n by omega, Nat.add_mod_right, Nat.mod_eq_of_lt this]
theorem pr_mr {n s p : Nat} (h : 3 ≤ n) (hn : n ≤ 6) (hp : p < n) : pm_mr n s (pr_p n p) = pc_mo n s p := by
  unfold pm_mr pr_p
  by_cases e : p = n - 1
  · rw [if_pos e, if_pos rfl, e, pr_mo_l h]
  · rw [if_neg e, if_neg (by omega)]
def pr_B (n : Nat) (a b : Bool × vv_S) : Prop := a.1 = b.1 ∧ pr_Rel n a.2 b.2
section PRREL3
variable {n : Nat} {σ ρ σ' ρ' : vv_S}
theorem pr_on {m : Nat} (h : pr_mem σ ρ m) {s : Nat} (hs : s < 24) : pm_on ρ m s ↔ pc_on σ m s := by
  obtain ⟨-, -, -, h4, -, h5⟩ := h
  unfold pm_on pc_on
  rw [h4]
  rcases h5 with ⟨a, b⟩ | ⟨a, b⟩ | ⟨a, c, c1, b, d⟩
  · rw [a, b]
    exact ⟨fun _ => nI_lt hs (by decide), fun _ => Or.inl rfl⟩
  · rw [a, b]
    refine ⟨fun z => ?_, fun z => absurd z (nI_nlt (Nat.zero_le s) (by omega))⟩
    rcases z with z | ⟨z, -⟩
    · exact absurd z (by decide)
    · exact absurd z (by decide)
  · rw [a, b, d]
    refine ⟨fun z => ?_, fun z => Or.inr ⟨rfl, z⟩⟩
    rcases z with z | ⟨-, z⟩
    · exact absurd z (by decide)
    · exact z
theorem pr_there {m : Nat} (h : pr_mem σ ρ m) {s : Nat} (hs : s < 24) : pm_there ρ m s ↔ pc_there σ m s := by
  have h1 := pr_on h hs
  obtain ⟨hw, hu, ht, -⟩ := h
  unfold pm_there pc_there
  rw [h1, hu s hs, ht s hs, pr_sum 8 (fun j hj => hw s j hs hj)]
theorem pr_mi (h : pr_dev n σ ρ) {s : Nat} (hs : s < 24) : ∀ k, k ≤ n → pm_mi ρ s k = pc_cnt σ s k
  | 0, _ => rfl
  | k + 1, hk => by
    have ih := pr_mi h hs k (by omega)
    have ht := pr_there (h.1 k (by omega)) hs
    unfold pm_mi pc_cnt
    rw [ih]
    by_cases z : pc_there σ k s
    · rw [if_pos z, if_pos (ht.mpr z)]
    · rw [if_neg z, if_neg (fun y => z (ht.mp y))]
theorem pc_cnt_0 {s : Nat} : ∀ {k : Nat}, pc_cnt σ s k = 0 ↔ ∀ j, j < k → pc_there σ j s
  | 0 => ⟨fun _ j hj => absurd hj (Nat.not_lt_zero j), fun _ => rfl⟩
  | k + 1 => by
    have ih := pc_cnt_0 (s := s) (k := k)
    unfold pc_cnt
    split
    · rename_i z
      rw [ih]
      exact ⟨fun y => lt_s y z, fun y j hj => y j (by omega)⟩
    · rename_i z
      exact ⟨fun y => by omega, fun y => absurd (y k (by omega)) z⟩
theorem pc_cnt_but {m s : Nat} (ht : ¬ pc_there σ m s) : ∀ {k : Nat}, m < k → (pc_cnt σ s k = 1 ↔ ∀ j, j < k → j ≠ m → pc_there σ j s)
  | 0, h => absurd h (Nat.not_lt_zero m)
  | k + 1, h => by
    unfold pc_cnt
    by_cases e : m = k
    · subst e
      rw [if_neg ht]
      have c0 := pc_cnt_0 (σ := σ) (s := s) (k := m)
      exact ⟨fun y j hj hne => c0.mp (by omega) j (by omega), fun y => by have := c0.mpr (fun j hj => y j (by omega) (by omega)); omega⟩
    · have ih := pc_cnt_but ht (k := k) (by omega)
      split
      · rename_i z
        rw [ih]
        refine ⟨fun y j hj hne => ?_, fun y j hj hne => y j (by omega) hne⟩
        rcases Nat.lt_or_ge j k with q | q
        · exact y j q hne
        · rw [show j = k by omega]; exact z
      · rename_i z
        refine ⟨fun y => ?_, fun y => absurd (y k (by omega) (Ne.symm e)) z⟩
        have c0 := (pc_cnt_0 (σ := σ) (s := s) (k := k)).mp (by omega) m (by omega)
        exact absurd c0 ht
theorem pr_oth {m : Nat} (h : pr_dev n σ ρ) (hm : m < n) (hn : n ≤ 6) {s : Nat} (hs : s < 24) : pm_oth ρ n (nI m) s ↔ pc_oth σ n m s := by
  unfold pm_oth pc_oth
  rw [vv_all_iff]
  have hx : (∀ j, j < n → (nI j = nI m ∨ pm_there ρ j s)) ↔ ∀ j, j < n → j ≠ m → pc_there σ j s := by
    refine ⟨fun z j hj hne => ?_, fun z j hj => ?_⟩
    · rcases z j hj with y | y
      · exact absurd ((nI_eq (by omega) (by omega)).mp y) hne
      · exact (pr_there (h.1 j hj) hs).mp y
    · by_cases e : j = m
      · exact Or.inl (by rw [e])
      · exact Or.inr ((pr_there (h.1 j hj) hs).mpr (z j hj e))
  rw [hx]
  by_cases ht : pc_there σ m s
  · rw [if_pos ht, pc_cnt_0]
    refine ⟨fun z j hj => ?_, fun z j hj _ => z j hj⟩
    by_cases e : j = m
    · rw [e]; exact ht
    · exact z j hj e
  · rw [if_neg ht, pc_cnt_but ht hm]
theorem pr_oth0 (h : pr_dev n σ ρ) (hn : n ≤ 6) {s : Nat} (hs : s < 24) : pm_oth ρ n (-1) s ↔ pc_cnt σ s n = 0 := by
  unfold pm_oth
  rw [vv_all_iff, pc_cnt_0]
  refine ⟨fun z j hj => ?_, fun z j hj => Or.inr ((pr_there (h.1 j hj) hs).mpr (z j hj))⟩
  rcases z j hj with y | y
  · exact absurd y (pm_ne1 (by omega))
  · exact (pr_there (h.1 j hj) hs).mp y
theorem pr_has {e k p : Nat} (h : pr_ent n σ ρ e k) (hn3 : 3 ≤ n) (hn : n ≤ 6) (hp : p < n) : pm_has ρ k (pr_p n p) ↔ pc_bit (σ (pc_e e) 2) p := by
  obtain ⟨-, h9, h10, -, ⟨x, hx, -, hx2⟩, -⟩ := h
  unfold pm_has
  by_cases ep : p = n - 1
  · rw [ep, pr_p_l, if_pos rfl, h10]
    by_cases b : pc_bit (σ (pc_e e) 2) (n - 1)
    · rw [if_pos b]; exact ⟨fun _ => b, fun _ => by decide⟩
    · rw [if_neg b]; exact ⟨fun z => absurd rfl z, fun z => absurd z b⟩
  · rw [pr_p_d (by omega), if_neg (by omega), h9, hx2]
    exact pb_and n (by omega) hn3 x (pb_64 hn hx) p (by omega)
theorem pr_bitd {e k d : Nat} (h : pr_ent n σ ρ e k) (hn3 : 3 ≤ n) (hn : n ≤ 6) (hd : d < n - 1) : pc_bit (ρ 9 k) d ↔ pc_bit (σ (pc_e e) 2) d := by
  have := pr_has h hn3 hn (show d < n by omega)
  rw [pr_p_d hd] at this
  unfold pm_has at this
  rw [if_neg (by omega)] at this
  exact this
theorem pr_bitp {e k : Nat} (h : pr_ent n σ ρ e k) (hn3 : 3 ≤ n) (hn : n ≤ 6) : ¬ ρ 10 k = 0 ↔ pc_bit (σ (pc_e e) 2) (n - 1) := by
  have := pr_has h hn3 hn (show n - 1 < n by omega)
  rw [pr_p_l] at this
  unfold pm_has at this
  rw [if_pos rfl] at this
  exact this
theorem pr_kept {e k p i : Nat} (h : pr_ent n σ ρ e k) (hp : p < n) (hi : i < 8) (hb : pc_bit (σ (pc_e e) 2) p) : ρ 12 (8 * (6 * k + pr_p n p) + i) = σ (pc_e e + 1) (p * 8 + i) := by
  obtain ⟨-, -, -, -, -, hd, hl⟩ := h
  by_cases e : p = n - 1
  · rw [e, pr_p_l]; exact hl i hi (by rw [← e]; exact hb)
  · rw [pr_p_d (by omega)]; exact hd p i (by omega) hi hb
theorem pr_cells {e k : Nat} (h : pr_ent n σ ρ e k) (hn3 : 3 ≤ n) (hn : n ≤ 6) : pc_cells (σ (pc_e e) 2) = nI (pm_cells ρ n k) := by
  have hb := pr_bitp h hn3 hn
  obtain ⟨-, h9, -, -, ⟨x, hx, -, hx2⟩, -⟩ := h
  unfold pm_cells
  rw [h9, hx2, pb_cells n (by omega) hn3 x hx]
  rw [hx2] at hb
  congr 2
  by_cases z : pc_bit (nI x) (n - 1)
  · rw [if_pos z, if_neg (hb.mpr z)]
  · rw [if_neg z, if_pos (Classical.byContradiction (fun y => z (hb.mp y)))]
theorem pr_lat (h : pr_Rel n σ ρ) (hn3 : 3 ≤ n) (hn : n ≤ 6) {s p : Nat} (hp : p < n) : ∀ k, k ≤ pc_r σ → pc_lat σ (pc_o σ) s p k = (pm_lat ρ s (pr_p n p) k).map (pc_re (pc_o σ))
  | 0, _ => rfl
  | k + 1, hk => by
    have ih := pr_lat h hn3 hn (s := s) hp k (by omega)
    have he := h.ent (show k < pc_r σ by omega)
    have hh := pr_has he hn3 hn hp
    unfold pc_lat pm_lat
    rw [he.1]
    by_cases z : σ (pc_e (pc_re (pc_o σ) k)) 1 = nI s ∧ pc_bit (σ (pc_e (pc_re (pc_o σ) k)) 2) p
    · rw [if_pos z, if_pos ⟨z.1, hh.mpr z.2⟩]; rfl
    · rw [if_neg z, if_neg (fun y => z ⟨y.1, hh.mp y.2⟩)]; exact ih
theorem pm_lat_has {s p k : Nat} : ∀ r, pm_lat ρ s p r = some k → pm_has ρ k p
  | 0, h => by cases h
  | r + 1, h => by
    unfold pm_lat at h
    split at h
    · rename_i z; cases h; exact z.2
    · exact pm_lat_has r h
theorem pr_hn (h : pr_Rel n σ ρ) (hn3 : 3 ≤ n) (hn : n ≤ 6) {s p : Nat} (hs : s < 24) (hp : p < n) : pm_hn ρ n (pc_r σ) s (pr_p n p) ↔ ¬ pc_nn σ n (pc_o σ) (pc_r σ) s p := by
  have hl := pr_lat h hn3 hn (s := s) hp _ (Nat.le_refl _)
  have ht := pr_there (h.mem (pc_mo_lt (s := s) (d := p) hn3)) hs
  unfold pm_hn pc_nn
  rw [pr_mr hn3 hn hp, ht, hl]
  cases pm_lat ρ s (pr_p n p) (pc_r σ) with
  | none =>
    refine ⟨fun z y => ?_, fun z => Or.inr (Classical.byContradiction (fun q => z ⟨rfl, q⟩))⟩
    rcases z with q | q
    · exact q rfl
    · exact y.2 q
  | some k =>
    refine ⟨fun _ y => ?_, fun _ => Or.inl (fun q => ?_)⟩
    · have q := y.1; cases q
    · cases q
/-- a part as it is now: from the journal, or the member's chunk -/
theorem pr_nw (h : pr_Rel n σ ρ) (hn3 : 3 ≤ n) (hn : n ≤ 6) {s p i : Nat} (hs : s < 24) (hp : p < n) (hi : i < 8) : pm_nw ρ n (pc_r σ) s (pr_p n p) i = (match pc_lat σ (pc_o σ) s p (pc_r σ) with
  | some e => σ (pc_e e + 1) (p * 8 + i)
  | none => σ (pc_d (pc_mo n s p) + 1) (s * 8 + i)) := by
  have hl := pr_lat h hn3 hn (s := s) hp _ (Nat.le_refl _)
  rw [hl]
  unfold pm_nw
  cases hk : pm_lat ρ s (pr_p n p) (pc_r σ) with
  | none =>
    dsimp only [Option.map]
    rw [pr_mr hn3 hn hp]
    exact (h.mem (pc_mo_lt hn3)).1 s i hs hi
  | some k =>
    dsimp only [Option.map]
    have hlt := pm_lat_lt hk
    exact pr_kept (h.ent hlt) hp hi ((pr_has (h.ent hlt) hn3 hn hp).mp (pm_lat_has _ hk))
/-- a record's parts are written, alike -/
theorem pr_per (hn3 : 3 ≤ n) (hn : n ≤ 6) {k s e t : Nat} (hs : s < 24) : ∀ (f p : Nat) (σ ρ : vv_S), pr_Rel n σ ρ → k < pc_r σ → e = pc_re (pc_o σ) k → t = pm_t ρ → p + f = n - 1 →
    pr_B n (pc_per n e s (f + 1) p σ) (if (pm_dnr n k s t f p ρ).1 = true then pm_dp n k s t (pm_dnr n k s t f p ρ).2 else (false, (pm_dnr n k s t f p ρ).2))
  | 0, p, σ, ρ, h, hk, he, ht, hp => by
    subst he ht
    have hent := h.ent hk
    have hlt : pc_re (pc_o σ) k < 11 := Nat.mod_lt _ (by decide)
    have ep : p = n - 1 := by omega
    subst ep
    have emo := pr_mo_l (s := s) hn3
    have hb := pr_bitp hent hn3 hn
    have hon := pr_on (h.mem (pc_pm_lt (s := s) hn3)) hs
    show pr_B n (pc_per n _ s 1 (n - 1) σ) (pm_dp n k s (pm_t ρ) ρ)
    unfold pc_per pm_dp
    rw [emo]
    by_cases c : pc_bit (σ (pc_e (pc_re (pc_o σ) k)) 2) (n - 1) ∧ pc_on σ (pc_pm n s) s
    · have c' : ¬ ρ 10 k = 0 ∧ pm_on ρ (pc_pm n s) s := ⟨hb.mpr c.1, hon.mpr c.2⟩
      rw [if_pos c, if_pos c', h.cut]
      have hR := (h.five (σ' := σ) (ρ' := pm_ff ρ k 5) (fun _ _ => rfl) (fun i a b => pm_ff_o a)).pch (pc_pm_lt (s := s) hn3) hs (k := pc_e (pc_re (pc_o σ) k) + 1) (b := (n - 1) * 8) (by unfold pc_e; omega) (by unfold pc_e; omega) (fun i hi => by
        show (if i < 8 then ρ 12 (8 * (6 * k + 5) + i) else ρ 14 i) = _
        rw [if_pos hi, ← pr_p_l (n := n)]
        exact pr_kept hent (by omega) hi c.1)
      rw [show pm_t (pm_ff ρ k 5) = pm_t ρ by unfold pm_t; rw [pm_ff_o (by decide)]] at hR
      by_cases hc : σ 0 7 = 0
      · rw [if_pos hc, if_pos hc]; exact ⟨rfl, hR⟩
      · rw [if_neg hc, if_neg hc]; exact ⟨rfl, hR⟩
    · have c' : ¬ (¬ ρ 10 k = 0 ∧ pm_on ρ (pc_pm n s) s) := fun z => c ⟨hb.mp z.1, hon.mp z.2⟩
      rw [if_neg c, if_neg c']
      exact ⟨rfl, h⟩
  | f + 1, p, σ, ρ, h, hk, he, ht, hp => by
    subst he ht
    have hent := h.ent hk
    have hlt : pc_re (pc_o σ) k < 11 := Nat.mod_lt _ (by decide)
    have hb := pr_bitd hent hn3 hn (show p < n - 1 by omega)
    have hmo := pc_mo_lt (s := s) (d := p) hn3
    have hon := pr_on (h.mem hmo) hs
    rw [show pc_per n (pc_re (pc_o σ) k) s (f + 1 + 1) p σ = if pc_bit (σ (pc_e (pc_re (pc_o σ) k)) 2) p ∧ pc_on σ (pc_mo n s p) s then (if σ 0 7 = 0 then (false, pc_pch σ n (pc_mo n s p) s (pc_e (pc_re (pc_o σ) k) + 1) (p * 8)) else pc_per n (pc_re (pc_o σ) k) s (f + 1) (p + 1) (pc_pch σ n (pc_mo n s p) s (pc_e (pc_re (pc_o σ) k) + 1) (p * 8))) else pc_per n (pc_re (pc_o σ) k) s (f + 1) (p + 1) σ from rfl]
    unfold pm_dnr
    by_cases c : pc_bit (σ (pc_e (pc_re (pc_o σ) k)) 2) p ∧ pc_on σ (pc_mo n s p) s
    · have c' : pc_bit (ρ 9 k) p ∧ pm_on ρ (pc_mo n s p) s := ⟨hb.mpr c.1, hon.mpr c.2⟩
      rw [if_pos c, if_pos c', h.cut]
      have hR := (h.five (σ' := σ) (ρ' := pm_ff ρ k p) (fun _ _ => rfl) (fun i a b => pm_ff_o a)).pch hmo hs (k := pc_e (pc_re (pc_o σ) k) + 1) (b := p * 8) (by unfold pc_e; omega) (by unfold pc_e; omega) (fun i hi => by
        show (if i < 8 then ρ 12 (8 * (6 * k + p) + i) else ρ 14 i) = _
        rw [if_pos hi]
        have := pr_kept hent (show p < n by omega) hi c.1
        rw [pr_p_d (by omega)] at this
        exact this)
      rw [show pm_t (pm_ff ρ k p) = pm_t ρ by unfold pm_t; rw [pm_ff_o (by decide)]] at hR
      by_cases hc : σ 0 7 = 0
      · rw [if_pos hc, if_pos hc]; exact ⟨rfl, hR⟩
      · rw [if_neg hc, if_neg hc]
        have e2 : pc_pch σ n (pc_mo n s p) s (pc_e (pc_re (pc_o σ) k) + 1) (p * 8) 2 = σ 2 := pc_pch_o (by decide) (by decide) (by decide)
        refine pr_per hn3 hn hs f (p + 1) _ _ hR (by rw [pc_r_row e2]; exact hk) (by rw [pc_o_row e2]) ?_ (by omega)
        unfold pm_t
        rw [pm_ch_f (by decide) (by decide) (by decide), pm_ff_o (by decide)]
    · have c' : ¬ (pc_bit (ρ 9 k) p ∧ pm_on ρ (pc_mo n s p) s) := fun z => c ⟨hb.mp z.1, hon.mp z.2⟩
      rw [if_neg c, if_neg c']
      exact pr_per hn3 hn hs f (p + 1) σ ρ h hk rfl rfl (by omega)
theorem pr_pe (h : pr_Rel n σ ρ) (hn3 : 3 ≤ n) (hn : n ≤ 6) {k : Nat} (hk : k < pc_r σ) : pr_B n (pc_pe n (pc_re (pc_o σ) k) (pc_s σ (pc_re (pc_o σ) k)) σ) (pm_dn n k (pm_s ρ k) (pm_t ρ) ρ) := by
  have hs := h.s hk
  rw [hs.2.1]
  have := pr_per hn3 hn (k := k) hs.2.2 (n - 1) 0 σ ρ h hk rfl rfl (by omega)
  rw [show n - 1 + 1 = n by omega] at this
  exact this
end PRREL3
