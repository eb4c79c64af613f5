/-! THE CLASS'S INVARIANT: what keeps its numbers in their ranges -/
theorem pc_pw_s {σ : vv_S} {n k : Nat} (h : ¬ σ 0 7 = 0) (h0 : k ≠ 0) (h4 : k ≠ 4) : pc_pw σ n k = σ k := by
  unfold pc_pw pc_tl
  rw [if_neg h, vv_up_n h0, vv_up_n h4]
theorem pc_pw_s0 {σ : vv_S} {n j : Nat} (h : ¬ σ 0 7 = 0) (hj : j ≠ 7) : pc_pw σ n 0 j = σ 0 j := by
  unfold pc_pw pc_tl
  rw [if_neg h, vv_up_s, vv_upd_n hj, vv_up_n (by decide)]
theorem pc_pmk_s {σ : vv_S} {n o r q k : Nat} (h : ¬ σ 0 7 = 0) (h0 : k ≠ 0) (h2 : k ≠ 2) (h4 : k ≠ 4) : pc_pmk σ n o r q k = σ k := by
  unfold pc_pmk
  rw [if_neg h, vv_row_n h2, pc_pw_s (σ := pc_tl σ 2) h h0 h4, pc_tl_o h4]
theorem pc_o_row {σ τ : vv_S} (h : τ 2 = σ 2) : pc_o τ = pc_o σ := by unfold pc_o; rw [h]
theorem pc_r_row {σ τ : vv_S} (h : τ 2 = σ 2) : pc_r τ = pc_r σ := by unfold pc_r; rw [h]
/-- cells of the first k records of the ring -/
def pc_u (σ : vv_S) (o : Nat) : Nat → Nat
  | 0 => 0
  | k + 1 => pc_u σ o k + pc_cn (σ (pc_e (pc_re o k)) 2)
theorem pc_u_congr {σ τ : vv_S} {o : Nat} : ∀ (r : Nat), (∀ k, k < r → τ (pc_e (pc_re o k)) 2 = σ (pc_e (pc_re o k)) 2) → pc_u τ o r = pc_u σ o r
  | 0, _ => rfl
  | r + 1, h => by unfold pc_u; rw [pc_u_congr r (fun k hk => h k (by omega)), h r (by omega)]
theorem pc_re_re {o j k : Nat} : pc_re (pc_re o j) k = pc_re o (j + k) := by unfold pc_re; omega
theorem pc_re_ne {o k r : Nat} (h : k < r) (hr : r ≤ 10) : pc_re o k ≠ pc_re o r := by unfold pc_re; omega
theorem pc_u_shift {σ : vv_S} {o j : Nat} : ∀ (k : Nat), pc_u σ (pc_re o j) k + pc_u σ o j = pc_u σ o (j + k)
  | 0 => by unfold pc_u; rw [Nat.zero_add]; rfl
  | k + 1 => by
    have ih := pc_u_shift (σ := σ) (o := o) (j := j) k
    show pc_u σ (pc_re o j) k + pc_cn (σ (pc_e (pc_re (pc_re o j) k)) 2) + pc_u σ o j = pc_u σ o (j + k) + pc_cn (σ (pc_e (pc_re o (j + k))) 2)
    rw [pc_re_re]
    omega
theorem pc_u_mono {σ : vv_S} {o j r : Nat} (h : j ≤ r) : pc_u σ o j ≤ pc_u σ o r := by
  have := pc_u_shift (σ := σ) (o := o) (j := j) (r - j)
  rw [show j + (r - j) = r by omega] at this
  omega
theorem pc_fj_3 {σ : vv_S} {o r U : Nat} (hU : σ 2 3 = nI U) : ∀ (k : Nat), pc_u σ o k ≤ U → pc_fj σ o r k 3 = nI (U - pc_u σ o k)
  | 0, _ => by show σ 2 3 = _; rw [hU]; rfl
  | k + 1, h => by
    have h1 : pc_u σ o (k + 1) = pc_u σ o k + pc_cn (σ (pc_e (pc_re o k)) 2) := rfl
    have ih := pc_fj_3 (σ := σ) (o := o) (r := r) hU k (by omega)
    show pc_fj σ o r k 3 - pc_cells (σ (pc_e (pc_re o k)) 2) = _
    rw [ih, pc_cn_is, pk_sub (by omega)]
    congr 1
    omega
theorem pc_free_nat {σ : vv_S} {o U : Nat} (hU : σ 2 3 = nI U) (h : U ≤ 32) : ∀ (k : Nat), pc_free σ o k = nI (32 - U + pc_u σ o k)
  | 0 => by show nI 32 - σ 2 3 = _; rw [hU, pk_sub h]; rfl
  | k + 1 => by
    show pc_free σ o k + pc_cells (σ (pc_e (pc_re o k)) 2) = _
    rw [pc_free_nat hU h k, pc_cn_is, nI_add]
    exact congrArg nI (Nat.add_assoc _ _ _)
/-- the search for room: at its end there is room, or no record is left -/
theorem pc_tf_end {σ : vv_S} {o r : Nat} {c : Int32} : ∀ (f k : Nat), k + f = r → pc_tf σ o r c f k = r ∨ ¬ pc_free σ o (pc_tf σ o r c f k) < c
  | 0, k, h => Or.inl (by show k = r; omega)
  | f + 1, k, h => by
    unfold pc_tf
    split
    · exact pc_tf_end f (k + 1) (by omega)
    · rename_i z
      exact Or.inr (fun y => z ⟨by omega, y⟩)
def pc_A (σ : vv_S) : Prop := (∀ e, e < 11 → ∃ x, x < 64 ∧ σ (pc_e e) 2 = nI x) ∧ σ 2 3 = nI (pc_u σ (pc_o σ) (pc_r σ)) ∧ pc_u σ (pc_o σ) (pc_r σ) ≤ 32 ∧ ∀ k, k < pc_r σ → 3 ≤ pc_cn (σ (pc_e (pc_re (pc_o σ) k)) 2)
/-- behind j freed records (journal's row), masks of the rest untouched -/
theorem pc_A_fj {σ τ : vv_S} {j : Nat} (h : pc_A σ) (hJ : pc_J σ) (hj : j ≤ pc_r σ) (h2 : τ 2 = pc_fj σ (pc_o σ) (pc_r σ) j) (hm : ∀ e, e < 11 → ∃ x, x < 64 ∧ τ (pc_e e) 2 = nI x)
    (he : ∀ k, k < pc_r σ → τ (pc_e (pc_re (pc_o σ) k)) 2 = σ (pc_e (pc_re (pc_o σ) k)) 2) : pc_A τ ∧ pc_o τ = pc_re (pc_o σ) j ∧ pc_r τ = pc_r σ - j := by
  have hr10 := hJ.2.2.2.1
  have ho : pc_o τ = pc_re (pc_o σ) j := pc_o_eq (by rw [h2]; exact pc_fj_1 hJ.1 hJ.2.1 j) (Nat.mod_lt _ (by decide))
  have hr : pc_r τ = pc_r σ - j := pc_r_eq (by rw [h2]; exact pc_fj_2 hJ.2.2.1 j) (by omega)
  have hc : ∀ k, k < pc_r σ - j → τ (pc_e (pc_re (pc_re (pc_o σ) j) k)) 2 = σ (pc_e (pc_re (pc_re (pc_o σ) j) k)) 2 := fun k hk => by rw [pc_re_re]; exact he (j + k) (by omega)
  have hu := pc_u_shift (σ := σ) (o := pc_o σ) (j := j) (pc_r σ - j)
  rw [show j + (pc_r σ - j) = pc_r σ by omega] at hu
  have hm2 := pc_u_mono (σ := σ) (o := pc_o σ) hj
  refine ⟨⟨hm, ?_, ?_, ?_⟩, ho, hr⟩
  · rw [ho, hr, pc_u_congr _ hc, h2, pc_fj_3 h.2.1 j hm2]
    congr 1
    omega
  · rw [ho, hr, pc_u_congr _ hc]
    have := h.2.2.1
    omega
  · intro k hk
    rw [hr] at hk
    rw [ho, hc k hk, pc_re_re]
    exact h.2.2.2 (j + k) (by omega)
/-- the journal's row behind a run of drains: some of the oldest are free, all of them if the power stayed -/
theorem pc_fj_congr {σ τ : vv_S} {o r : Nat} (h2 : τ 2 = σ 2) (he : ∀ e, e < 11 → τ (pc_e e) 2 = σ (pc_e e) 2) : ∀ j, pc_fj τ o r j = pc_fj σ o r j
  | 0 => h2
  | j + 1 => by
    have ih := pc_fj_congr (σ := σ) (τ := τ) (o := o) (r := r) h2 he j
    unfold pc_fj
    rw [ih, he _ (Nat.mod_lt _ (by decide))]
theorem pc_fj_add {σ τ : vv_S} {o r : Nat} (h2 : τ 2 = pc_fj σ o r 1) (he : ∀ e, e < 11 → τ (pc_e e) 2 = σ (pc_e e) 2) (ho : o < 11) : ∀ j, pc_fj τ (pc_re o 1) (r - 1) j = pc_fj σ o r (1 + j)
  | 0 => h2
  | j + 1 => by
    have ih := pc_fj_add (σ := σ) (τ := τ) (o := o) (r := r) h2 he ho j
    have e1 : pc_re (pc_re o 1) j = pc_re o (1 + j) := pc_re_re
    show upd (upd (upd (upd (upd (pc_fj τ (pc_re o 1) (r - 1) j) 4 _) 5 _) 3 _) 1 _) 2 (nI (r - 1 - j - 1)) = upd (upd (upd (upd (upd (pc_fj σ o r (1 + j)) 4 _) 5 _) 3 _) 1 _) 2 (nI (r - (1 + j) - 1))
    rw [ih, e1, he _ (Nat.mod_lt _ (by decide)), show r - 1 - j - 1 = r - (1 + j) - 1 by omega]
    rfl
theorem pc_dr_2 {n : Nat} : ∀ (q : Nat) (τ : vv_S), pc_J τ → q ≤ pc_r τ → (∃ j, j ≤ q ∧ (pc_dr n q τ).2 2 = pc_fj τ (pc_o τ) (pc_r τ) j) ∧ ((pc_dr n q τ).1 = true → (pc_dr n q τ).2 2 = pc_fj τ (pc_o τ) (pc_r τ) q)
  | 0, τ, _, _ => ⟨⟨0, Nat.le_refl 0, rfl⟩, fun _ => rfl⟩
  | q + 1, τ, h, hq => by
    have he : ∀ e, e < 11 → (pc_d1 n τ).2 (pc_e e) = τ (pc_e e) := fun e he => pc_pe_o (pc_e_lt he) (pc_e_ne (by decide)) (pc_e_ne (by decide))
    have h2 : (pc_d1 n τ).2 2 = τ 2 := pc_pe_o (by decide) (by decide) (by decide)
    unfold pc_dr
    split
    · split
      · rename_i hc
        refine ⟨⟨0, Nat.zero_le _, ?_⟩, fun z => by cases z⟩
        show pc_pmk (pc_d1 n τ).2 n (pc_o τ) (pc_r τ) 1 2 = τ 2
        rw [pc_pmk_d hc, h2]
      · rename_i hc
        have hJ := pc_dr_J h (by omega) hc
        have hr10 := h.2.2.2.1
        have hr := pc_r_eq hJ.2 (by omega)
        have hrow : pc_tl (pc_pmk (pc_d1 n τ).2 n (pc_o τ) (pc_r τ) 1) 5 2 = pc_fj τ (pc_o τ) (pc_r τ) 1 := by
          rw [pc_tl_o (by decide), pc_pmk_2 hc]
          exact pc_fj_congr (by rw [pc_pw_o (by decide) (by decide) (by decide), pc_tl_o (by decide), h2]) (fun e h1 => by rw [pc_pw_o (Or.inl (pc_e_lt h1)) (pc_e_ne (by decide)) (pc_e_ne (by decide)), pc_tl_o (pc_e_ne (by decide)), he e h1]) 1
        have ho : pc_o (pc_tl (pc_pmk (pc_d1 n τ).2 n (pc_o τ) (pc_r τ) 1) 5) = pc_re (pc_o τ) 1 := pc_o_eq (by rw [hrow]; exact pc_fj_1 h.1 h.2.1 1) (Nat.mod_lt _ (by decide))
        have hee : ∀ e, e < 11 → pc_tl (pc_pmk (pc_d1 n τ).2 n (pc_o τ) (pc_r τ) 1) 5 (pc_e e) 2 = τ (pc_e e) 2 := fun e h1 => by
          rw [pc_tl_o (pc_e_ne (by decide)), pc_pmk_o (pc_e_lt h1) (pc_e_ne (by decide)) (pc_e_ne (by decide)) (pc_e_ne (by decide)), he e h1]
        obtain ⟨⟨j, i1, i2⟩, i3⟩ := pc_dr_2 q _ hJ.1 (by rw [hr]; omega)
        have ad := pc_fj_add (σ := τ) (o := pc_o τ) (r := pc_r τ) hrow hee h.2.1
        rw [ho, hr] at i2 i3
        refine ⟨⟨1 + j, by omega, ?_⟩, fun z => ?_⟩
        · rw [i2, ad]
        · rw [i3 z, ad, Nat.add_comm]
    · exact ⟨⟨0, Nat.zero_le _, h2⟩, fun z => by cases z⟩
theorem pc_dr_A {n q : Nat} {τ : vv_S} (hJ : pc_J τ) (hA : pc_A τ) (hq : q ≤ pc_r τ) : pc_A (pc_dr n q τ).2 := by
  obtain ⟨⟨j, h1, h2⟩, -⟩ := pc_dr_2 (n := n) q τ hJ hq
  have hD := (pc_dr_all (n := n) q τ hJ hq).2
  have he : ∀ e, e < 11 → (pc_dr n q τ).2 (pc_e e) = τ (pc_e e) := fun e he => hD _ (pc_e_lt he) (pc_e_ne (by decide)) (pc_e_ne (by decide)) (pc_e_ne (by decide))
  exact (pc_A_fj hA hJ (Nat.le_trans h1 hq) h2 (fun e h3 => by rw [he e h3]; exact hA.1 e h3) (fun k _ => by rw [he _ (Nat.mod_lt _ (by decide))])).1
theorem pc_A.same {σ τ : vv_S} (h : pc_A σ) (hJ : pc_J σ) (h2 : τ 2 = σ 2) (he : ∀ e, e < 11 → τ (pc_e e) 2 = σ (pc_e e) 2) : pc_A τ := (pc_A_fj (j := 0) h hJ (Nat.zero_le _) h2 (fun e h1 => by rw [he e h1]; exact h.1 e h1) (fun k _ => he _ (Nat.mod_lt _ (by decide)))).1
theorem pc_or_nat : ∀ a, a < 64 → ∀ p, p < 6 → nI a ||| (nI 1 <<< (nI p &&& 31)) = nI (a ||| 2 ^ p) ∧ (a ||| 2 ^ p) < 64 ∧ (a ||| 2 ^ p) ≠ 0 := by decide +kernel
theorem pc_cn_ge : ∀ a, a < 64 → a ≠ 0 → 3 ≤ pc_cn (nI a) ∧ pc_cn (nI a) ≤ 8 := by decide +kernel
/-! the record that is made: its mask -/
theorem pc_wl_x {n e f : Nat} {v : Int32} (hn : n ≤ 6) (hn3 : 3 ≤ n) : ∀ (g b : Nat) (τ : vv_S), (∃ x, x < 64 ∧ (g = 0 → x ≠ 0) ∧ τ (pc_e e) 2 = nI x) → ∃ x, x < 64 ∧ x ≠ 0 ∧ pc_wl n e f v g b τ (pc_e e) 2 = nI x
  | 0, b, τ, h => by obtain ⟨x, h1, h2, h3⟩ := h; exact ⟨x, h1, h2 rfl, h3⟩
  | g + 1, b, τ, h => by
    obtain ⟨x, h1, -, h3⟩ := h
    have hb : b % (n - 1) < 6 := by have := Nat.mod_lt b (show 0 < n - 1 by omega); omega
    obtain ⟨a1, a2, a3⟩ := pc_or_nat x h1 _ hb
    refine pc_wl_x hn hn3 g (b + 1) _ ⟨x ||| 2 ^ (b % (n - 1)), a2, fun _ => a3, ?_⟩
    unfold pc_ad pc_or
    rw [vv_row_n (by omega), vv_up_s, vv_upd_s, h3, a1]
theorem pc_ws3_x {σ : vv_S} {n o r s f t : Nat} {v : Int32} (hn : n ≤ 6) (hn3 : 3 ≤ n) (hft : f ≤ t) : ∃ x, x < 64 ∧ x ≠ 0 ∧ pc_ws3 σ n o r s f t v (pc_e (pc_re o r)) 2 = nI x := by
  obtain ⟨x, h1, h2, h3⟩ := pc_wl_x (n := n) (e := pc_re o r) (f := f) (v := v) hn hn3 (t + 1 - f) f (pc_bgn σ (pc_re o r) s) ⟨0, by decide, fun z => by omega, by unfold pc_bgn; rw [vv_up_s, vv_upd_s]⟩
  have h4 : pc_ws2 σ n o r s f t v (pc_e (pc_re o r)) 2 = nI x := by
    unfold pc_ws2
    rw [vv_up_s, vv_upd_n (by decide)]
    exact h3
  unfold pc_ws3
  split
  · exact ⟨x, h1, h2, h4⟩
  · obtain ⟨a1, a2, a3⟩ := pc_or_nat x h1 (n - 1) (by omega)
    refine ⟨x ||| 2 ^ (n - 1), a2, a3, ?_⟩
    unfold pc_ap pc_aw
    rw [vv_row_n (by omega)]
    unfold pc_or
    rw [vv_up_s, vv_upd_s, pc_apr_o (pc_e_ne (by decide)) (pc_e_ne (by decide))]
    unfold pc_clr
    rw [vv_row_n (pc_e_ne (by decide)), h4, a1]
def pc_I (σ : vv_S) : Prop := pc_J σ ∧ pc_A σ
theorem pc_ws2_x {σ : vv_S} {n o r s f t : Nat} {v : Int32} (hn : n ≤ 6) (hn3 : 3 ≤ n) (hft : f ≤ t) : ∃ x, x < 64 ∧ x ≠ 0 ∧ pc_ws2 σ n o r s f t v (pc_e (pc_re o r)) 2 = nI x := by
  obtain ⟨x, h1, h2, h3⟩ := pc_wl_x (n := n) (e := pc_re o r) (f := f) (v := v) hn hn3 (t + 1 - f) f (pc_bgn σ (pc_re o r) s) ⟨0, by decide, fun z => by omega, by unfold pc_bgn; rw [vv_up_s, vv_upd_s]⟩
  refine ⟨x, h1, h2, ?_⟩
  unfold pc_ws2
  rw [vv_up_s, vv_upd_n (by decide)]
  exact h3
theorem pc_ws2_J {σ : vv_S} {n o r s f t : Nat} {v : Int32} (h : pc_J σ) (hs : s < 24) : pc_J (pc_ws2 σ n o r s f t v) ∧ pc_ws2 σ n o r s f t v 2 = σ 2 := by
  have h2 : pc_ws2 σ n o r s f t v 2 = σ 2 := pc_ws2_o (by unfold pc_e; omega) (by unfold pc_e; omega)
  refine ⟨pc_J_of (by rw [h2]; exact h.1) h.2.1 (by rw [h2]; exact h.2.2.1) h.2.2.2.1 (fun e he => ?_), h2⟩
  by_cases hee : e = pc_re o r
  · rw [hee]
    exact ⟨s, hs, pc_ws2_e.1⟩
  · rw [pc_ws2_o (fun z => hee (pc_e_inj z)) (by unfold pc_e; omega)]
    exact ⟨_, (h.2.2.2.2 e he).2, (h.2.2.2.2 e he).1⟩
/-- the invariant holds while the record is made (it isn't in the journal yet) -/
theorem pc_mk_A {σ τ : vv_S} (hJ : pc_J σ) (hA : pc_A σ) (h2 : τ 2 = σ 2) (hx : ∃ x, x < 64 ∧ x ≠ 0 ∧ τ (pc_e (pc_re (pc_o σ) (pc_r σ))) 2 = nI x) (ho : ∀ e, e < 11 → e ≠ pc_re (pc_o σ) (pc_r σ) → τ (pc_e e) = σ (pc_e e)) : pc_A τ := by
  refine (pc_A_fj (j := 0) hA hJ (Nat.zero_le _) h2 (fun e he => ?_) (fun k hk => ?_)).1
  · by_cases hee : e = pc_re (pc_o σ) (pc_r σ)
    · obtain ⟨x, a, -, b⟩ := hx
      rw [hee]
      exact ⟨x, a, b⟩
    · rw [ho e he hee]
      exact hA.1 e he
  · rw [ho _ (Nat.mod_lt _ (by decide)) (pc_re_ne hk hJ.2.2.2.1)]
theorem pc_ws3_A {σ : vv_S} {n s f t : Nat} {v : Int32} (hn : n ≤ 6) (hn3 : 3 ≤ n) (hft : f ≤ t) (hJ : pc_J σ) (hA : pc_A σ) : pc_A (pc_ws3 σ n (pc_o σ) (pc_r σ) s f t v) :=
  pc_mk_A hJ hA (pc_ws3_o (by unfold pc_e; omega) (by unfold pc_e; omega) (by decide) (by decide)) (pc_ws3_x hn hn3 hft) (fun e he hee => pc_ws3_o (fun z => hee (pc_e_inj z)) (by unfold pc_e; omega) (pc_e_ne (by decide)) (pc_e_ne (by decide)))
theorem pc_ws2_A {σ : vv_S} {n s f t : Nat} {v : Int32} (hn : n ≤ 6) (hn3 : 3 ≤ n) (hft : f ≤ t) (hJ : pc_J σ) (hA : pc_A σ) : pc_A (pc_ws2 σ n (pc_o σ) (pc_r σ) s f t v) :=
  pc_mk_A hJ hA (pc_ws2_o (by unfold pc_e; omega) (by unfold pc_e; omega)) (pc_ws2_x hn hn3 hft) (fun e he hee => pc_ws2_o (fun z => hee (pc_e_inj z)) (by unfold pc_e; omega))
/-- a record is added where there is room -/
theorem pc_am_I {τ : vv_S} {w x : Nat} (hJ : pc_J τ) (hA : pc_A τ) (hx : x < 64) (hx0 : x ≠ 0) (he : τ (pc_e (pc_re (pc_o τ) (pc_r τ))) 2 = nI x) (hroom : pc_u τ (pc_o τ) (pc_r τ) + pc_cn (nI x) ≤ 32) : pc_I (pc_am τ w) := by
  have hr10 := hJ.2.2.2.1
  have rr : pc_am τ w 2 = upd (upd (τ 2) 3 (τ 2 3 + pc_cells (τ (pc_e (pc_re (pc_o τ) (pc_r τ))) 2))) 2 (nI (pc_r τ + 1)) := by
    unfold pc_am pc_am0
    rw [pc_tl_o (by decide), pc_tl_o (by decide), vv_up_s, vv_up_s]
  have re : ∀ e, pc_am τ w (pc_e e) = τ (pc_e e) := fun e => by
    unfold pc_am pc_am0
    rw [pc_tl_o (pc_e_ne (by decide)), pc_tl_o (pc_e_ne (by decide)), vv_up_n (pc_e_ne (by decide)), vv_up_n (pc_e_ne (by decide))]
  have hcn := (pc_cn_ge x hx hx0).1
  have hu3 : 3 * pc_r τ ≤ pc_u τ (pc_o τ) (pc_r τ) := by
    have key : ∀ k, k ≤ pc_r τ → 3 * k ≤ pc_u τ (pc_o τ) k := by
      intro k
      induction k with
      | zero => intro _; omega
      | succ k ih =>
        intro hk
        have h1 := ih (by omega)
        have h2 := hA.2.2.2 k (by omega)
        show 3 * (k + 1) ≤ pc_u τ (pc_o τ) k + pc_cn (τ (pc_e (pc_re (pc_o τ) k)) 2)
        omega
    exact key _ (Nat.le_refl _)
  have o1 : pc_am τ w 2 1 = nI (pc_o τ) := by rw [rr]; exact hJ.1
  have r1 : pc_am τ w 2 2 = nI (pc_r τ + 1) := by rw [rr]; rfl
  have oe : pc_o (pc_am τ w) = pc_o τ := pc_o_eq o1 hJ.2.1
  have rle : pc_r τ + 1 ≤ 10 := by omega
  have rre : pc_r (pc_am τ w) = pc_r τ + 1 := pc_r_eq r1 rle
  have hu : pc_u (pc_am τ w) (pc_o τ) (pc_r τ + 1) = pc_u τ (pc_o τ) (pc_r τ) + pc_cn (nI x) := by
    rw [pc_u_congr (σ := τ) _ (fun k _ => by rw [re])]
    show pc_u τ (pc_o τ) (pc_r τ) + pc_cn (τ (pc_e (pc_re (pc_o τ) (pc_r τ))) 2) = _
    rw [he]
  refine ⟨pc_J_of o1 hJ.2.1 r1 rle (fun e h1 => by rw [re]; exact ⟨_, (hJ.2.2.2.2 e h1).2, (hJ.2.2.2.2 e h1).1⟩), fun e h1 => by rw [re]; exact hA.1 e h1, ?_, ?_, ?_⟩
  · rw [oe, rre, hu, rr]
    show τ 2 3 + pc_cells (τ (pc_e (pc_re (pc_o τ) (pc_r τ))) 2) = _
    rw [he, hA.2.1, pc_cn_is, nI_add]
  · rw [oe, rre, hu]
    exact hroom
  · intro k hk
    rw [rre] at hk
    rw [oe, re]
    rcases Nat.lt_or_ge k (pc_r τ) with z | z
    · exact hA.2.2.2 k z
    · have : k = pc_r τ := by omega
      rw [this, he]
      exact hcn
/-- writing a stripe keeps the invariant -/
theorem pc_wst_I {σ : vv_S} {n s f t : Nat} {v : Int32} (hn : n ≤ 6) (hn3 : 3 ≤ n) (hft : f ≤ t) (hs : s < 24) (h : pc_I σ) : pc_I (pc_wst σ n (pc_o σ) (pc_r σ) s f t v).2 := by
  obtain ⟨hJ, hA⟩ := h
  have hr10 := hJ.2.2.2.1
  obtain ⟨hJ3, h32⟩ := pc_ws3_J (n := n) (o := pc_o σ) (r := pc_r σ) (s := s) (f := f) (t := t) (v := v) hJ hs
  have hA3 := pc_ws3_A (s := s) (v := v) hn hn3 hft hJ hA
  obtain ⟨x, hx, hx0, hex⟩ := pc_ws3_x (σ := σ) (o := pc_o σ) (r := pc_r σ) (s := s) (v := v) hn hn3 hft
  unfold pc_wst
  generalize pc_ws3 σ n (pc_o σ) (pc_r σ) s f t v = τ3 at hJ3 h32 hA3 hex ⊢
  have o3 : pc_o τ3 = pc_o σ := pc_o_eq (by rw [h32]; exact hJ.1) hJ.2.1
  have r3 : pc_r τ3 = pc_r σ := pc_r_eq (by rw [h32]; exact hJ.2.2.1) hr10
  have hq : pc_wsq τ3 (pc_o σ) (pc_r σ) ≤ pc_r τ3 := by rw [r3]; exact pc_tf_le _ 0 (Nat.zero_le _)
  split
  · exact ⟨(pc_ws2_J hJ hs).1, pc_ws2_A hn hn3 hft hJ hA⟩
  · split
    · rename_i hd
      unfold pc_wsd at hd ⊢
      have hJ4 := (pc_dr_all (n := n) _ τ3 hJ3 hq).1
      have hrows := (pc_dr_all (n := n) _ τ3 hJ3 hq).2
      have hA4 := pc_dr_A (n := n) hJ3 hA3 hq
      have h42 := (pc_dr_2 (n := n) _ τ3 hJ3 hq).2 hd
      have hre : pc_re (pc_o σ) (pc_r σ) < 11 := Nat.mod_lt _ (by decide)
      have he4 : ∀ e, e < 11 → (pc_dr n (pc_wsq τ3 (pc_o σ) (pc_r σ)) τ3).2 (pc_e e) = τ3 (pc_e e) := fun e he => hrows _ (pc_e_lt he) (pc_e_ne (by decide)) (pc_e_ne (by decide)) (pc_e_ne (by decide))
      obtain ⟨-, o4, r4⟩ := pc_A_fj (j := pc_wsq τ3 (pc_o σ) (pc_r σ)) hA3 hJ3 hq h42 (fun e he => by rw [he4 e he]; exact hA3.1 e he) (fun k _ => by rw [he4 _ (Nat.mod_lt _ (by decide))])
      have hc : ∀ c, pc_cells (τ3 (pc_e (pc_re (pc_o σ) (pc_r σ))) 2) = nI c → c ≤ 65 → pc_u (pc_dr n (pc_wsq τ3 (pc_o σ) (pc_r σ)) τ3).2 (pc_re (pc_o σ) (pc_wsq τ3 (pc_o σ) (pc_r σ))) (pc_r σ - pc_wsq τ3 (pc_o σ) (pc_r σ)) + c ≤ 32 ∨ pc_wsq τ3 (pc_o σ) (pc_r σ) = pc_r σ := by
        intro c hc1 hc2
        rcases pc_tf_end (σ := τ3) (o := pc_o σ) (r := pc_r σ) (c := pc_cells (τ3 (pc_e (pc_re (pc_o σ) (pc_r σ))) 2)) (pc_r σ) 0 (Nat.zero_add _) with z | z
        · exact Or.inr z
        · left
          have hU := hA3.2.1
          have hU2 := hA3.2.2.1
          rw [o3, r3] at hU hU2
          rw [hc1] at z
          have z2 := z
          rw [pc_free_nat hU hU2] at z2
          have hmono := pc_u_mono (σ := τ3) (o := pc_o σ) (show pc_wsq τ3 (pc_o σ) (pc_r σ) ≤ pc_r σ from Nat.le_trans hq (Nat.le_of_eq r3))
          have z3 : ¬ 32 - pc_u τ3 (pc_o σ) (pc_r σ) + pc_u τ3 (pc_o σ) (pc_tf τ3 (pc_o σ) (pc_r σ) (nI c) (pc_r σ) 0) < c := fun y => z2 ((nI_ltI (by rw [show pc_tf τ3 (pc_o σ) (pc_r σ) (nI c) (pc_r σ) 0 = pc_wsq τ3 (pc_o σ) (pc_r σ) by unfold pc_wsq; rw [hc1]]; omega) (by omega)).mpr y)
          rw [show pc_tf τ3 (pc_o σ) (pc_r σ) (nI c) (pc_r σ) 0 = pc_wsq τ3 (pc_o σ) (pc_r σ) by unfold pc_wsq; rw [hc1]] at z3
          have hs4 := pc_u_shift (σ := τ3) (o := pc_o σ) (j := pc_wsq τ3 (pc_o σ) (pc_r σ)) (pc_r σ - pc_wsq τ3 (pc_o σ) (pc_r σ))
          rw [show pc_wsq τ3 (pc_o σ) (pc_r σ) + (pc_r σ - pc_wsq τ3 (pc_o σ) (pc_r σ)) = pc_r σ by rw [r3] at hq; omega] at hs4
          rw [pc_u_congr (σ := τ3) _ (fun k _ => by rw [he4 _ (Nat.mod_lt _ (by decide))])]
          omega
      rw [o3] at o4
      rw [r3] at r4 hq
      generalize pc_wsq τ3 (pc_o σ) (pc_r σ) = q at *
      generalize (pc_dr n q τ3).2 = τ4 at *
      have h45 : τ4 (pc_e (pc_re (pc_o σ) (pc_r σ))) 2 = nI x := by rw [he4 _ hre]; exact hex
      have hJ5 : pc_J (pc_wsc τ4 n (pc_re (pc_o σ) (pc_r σ))).2 := hJ4.pcs
      have e5 : ∀ i, i < 28 → i ≠ 0 → i ≠ 4 → (pc_wsc τ4 n (pc_re (pc_o σ) (pc_r σ))).2 i = τ4 i := fun i a b c => pc_pcs_o a b c _ _
      have hA5 : pc_A (pc_wsc τ4 n (pc_re (pc_o σ) (pc_r σ))).2 := hA4.same hJ4 (e5 2 (by decide) (by decide) (by decide)) (fun e he => by rw [e5 _ (pc_e_lt he) (pc_e_ne (by decide)) (pc_e_ne (by decide))])
      split
      · have o5 : pc_o (pc_wsc τ4 n (pc_re (pc_o σ) (pc_r σ))).2 = pc_re (pc_o σ) q := (pc_o_row (e5 2 (by decide) (by decide) (by decide))).trans o4
        have r5 : pc_r (pc_wsc τ4 n (pc_re (pc_o σ) (pc_r σ))).2 = pc_r σ - q := (pc_r_row (e5 2 (by decide) (by decide) (by decide))).trans r4
        have hse : pc_re (pc_re (pc_o σ) q) (pc_r σ - q) = pc_re (pc_o σ) (pc_r σ) := by rw [pc_re_re]; congr 1; omega
        refine pc_am_I hJ5 hA5 hx hx0 ?_ ?_
        · rw [o5, r5, hse, e5 _ (pc_e_lt hre) (pc_e_ne (by decide)) (pc_e_ne (by decide))]
          exact h45
        · rw [o5, r5, pc_u_congr (σ := τ4) _ (fun k _ => by rw [e5 _ (pc_e_lt (Nat.mod_lt _ (by decide))) (pc_e_ne (by decide)) (pc_e_ne (by decide))])]
          have h8 := (pc_cn_ge x hx hx0).2
          rcases hc (pc_cn (nI x)) (by rw [hex]; exact pc_cn_is _) (by omega) with z | z
          · exact z
          · rw [z, Nat.sub_self]
            show 0 + pc_cn (nI x) ≤ 32
            omega
      · exact ⟨hJ5, hA5⟩
    · unfold pc_wsd
      exact ⟨(pc_dr_all (n := n) _ τ3 hJ3 hq).1, pc_dr_A hJ3 hA3 hq⟩
