/-! THE CLASS'S PUBLIC CALLS, as functions of the store -/
theorem pc_nat {b : Int32} {N : Nat} (h : ¬ b < 0 ∧ b < nI N) (hN : N < 2 ^ 31) : b = nI b.toNatClampNeg ∧ b.toNatClampNeg < N := by
  obtain ⟨j, h1, h2⟩ := nI_of h.1
  have h3 : b.toNatClampNeg = j := by rw [h2, nI_clamp h1]
  rw [h3]
  refine ⟨h2, ?_⟩
  rw [h2] at h
  exact (nI_ltI h1 hN).mp h.2
abbrev pc_isb (n : Nat) (b : Int32) : Prop := ¬ b < 0 ∧ b < nI (24 * (n - 1))
abbrev pc_ism (n : Nat) (b : Int32) : Prop := ¬ b < 0 ∧ b < nI n
abbrev pc_iss (b : Int32) : Prop := ¬ b < 0 ∧ b < nI 24
abbrev pc_isc (b : Int32) : Prop := ¬ b < -1 ∧ ¬ nI 1000 < b
def pc_place (n : Nat) (b x : Int32) : Int32 := if pc_isb n b then (if x = 0 then nI (b.toNatClampNeg / (n - 1)) else if x = 1 then nI (pc_mo n (b.toNatClampNeg / (n - 1)) (b.toNatClampNeg % (n - 1))) else if x = 2 then nI (pc_pm n (b.toNatClampNeg / (n - 1))) else -102) else -101
def pc_look (σ : vv_S) (n : Nat) (b : Int32) : Int32 := if σ 0 6 = 0 then (if pc_isb n b then nI (pc_src σ n (pc_o σ) (pc_r σ) (b.toNatClampNeg / (n - 1)) (b.toNatClampNeg % (n - 1))) else -101) else -100
theorem pc_dm {n k : Nat} (hn : 3 ≤ n) (h : k < 24 * (n - 1)) : k / (n - 1) < 24 ∧ k % (n - 1) < n := by
  have h0 : 0 < n - 1 := by omega
  exact ⟨(Nat.div_lt_iff_lt_mul h0).mpr h, Nat.lt_of_lt_of_le (Nat.mod_lt k h0) (by omega)⟩
theorem pc_min {a b : Nat} (ha : a < 2 ^ 31) (hb : b < 2 ^ 31) : (if nI b < nI a then nI b else nI a) = nI (min a b) := by
  by_cases h : b < a
  · rw [if_pos ((nI_ltI hb ha).mpr h), Nat.min_eq_right (by omega)]
  · rw [if_neg (fun z => h ((nI_ltI hb ha).mp z)), Nat.min_eq_left (by omega)]
theorem pc_max {a b : Nat} (ha : a < 2 ^ 31) (hb : b < 2 ^ 31) : (if nI a < nI b then nI b else nI a) = nI (max a b) := by
  by_cases h : a < b
  · rw [if_pos ((nI_ltI ha hb).mpr h), Nat.max_eq_right (by omega)]
  · rw [if_neg (fun z => h ((nI_ltI ha hb).mp z)), Nat.max_eq_left (by omega)]
theorem pc_rng {x : Int32} {N : Nat} (h1 : ¬ x < nI 1) (h2 : x ≤ nI N) (hN : N < 2 ^ 31) : x = nI x.toNatClampNeg ∧ 1 ≤ x.toNatClampNeg ∧ x.toNatClampNeg ≤ N := by
  have h0 : ¬ x < 0 := fun z => h1 (Int32.lt_of_lt_of_le z (by decide))
  obtain ⟨j, a, b⟩ := nI_of h0
  have e : x.toNatClampNeg = j := by rw [b, nI_clamp a]
  rw [e]
  rw [b] at h1 h2
  refine ⟨b, ?_, (nI_leI a hN).mp h2⟩
  rcases Nat.lt_or_ge j 1 with z | z
  · exact absurd ((nI_ltI a (by decide)).mpr z) h1
  · exact z
def pc_drain (σ : vv_S) (n : Nat) (x : Int32) : Int32 × vv_S := if σ 0 6 = 0 then (if x < nI 1 then (-102, σ) else if x ≤ nI 32 then
  (if (pc_dr n (min x.toNatClampNeg (pc_r σ)) σ).1 = true then ((pc_dr n (min x.toNatClampNeg (pc_r σ)) σ).2 2 2, (pc_dr n (min x.toNatClampNeg (pc_r σ)) σ).2) else (-106, (pc_dr n (min x.toNatClampNeg (pc_r σ)) σ).2)) else (-102, σ)) else (-100, σ)
abbrev pc_aon (σ : vv_S) (n : Nat) : Prop := pc_mt σ (nI 1) n 0 = -1 ∧ pc_mt σ (nI 2) n 0 = -1
def pc_lose (σ : vv_S) (n : Nat) (x : Int32) : Int32 × vv_S := if σ 0 6 = 0 then (if pc_ism n x then (if pc_aon σ n then (nI 1, vv_up (vv_up σ (pc_d x.toNatClampNeg) 3 (nI 1)) (pc_d x.toNatClampNeg) 4 (nI 0)) else (-103, σ)) else (-101, σ)) else (-100, σ)
theorem pc_mt_or {σ : vv_S} {x : Int32} : ∀ f m, pc_mt σ x f m = -1 ∨ ∃ k, k < m + f ∧ pc_mt σ x f m = nI k ∧ σ (pc_d k) 3 = x
  | 0, m => Or.inl rfl
  | f + 1, m => by
    unfold pc_mt
    split
    · rename_i h
      exact Or.inr ⟨m, by omega, rfl, h⟩
    · rcases pc_mt_or (σ := σ) (x := x) f (m + 1) with h | ⟨k, h1, h2⟩
      · exact Or.inl h
      · exact Or.inr ⟨k, by omega, h2⟩
theorem pc_mt_nat {σ : vv_S} {x : Int32} {n : Nat} (hn : n ≤ 6) (h : ¬ pc_mt σ x n 0 = -1) : pc_mt σ x n 0 = nI (pc_mt σ x n 0).toNatClampNeg ∧ (pc_mt σ x n 0).toNatClampNeg < n ∧ σ (pc_d (pc_mt σ x n 0).toNatClampNeg) 3 = x := by
  rcases pc_mt_or (σ := σ) (x := x) n 0 with z | ⟨k, h1, h2, h3⟩
  · exact absurd z h
  · have e : (pc_mt σ x n 0).toNatClampNeg = k := by rw [h2, nI_clamp (by omega)]
    rw [e]
    exact ⟨h2, by omega, h3⟩
def pc_spare (σ : vv_S) (n : Nat) : Int32 × vv_S := if σ 0 6 = 0 then (if pc_mt σ (nI 1) n 0 = -1 then (-103, σ) else (pc_mt σ (nI 1) n 0, pc_rp σ (pc_mt σ (nI 1) n 0).toNatClampNeg)) else (-100, σ)
def pc_rot (σ : vv_S) (n : Nat) (a s i x : Int32) : Int32 × vv_S := if pc_ism n a ∧ pc_iss s ∧ ¬ i < 0 ∧ i < nI 8 then
  (σ (pc_d a.toNatClampNeg + 1) (s.toNatClampNeg * 8 + i.toNatClampNeg) ^^^ x, vv_up σ (pc_d a.toNatClampNeg + 1) (s.toNatClampNeg * 8 + i.toNatClampNeg) (σ (pc_d a.toNatClampNeg + 1) (s.toNatClampNeg * 8 + i.toNatClampNeg) ^^^ x)) else (-101, σ)
def pc_cut (σ : vv_S) (x t : Int32) : Int32 × vv_S := if σ 0 6 = 0 then (if pc_isc x ∧ ¬ t < 0 ∧ t ≤ nI 8 then (nI 1, vv_up (vv_up σ 0 7 x) 0 8 t) else (-102, σ)) else (-100, σ)
def pc_st0 (σ : vv_S) (x : Int32) : vv_S := vv_up (vv_up σ 0 6 (nI 0)) 0 7 x
def pc_start (σ : vv_S) (n : Nat) (x : Int32) : Int32 × vv_S := if σ 0 6 = 0 then (-103, σ) else if pc_isc x then
  (if (pc_da n (pc_r σ) 0 (pc_st0 σ x)).1 = true then
    (if (pc_da n (pc_r σ) 0 (pc_st0 σ x)).2 0 7 = 0 then (-106, pc_pmk (pc_da n (pc_r σ) 0 (pc_st0 σ x)).2 n (pc_o σ) (pc_r σ) (pc_r σ)) else (nI (pc_r σ), vv_up (pc_pmk (pc_da n (pc_r σ) 0 (pc_st0 σ x)).2 n (pc_o σ) (pc_r σ) (pc_r σ)) 0 7 (-1)))
   else (-106, (pc_da n (pc_r σ) 0 (pc_st0 σ x)).2)) else (-102, σ)
theorem pc_da_o {n i : Nat} (h : i < 28) (h0 : i ≠ 0) (h4 : i ≠ 4) : ∀ (f k : Nat) (τ : vv_S), (pc_da n f k τ).2 i = τ i
  | 0, _, _ => rfl
  | f + 1, k, τ => by
    unfold pc_da
    split
    · rw [pc_da_o h h0 h4 f, pc_tl_o h4]
      exact pc_pe_o h h0 h4
    · exact pc_pe_o h h0 h4
def pc_chunk (σ : vv_S) (n : Nat) (a s i : Int32) : Int32 := if pc_ism n a ∧ pc_iss s then
  (if ¬ i < 0 ∧ i < nI 8 then σ (pc_d a.toNatClampNeg + 1) (s.toNatClampNeg * 8 + i.toNatClampNeg) else if i = 8 then σ (pc_d a.toNatClampNeg + 2) s.toNatClampNeg else
   if i = 9 then (if σ (pc_d a.toNatClampNeg + 3) s.toNatClampNeg = 0 then nI 0 else nI 1) else if i = 10 then (if pc_there σ a.toNatClampNeg s.toNatClampNeg then nI 1 else nI 0) else -102) else -101
def pc_member (σ : vv_S) (n : Nat) (a x : Int32) : Int32 := if pc_ism n a then (if x = 0 then σ (pc_d a.toNatClampNeg) 3 else if x = 1 then σ (pc_d a.toNatClampNeg) 4 else if x = 2 then σ (pc_d a.toNatClampNeg) 5 else -102) else -101
def pc_journal (σ : vv_S) (x : Int32) : Int32 := if x = 0 then (if σ 0 6 = 0 then nI 32 - σ 2 3 else nI 32) else if x = 1 then (if σ 0 6 = 0 then σ 2 2 else nI 0) else if x = 2 then (if σ 0 6 = 0 then σ 2 5 + σ 2 2 else nI 0) else if x = 3 then σ 2 4 else if x = 4 then σ 2 5 else -102
def pc_record (σ : vv_S) (n : Nat) (k x : Int32) : Int32 := if ¬ k < 0 ∧ k < (if σ 0 6 = 0 then σ 2 2 else nI 0) then
  (if x = 0 then σ (pc_e (pc_re (pc_o σ) k.toNatClampNeg)) 1 else if x = 1 then σ (pc_e (pc_re (pc_o σ) k.toNatClampNeg)) 2 &&& pc_all n else if x = 2 then (if pc_bit (σ (pc_e (pc_re (pc_o σ) k.toNatClampNeg)) 2) (n - 1) then nI 1 else nI 0) else if x = 3 then σ 2 5 + nI k.toNatClampNeg else if x = 4 then σ (pc_e (pc_re (pc_o σ) k.toNatClampNeg)) 3 else -102) else -101
def pc_count (σ : vv_S) (x : Int32) : Int32 := if ¬ x < 0 ∧ x < nI 13 then σ 4 x.toNatClampNeg else -102
/-- audit: the answer, and what is left in the mixed words -/
def pc_aud (n : Nat) : Nat → Nat → Nat → vv_S → Nat × vv_S
  | 0, _, c, τ => (c, τ)
  | f + 1, s, c, τ => if pc_cnt τ s n = 0 then (if pc_z8 (pc_xst τ n (-1) s 5) = true then pc_aud n f (s + 1) c (pc_xst τ n (-1) s) else pc_aud n f (s + 1) (c + 1) (pc_xst τ n (-1) s)) else pc_aud n f (s + 1) c τ
