/-! RUNS: what the class does to devices, as functions of the store -/
theorem pc_tk_o {σ : vv_S} {m s k b i : Nat} {t : Int32} (h : i < 28) : pc_tk σ m s k b t i = σ i := by
  have e0 : i ≠ pc_d m := by unfold pc_d; omega
  have e1 : i ≠ pc_d m + 1 := by unfold pc_d; omega
  have e2 : i ≠ pc_d m + 2 := by unfold pc_d; omega
  have e3 : i ≠ pc_d m + 3 := by unfold pc_d; omega
  unfold pc_tk
  rw [vv_up_n e0]
  unfold pc_tks
  split
  · rw [vv_up_n e3, vv_up_n e2, vv_row_n e1]
  · rw [vv_up_n e3, vv_row_n e1]
theorem pc_pch_o {σ : vv_S} {n m s k b i : Nat} (h : i < 28) (h0 : i ≠ 0) (h4 : i ≠ 4) : pc_pch σ n m s k b i = σ i := by
  unfold pc_pch
  rw [pc_tk_o h, pc_pw_o (Or.inl h) h0 h4]
def pc_per (n e s : Nat) : Nat → Nat → vv_S → Bool × vv_S
  | 0, _, τ => (true, τ)
  | f + 1, p, τ => if pc_bit (τ (pc_e e) 2) p ∧ pc_on τ (pc_mo n s p) s then (if τ 0 7 = 0 then (false, pc_pch τ n (pc_mo n s p) s (pc_e e + 1) (p * 8)) else pc_per n e s f (p + 1) (pc_pch τ n (pc_mo n s p) s (pc_e e + 1) (p * 8))) else pc_per n e s f (p + 1) τ
theorem pc_per_o {n e s i : Nat} (h : i < 28) (h0 : i ≠ 0) (h4 : i ≠ 4) : ∀ (f p : Nat) (τ : vv_S), (pc_per n e s f p τ).2 i = τ i
  | 0, _, _ => rfl
  | f + 1, p, τ => by
    unfold pc_per
    split
    · split
      · exact pc_pch_o h h0 h4
      · rw [pc_per_o h h0 h4 f, pc_pch_o h h0 h4]
    · exact pc_per_o h h0 h4 f _ _
/-- the whole of a record's parts is written -/
def pc_pe (n e s : Nat) (τ : vv_S) : Bool × vv_S := pc_per n e s n 0 τ
theorem pc_pe_o {n e s i : Nat} {τ : vv_S} (h : i < 28) (h0 : i ≠ 0) (h4 : i ≠ 4) : (pc_pe n e s τ).2 i = τ i := pc_per_o h h0 h4 _ _ _
def pc_o (τ : vv_S) : Nat := (τ 2 1).toNatClampNeg
def pc_r (τ : vv_S) : Nat := (τ 2 2).toNatClampNeg
def pc_s (τ : vv_S) (e : Nat) : Nat := (τ (pc_e e) 1).toNatClampNeg
/-- numbers of the journal are in their ranges -/
def pc_J (τ : vv_S) : Prop := τ 2 1 = nI (pc_o τ) ∧ pc_o τ < 11 ∧ τ 2 2 = nI (pc_r τ) ∧ pc_r τ ≤ 10 ∧ ∀ e, e < 11 → τ (pc_e e) 1 = nI (pc_s τ e) ∧ pc_s τ e < 24
theorem pc_J_of {τ : vv_S} {o r : Nat} (ho : τ 2 1 = nI o) (ho11 : o < 11) (hr : τ 2 2 = nI r) (hr10 : r ≤ 10) (hs : ∀ e, e < 11 → ∃ s, s < 24 ∧ τ (pc_e e) 1 = nI s) : pc_J τ := by
  have h1 : pc_o τ = o := by unfold pc_o; rw [ho, nI_clamp (by omega)]
  have h2 : pc_r τ = r := by unfold pc_r; rw [hr, nI_clamp (by omega)]
  refine ⟨by rw [h1]; exact ho, by rw [h1]; exact ho11, by rw [h2]; exact hr, by rw [h2]; exact hr10, fun e he => ?_⟩
  obtain ⟨s, h3, h4⟩ := hs e he
  have h5 : pc_s τ e = s := by unfold pc_s; rw [h4, nI_clamp (by omega)]
  rw [h5]
  exact ⟨h4, h3⟩
theorem pc_J.same {τ τ' : vv_S} (h : pc_J τ) (h2 : τ' 2 = τ 2) (he : ∀ e, e < 11 → τ' (pc_e e) 1 = τ (pc_e e) 1) : pc_J τ' := pc_J_of (by rw [h2]; exact h.1) h.2.1 (by rw [h2]; exact h.2.2.1) h.2.2.2.1 (fun e h1 => ⟨_, (h.2.2.2.2 e h1).2, by rw [he e h1]; exact (h.2.2.2.2 e h1).1⟩)
theorem pc_o_eq {τ : vv_S} {o : Nat} (h : τ 2 1 = nI o) (ho : o < 11) : pc_o τ = o := by unfold pc_o; rw [h, nI_clamp (by omega)]
theorem pc_r_eq {τ : vv_S} {r : Nat} (h : τ 2 2 = nI r) (hr : r ≤ 10) : pc_r τ = r := by unfold pc_r; rw [h, nI_clamp (by omega)]
theorem pc_e_lt {e : Nat} (h : e < 11) : pc_e e < 28 := by unfold pc_e; omega
theorem pc_e_ne {e i : Nat} (h : i < 6) : pc_e e ≠ i := by unfold pc_e; omega
/-- the oldest record is drained, q times -/
def pc_d1 (n : Nat) (τ : vv_S) : Bool × vv_S := pc_pe n (pc_re (pc_o τ) 0) (pc_s τ (pc_re (pc_o τ) 0)) τ
def pc_dr (n : Nat) : Nat → vv_S → Bool × vv_S
  | 0, τ => (true, τ)
  | q + 1, τ => if (pc_d1 n τ).1 = true then (if (pc_d1 n τ).2 0 7 = 0 then (false, pc_pmk (pc_d1 n τ).2 n (pc_o τ) (pc_r τ) 1) else pc_dr n q (pc_tl (pc_pmk (pc_d1 n τ).2 n (pc_o τ) (pc_r τ) 1) 5)) else (false, (pc_d1 n τ).2)
theorem pc_pmk_2 {σ : vv_S} {n o r q : Nat} (h : ¬ σ 0 7 = 0) : pc_pmk σ n o r q 2 = pc_fj (pc_pw (pc_tl σ 2) n) o r q := by
  unfold pc_pmk
  rw [if_neg h, vv_row_s]
theorem pc_pmk_o {σ : vv_S} {n o r q i : Nat} (h : i < 28) (h0 : i ≠ 0) (h2 : i ≠ 2) (h4 : i ≠ 4) : pc_pmk σ n o r q i = σ i := by
  unfold pc_pmk
  split
  · rw [pc_pw_o (Or.inl h) h0 h4, pc_tl_o h4]
  · rw [vv_row_n h2, pc_pw_o (Or.inl h) h0 h4, pc_tl_o h4]
theorem pc_pmk_d {σ : vv_S} {n o r q : Nat} (h : σ 0 7 = 0) : pc_pmk σ n o r q 2 = σ 2 := by
  unfold pc_pmk
  rw [if_pos h, pc_pw_o (by decide) (by decide) (by decide), pc_tl_o (by decide)]
/-- the state behind one drained record is in its ranges again -/
theorem pc_dr_J {n : Nat} {τ : vv_S} (h : pc_J τ) (hr : 0 < pc_r τ) (hc : ¬ (pc_d1 n τ).2 0 7 = 0) : pc_J (pc_tl (pc_pmk (pc_d1 n τ).2 n (pc_o τ) (pc_r τ) 1) 5) ∧ pc_tl (pc_pmk (pc_d1 n τ).2 n (pc_o τ) (pc_r τ) 1) 5 2 2 = nI (pc_r τ - 1) := by
  obtain ⟨h1, h2, h3, h4, h5⟩ := h
  have e2 : (pc_pw (pc_tl (pc_d1 n τ).2 2) n) 2 = τ 2 := by rw [pc_pw_o (by decide) (by decide) (by decide), pc_tl_o (by decide)]; exact pc_pe_o (by decide) (by decide) (by decide)
  have er : pc_tl (pc_pmk (pc_d1 n τ).2 n (pc_o τ) (pc_r τ) 1) 5 2 2 = nI (pc_r τ - 1) := by
    rw [pc_tl_o (by decide), pc_pmk_2 hc]
    exact pc_fj_2 (by rw [e2]; exact h3) 1
  refine ⟨pc_J_of (o := pc_re (pc_o τ) 1) (r := pc_r τ - 1) ?_ (Nat.mod_lt _ (by decide)) er (by omega) (fun e he => ⟨pc_s τ e, (h5 e he).2, ?_⟩), er⟩
  · rw [pc_tl_o (by decide), pc_pmk_2 hc]
    exact pc_fj_1 (by rw [e2]; exact h1) h2 1
  · rw [pc_tl_o (pc_e_ne (by decide)), pc_pmk_o (pc_e_lt he) (pc_e_ne (by decide)) (pc_e_ne (by decide)) (pc_e_ne (by decide))]
    have : (pc_d1 n τ).2 (pc_e e) = τ (pc_e e) := pc_pe_o (pc_e_lt he) (pc_e_ne (by decide)) (pc_e_ne (by decide))
    rw [this]
    exact (h5 e he).1
/-- q records are done again, from the k-th on -/
def pc_da (n : Nat) : Nat → Nat → vv_S → Bool × vv_S
  | 0, _, τ => (true, τ)
  | f + 1, k, τ => if (pc_pe n (pc_re (pc_o τ) k) (pc_s τ (pc_re (pc_o τ) k)) τ).1 = true then pc_da n f (k + 1) (pc_tl (pc_pe n (pc_re (pc_o τ) k) (pc_s τ (pc_re (pc_o τ) k)) τ).2 6) else (false, (pc_pe n (pc_re (pc_o τ) k) (pc_s τ (pc_re (pc_o τ) k)) τ).2)
theorem pc_da_J {n k : Nat} {τ : vv_S} (h : pc_J τ) : pc_J (pc_tl (pc_pe n (pc_re (pc_o τ) k) (pc_s τ (pc_re (pc_o τ) k)) τ).2 6) := by
  refine h.same ?_ (fun e he => ?_)
  · rw [pc_tl_o (by decide)]; exact pc_pe_o (by decide) (by decide) (by decide)
  · rw [pc_tl_o (pc_e_ne (by decide))]; exact congrFun (pc_pe_o (pc_e_lt he) (pc_e_ne (by decide)) (pc_e_ne (by decide))) 1
def pc_pox (σ : vv_S) (n m s : Nat) : vv_S := pc_pch (pc_xst σ n (nI m) s) n m s 5 0
def pc_fnt (σ : vv_S) (s : Nat) : Nat → Nat → Nat
  | 0, m => m
  | f + 1, m => if pc_there σ m s then pc_fnt σ s f (m + 1) else m
theorem pc_fnt_le {σ : vv_S} {s : Nat} : ∀ f m, pc_fnt σ s f m ≤ m + f
  | 0, m => Nat.le_refl m
  | f + 1, m => by
    unfold pc_fnt
    split
    · have := pc_fnt_le (σ := σ) (s := s) f (m + 1); omega
    · omega
