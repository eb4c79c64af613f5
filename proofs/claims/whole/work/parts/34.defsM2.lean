/-! THE MODEL'S PUBLIC CALLS, as functions of the store -/
theorem pm_nt_or {σ : vv_S} : ∀ f m, (pm_nt σ f m = -1 ∧ ∀ k, m ≤ k → k < m + f → σ 4 k = 0) ∨ ∃ k, m ≤ k ∧ k < m + f ∧ pm_nt σ f m = nI k ∧ ¬ σ 4 k = 0
  | 0, m => Or.inl ⟨rfl, fun k h1 h2 => by omega⟩
  | f + 1, m => by
    unfold pm_nt
    split
    · rename_i h
      rcases pm_nt_or (σ := σ) f (m + 1) with ⟨h1, h2⟩ | ⟨k, h1, h2, h3⟩
      · refine Or.inl ⟨h1, fun k a b => ?_⟩
        rcases Nat.lt_or_ge m k with z | z
        · exact h2 k (by omega) (by omega)
        · rw [show k = m by omega]; exact h
      · exact Or.inr ⟨k, by omega, by omega, h3⟩
    · rename_i h
      exact Or.inr ⟨m, Nat.le_refl m, by omega, rfl, h⟩
theorem pm_nt_nat {σ : vv_S} {n : Nat} (hn : n ≤ 6) (h : ¬ pm_nt σ n 0 = -1) : pm_nt σ n 0 = nI (pm_nt σ n 0).toNatClampNeg ∧ (pm_nt σ n 0).toNatClampNeg < n := by
  rcases pm_nt_or (σ := σ) n 0 with ⟨z, -⟩ | ⟨k, -, h1, h2, h3⟩
  · exact absurd z h
  · have e : (pm_nt σ n 0).toNatClampNeg = k := by rw [h2, nI_clamp (by omega)]
    rw [e]
    exact ⟨h2, by omega⟩
def pm_look (σ : vv_S) (n r : Nat) (b : Int32) : Int32 := if σ 0 18 = 0 then (if pc_isb n b then nI (pm_from σ n r b.toNatClampNeg) else -101) else -100
def pm_lose (σ : vv_S) (n : Nat) (x : Int32) : Int32 × vv_S := if σ 0 18 = 0 then (if pc_ism n x then (if pm_nt σ n 0 = -1 then (nI 1, vv_up σ 4 x.toNatClampNeg (nI 1)) else (-103, σ)) else (-101, σ)) else (-100, σ)
def pm_rot (σ : vv_S) (n : Nat) (a s i x : Int32) : Int32 × vv_S := if pc_ism n a ∧ pc_iss s ∧ ¬ i < 0 ∧ i < nI 8 then
  (σ 1 (8 * (24 * a.toNatClampNeg + s.toNatClampNeg) + i.toNatClampNeg) ^^^ x, vv_up σ 1 (8 * (24 * a.toNatClampNeg + s.toNatClampNeg) + i.toNatClampNeg) (σ 1 (8 * (24 * a.toNatClampNeg + s.toNatClampNeg) + i.toNatClampNeg) ^^^ x)) else (-101, σ)
def pm_cut (σ : vv_S) (x t : Int32) : Int32 × vv_S := if σ 0 18 = 0 then (if pc_isc x ∧ ¬ t < 0 ∧ t < nI 9 then (nI 1, vv_up (vv_up σ 0 19 x) 0 20 t) else (-102, σ)) else (-100, σ)
def pm_chunk (σ : vv_S) (n : Nat) (a s i : Int32) : Int32 := if pc_ism n a ∧ pc_iss s then
  (if ¬ i < 0 ∧ i < nI 8 then σ 1 (8 * (24 * a.toNatClampNeg + s.toNatClampNeg) + i.toNatClampNeg) else if i = nI 8 then σ 2 (24 * a.toNatClampNeg + s.toNatClampNeg) else
   if i = nI 9 then (if σ 3 (24 * a.toNatClampNeg + s.toNatClampNeg) = 0 then nI 0 else nI 1) else if i = nI 10 then (if pm_there σ a.toNatClampNeg s.toNatClampNeg then nI 1 else nI 0) else -102) else -101
def pm_member (σ : vv_S) (n : Nat) (a x : Int32) : Int32 := if pc_ism n a then (if x = 0 then σ 4 a.toNatClampNeg else if x = nI 1 then (if σ 4 a.toNatClampNeg = 0 then nI 24 else if σ 4 a.toNatClampNeg = nI 2 then σ 5 a.toNatClampNeg else nI 0) else if x = nI 2 then σ 6 a.toNatClampNeg else -102) else -101
def pm_journal (σ : vv_S) (n r : Nat) (x : Int32) : Int32 := if x = 0 then (if σ 0 18 = 0 then pm_fr σ n r else nI 32) else if x = 1 then (if σ 0 18 = 0 then σ 0 8 else nI 0) else if x = 2 then (if σ 0 18 = 0 then σ 0 17 else nI 0) else if x = 3 then σ 0 15 else if x = 4 then σ 0 16 else -102
def pm_record (σ : vv_S) (r : Nat) (k x : Int32) : Int32 := if σ 0 18 = 0 ∧ ¬ k < 0 ∧ k < nI r then
  (if x = 0 then σ 7 k.toNatClampNeg else if x = nI 1 then σ 9 k.toNatClampNeg else if x = nI 2 then (if σ 10 k.toNatClampNeg = 0 then nI 0 else nI 1) else if x = nI 3 then σ 8 k.toNatClampNeg else if x = nI 4 then σ 11 k.toNatClampNeg else -102) else -101
def pm_count (σ : vv_S) (x : Int32) : Int32 := if ¬ x < 0 ∧ x < nI 13 then σ 13 x.toNatClampNeg else -102
def pm_aud (σ : vv_S) (n : Nat) : Nat → Nat
  | 0 => 0
  | s + 1 => pm_aud σ n s + (if pm_oth σ n (-1) s ∧ ¬ pm_ev σ n s then 1 else 0)
/-- in(x, 0, r - 1), r being 0 too -/
theorem pm_inr {x : Int32} {r : Nat} (hr : r ≤ 15) : (lN 0 ≤ x.toInt64 ∧ x.toInt64 ≤ (nI r - nI 1).toInt64) ↔ (¬ x < 0 ∧ x < nI r) := by
  rcases r with _ | r
  · refine ⟨fun h => ?_, fun h => ?_⟩
    · have h2 := h.2
      rw [Int64.le_iff_toInt_le] at h2
      have h1 := h.1
      rw [Int64.le_iff_toInt_le, lN_toInt (by omega)] at h1
      rw [pm_i64, pm_i64] at h2
      rw [pm_i64] at h1
      have : (nI 0 - nI 1).toInt = -1 := by decide
      rw [this] at h2
      omega
    · exact absurd h.2 h.1
  · rw [pk_sub (by omega), show r + 1 - 1 = r by omega, pm_l (by omega)]
    exact pm_in0 (by omega)
