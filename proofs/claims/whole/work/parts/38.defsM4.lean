/-! THE MODEL WRITES A STRIPE -/
theorem vv_upd_rng {F g : Nat → Int32} {a i : Nat} : upd (fun j => if a ≤ j ∧ j < a + i then F (j - a) else g j) (a + i) (F i) = fun j => if a ≤ j ∧ j < a + (i + 1) then F (j - a) else g j := by
  funext j
  unfold upd
  by_cases h : j = a + i
  · rw [if_pos h, if_pos (by omega), h, show a + i - a = i by omega]
  · rw [if_neg h]; dsimp only
    by_cases h2 : a ≤ j ∧ j < a + i
    · rw [if_pos h2, if_pos (by omega)]
    · rw [if_neg h2, if_neg (by omega)]
theorem pm_way_or {σ : vv_S} {n r s : Nat} {x : Int32} : pm_way σ n r s x = -1 ∨ ∃ k, k ≤ 3 ∧ pm_way σ n r s x = nI k := by
  have hf : pm_f1 n (pm_nb x (n - 1)) = 2 ∨ pm_f1 n (pm_nb x (n - 1)) = 3 := by unfold pm_f1; split <;> omega
  unfold pm_way
  split
  · exact Or.inr ⟨0, by decide, rfl⟩
  · split
    · split
      · exact Or.inr ⟨_, by omega, rfl⟩
      · split
        · exact Or.inr ⟨_, by omega, rfl⟩
        · exact Or.inl rfl
    · exact Or.inr ⟨1, by decide, rfl⟩
theorem pm_lat_congr {σ τ : vv_S} {s p : Nat} (h7 : τ 7 = σ 7) (h9 : τ 9 = σ 9) (h10 : τ 10 = σ 10) : ∀ r, pm_lat τ s p r = pm_lat σ s p r
  | 0 => rfl
  | r + 1 => by
    have ih := pm_lat_congr (s := s) (p := p) h7 h9 h10 r
    unfold pm_lat pm_has
    rw [ih, h7, h9, h10]
theorem pm_nw_congr {σ τ : vv_S} {n r s p i : Nat} (h : ∀ k, k ≠ 13 → k ≠ 15 → τ k = σ k) : pm_nw τ n r s p i = pm_nw σ n r s p i := by
  unfold pm_nw
  rw [pm_lat_congr (h 7 (by decide) (by decide)) (h 9 (by decide) (by decide)) (h 10 (by decide) (by decide)), h 12 (by decide) (by decide), h 1 (by decide) (by decide)]
def pm_px (σ : vv_S) (n r s : Nat) (x : Int32) (w i : Nat) : Nat → Int32
  | 0 => if w = 2 then pm_nw σ n r s 5 i else nI 0
  | d + 1 => (pm_px σ n r s x w i d ^^^ (if pc_bit x d then σ 15 (8 * d + i) else nI 0)) ^^^ (if 1 < w ∧ (pc_bit x d ↔ w = 2) then pm_nw σ n r s d i else nI 0)
def pm_w1 (σ : vv_S) (n r s : Nat) (x : Int32) (w : Nat) : vv_S := vv_up σ 13 3 (σ 13 3 + nI (pm_rd σ n r s x w))
def pm_wi (σ : vv_S) (n r s : Nat) (x : Int32) (w i : Nat) : vv_S := vv_row (pm_w1 σ n r s x w) 15 (fun j => if 40 ≤ j ∧ j < 40 + i then pm_px σ n r s x w (j - 40) (n - 1) else σ 15 j)
theorem pm_wi_o {σ : vv_S} {n r s w i k : Nat} {x : Int32} (h13 : k ≠ 13) (h15 : k ≠ 15) : pm_wi σ n r s x w i k = σ k := by
  unfold pm_wi pm_w1
  rw [vv_row_n h15, vv_up_n h13]
def pm_wc (n : Nat) (x : Int32) (w : Nat) : Nat := (if w = 1 then 2 else 3) + pm_nb x (n - 1)
def pm_dw (n c : Nat) : Nat → vv_S → Bool × vv_S
  | 0, τ => (true, τ)
  | f + 1, τ => if pm_fr τ n (pm_r τ) < nI c then (if (pm_dr1 n τ).1 = true then pm_dw n c f (pm_dr1 n τ).2 else (false, (pm_dr1 n τ).2)) else (true, τ)
def pm_cl (n : Nat) : Nat → vv_S → Bool × vv_S
  | 0, τ => (true, τ)
  | c + 1, τ => if τ 0 19 = 0 then (false, pm_go (pm_tl τ 1) n) else pm_cl n c (pm_go (pm_tl τ 1) n)
theorem pm_cl_o {n k : Nat} (h0 : k ≠ 0) (h5 : k ≠ 5) (h13 : k ≠ 13) : ∀ (c : Nat) (τ : vv_S), (pm_cl n c τ).2 k = τ k
  | 0, _ => rfl
  | c + 1, τ => by
    unfold pm_cl
    split
    · rw [show (false, pm_go (pm_tl τ 1) n).2 = pm_go (pm_tl τ 1) n from rfl, pm_go_o h0 h5 h13, pm_tl_o h13]
    · rw [pm_cl_o h0 h5 h13 c, pm_go_o h0 h5 h13, pm_tl_o h13]
theorem pm_cl_f {n j : Nat} (h18 : j ≠ 18) (h19 : j ≠ 19) (h21 : j ≠ 21) : ∀ (c : Nat) (τ : vv_S), (pm_cl n c τ).2 0 j = τ 0 j
  | 0, _ => rfl
  | c + 1, τ => by
    unfold pm_cl
    split
    · rw [show (false, pm_go (pm_tl τ 1) n).2 = pm_go (pm_tl τ 1) n from rfl, pm_go_f h18 h19 h21, pm_tl_o (by decide)]
    · rw [pm_cl_f h18 h19 h21 c, pm_go_f h18 h19 h21, pm_tl_o (by decide)]
def pm_a1 (τ : vv_S) (s : Nat) (x : Int32) (w : Nat) : vv_S := vv_up (vv_up (vv_up (vv_up (vv_up τ 7 (pm_r τ) (nI s)) 8 (pm_r τ) (τ 0 17)) 9 (pm_r τ) x) 10 (pm_r τ) (if w = 1 then nI 0 else nI 1)) 11 (pm_r τ) (nI w)
def pm_a2 (τ : vv_S) (s : Nat) (x : Int32) (w i : Nat) : vv_S := vv_row (pm_a1 τ s x w) 12 (fun j => if 48 * pm_r τ ≤ j ∧ j < 48 * pm_r τ + i then τ 15 (j - 48 * pm_r τ) else τ 12 j)
def pm_a3 (τ : vv_S) (s : Nat) (x : Int32) (w : Nat) : vv_S := vv_up (vv_up (pm_a2 τ s x w 48) 0 8 (nI (pm_r τ + 1))) 0 17 (τ 0 17 + nI 1)
def pm_ad (τ : vv_S) (s : Nat) (x : Int32) (w : Nat) : vv_S := pm_tl (pm_tl (pm_a3 τ s x w) 4) (9 + w)
/-- a stripe's record: the answer (0, FAILED, LOST), and the store -/
def pm_sd (σ : vv_S) (n r s : Nat) (x : Int32) (w : Nat) : Bool × vv_S := pm_dw n (pm_wc n x w) r (pm_wi σ n r s x w 8)
def pm_sc (σ : vv_S) (n r s : Nat) (x : Int32) (w : Nat) : Bool × vv_S := pm_cl n (pm_wc n x w) (pm_sd σ n r s x w).2
def pm_stw (σ : vv_S) (n r s : Nat) (x : Int32) (w : Nat) : Int32 × vv_S := if (pm_sd σ n r s x w).1 = true then (if (pm_sc σ n r s x w).1 = true then (nI 0, pm_ad (pm_sc σ n r s x w).2 s x w) else (-106, (pm_sc σ n r s x w).2)) else (-106, (pm_sd σ n r s x w).2)
def pm_st (σ : vv_S) (n r s : Nat) (x : Int32) : Int32 × vv_S := if pm_way σ n r s x = -1 then (-105, σ) else pm_stw σ n r s x (pm_way σ n r s x).toNatClampNeg
theorem pm_wi_J {σ : vv_S} {n r s w i : Nat} {x : Int32} (h : pm_J σ) : pm_J (pm_wi σ n r s x w i) := h.same (congrFun (pm_wi_o (by decide) (by decide)) 8) (congrFun (pm_wi_o (by decide) (by decide)) 20) (pm_wi_o (by decide) (by decide)) (pm_wi_o (by decide) (by decide))
theorem pm_cl_J {n c : Nat} {τ : vv_S} (h : pm_J τ) : pm_J (pm_cl n c τ).2 := h.same (pm_cl_f (by decide) (by decide) (by decide) c τ) (pm_cl_f (by decide) (by decide) (by decide) c τ) (pm_cl_o (by decide) (by decide) (by decide) c τ) (pm_cl_o (by decide) (by decide) (by decide) c τ)
theorem pm_r_eq {τ : vv_S} {r : Nat} (h : τ 0 8 = nI r) (hr : r ≤ 15) : pm_r τ = r := by unfold pm_r; rw [h, nI_clamp (by omega)]
