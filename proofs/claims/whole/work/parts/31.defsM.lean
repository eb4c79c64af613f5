/-! WORDS FOR THE MODEL'S STATE, in terms of its store -/
theorem pm_ne1 {k : Nat} (h : k < 2 ^ 31) : ¬ nI k = -1 := fun e => by
  have := congrArg Int32.toInt e
  rw [nI_toInt h] at this
  have h2 : (-1 : Int32).toInt = -1 := by decide
  rw [h2] at this
  omega
/-- all of the first k -/
def vv_all (P : Nat → Prop) [DecidablePred P] : Nat → Bool
  | 0 => true
  | k + 1 => vv_all P k && decide (P k)
theorem vv_all_iff {P : Nat → Prop} [DecidablePred P] : ∀ {k : Nat}, vv_all P k = true ↔ ∀ j, j < k → P j
  | 0 => ⟨fun _ j hj => absurd hj (Nat.not_lt_zero j), fun _ => rfl⟩
  | k + 1 => by
    have ih := vv_all_iff (P := P) (k := k)
    unfold vv_all
    rw [Bool.and_eq_true, decide_eq_true_eq, ih]
    exact ⟨fun h => lt_s h.1 h.2, fun h => ⟨fun j hj => h j (by omega), h k (by omega)⟩⟩
theorem vv_all_0 {P : Nat → Prop} [DecidablePred P] : vv_B (vv_all P 0 = true) = nI 1 := vv_B1 rfl
theorem vv_all_s {P : Nat → Prop} [DecidablePred P] {k : Nat} (h : vv_all P k = true) (hk : P k) : vv_all P (k + 1) = true := vv_all_iff.mpr (lt_s (vv_all_iff.mp h) hk)
theorem vv_all_n {P : Nat → Prop} [DecidablePred P] {k : Nat} (h : ¬ vv_all P k = true) : ¬ vv_all P (k + 1) = true := fun z => h (vv_all_iff.mpr (fun j hj => vv_all_iff.mp z j (by omega)))
theorem vv_all_m {P : Nat → Prop} [DecidablePred P] {k : Nat} (h : ¬ P k) : ¬ vv_all P (k + 1) = true := fun z => h (vv_all_iff.mp z k (by omega))
abbrev pm_on (σ : vv_S) (m s : Nat) : Prop := σ 4 m = 0 ∨ (σ 4 m = nI 2 ∧ nI s < σ 5 m)
abbrev pm_there (σ : vv_S) (m s : Nat) : Prop := pm_on σ m s ∧ σ 3 (24 * m + s) = 0 ∧ σ 2 (24 * m + s) = pc_sum (σ 1) (8 * (24 * m + s)) 8
abbrev pm_oth (σ : vv_S) (n : Nat) (x : Int32) (s : Nat) : Prop := vv_all (fun k => nI k = x ∨ pm_there σ k s) n = true
def pm_tl (σ : vv_S) (w : Nat) : vv_S := vv_up σ 13 w (σ 13 w + nI 1)
def pm_goS (σ : vv_S) : vv_S := vv_up (vv_up (vv_up (vv_up (pm_tl σ 0) 0 19 (σ 0 19 - nI 1)) 0 18 (nI 1)) 0 19 (-1)) 0 21 (nI 0)
def pm_go (σ : vv_S) (n : Nat) : vv_S := if σ 0 19 = 0 then vv_row (pm_goS σ) 5 (fun j => if j < n then nI 0 else σ 5 j) else vv_up (pm_tl σ 0) 0 19 (if σ 0 19 ≤ -1 then -1 else σ 0 19 - nI 1)
/-- how many words a chunk's write takes -/
def pm_tn (σ : vv_S) (t : Nat) : Nat := if σ 0 19 = 0 then t else 8
def pm_c1 (σ : vv_S) (n m : Nat) : vv_S := pm_go (vv_up σ 6 m (σ 6 m + nI 1)) n
def pm_c2 (σ : vv_S) (n m s t : Nat) : vv_S := vv_row (pm_c1 σ n m) 1 (fun j => if 8 * (24 * m + s) ≤ j ∧ j < 8 * (24 * m + s) + pm_tn σ t then σ 14 (j - 8 * (24 * m + s)) else σ 1 j)
def pm_ch (σ : vv_S) (n m s t : Nat) : vv_S := if σ 0 19 = 0 then vv_up (pm_c2 σ n m s t) 3 (24 * m + s) (nI 1) else vv_up (vv_up (pm_c2 σ n m s t) 3 (24 * m + s) (nI 0)) 2 (24 * m + s) (pc_sum (pm_c2 σ n m s t 1) (8 * (24 * m + s)) 8)
theorem pm_tl_o {σ : vv_S} {w k : Nat} (h : k ≠ 13) : pm_tl σ w k = σ k := vv_up_n h
theorem pm_go_o {σ : vv_S} {n k : Nat} (h0 : k ≠ 0) (h5 : k ≠ 5) (h13 : k ≠ 13) : pm_go σ n k = σ k := by
  unfold pm_go
  split
  · unfold pm_goS
    rw [vv_row_n h5, vv_up_n h0, vv_up_n h0, vv_up_n h0, vv_up_n h0, pm_tl_o h13]
  · rw [vv_up_n h0, pm_tl_o h13]
def pm_mk (σ : vv_S) (n : Nat) (c r : Int32) : vv_S := if σ 0 19 = 0 then pm_go (pm_tl σ 2) n else vv_up (vv_up (pm_go (pm_tl σ 2) n) 0 15 c) 0 16 r
/-- bits of a mask, counted -/
def pm_nb (x : Int32) : Nat → Nat
  | 0 => 0
  | d + 1 => pm_nb x d + (if pc_bit x d then 1 else 0)
theorem pm_nb_le {x : Int32} : ∀ {d : Nat}, pm_nb x d ≤ d
  | 0 => Nat.le_refl 0
  | d + 1 => by have := pm_nb_le (x := x) (d := d); unfold pm_nb; split <;> omega
def pm_cells (σ : vv_S) (n k : Nat) : Nat := (if σ 10 k = 0 then 2 else 3) + pm_nb (σ 9 k) (n - 1)
def pm_fr (σ : vv_S) (n : Nat) : Nat → Int32
  | 0 => nI 32
  | k + 1 => pm_fr σ n k - nI (pm_cells σ n k)
def pm_ff (σ : vv_S) (k p : Nat) : vv_S := vv_row σ 14 (fun j => if j < 8 then σ 12 (8 * (6 * k + p) + j) else σ 14 j)
abbrev pm_has (σ : vv_S) (k p : Nat) : Prop := if p = 5 then ¬ σ 10 k = 0 else pc_bit (σ 9 k) p
def pm_lat (σ : vv_S) (s p : Nat) : Nat → Option Nat
  | 0 => none
  | k + 1 => if σ 7 k = nI s ∧ pm_has σ k p then some k else pm_lat σ s p k
def pm_li (o : Option Nat) : Int32 := match o with
  | none => -1
  | some k => nI k
theorem pm_lat_lt {σ : vv_S} {s p r k : Nat} (h : pm_lat σ s p r = some k) : k < r := by
  induction r with
  | zero => cases h
  | succ r ih =>
    unfold pm_lat at h
    split at h
    · cases h; omega
    · have := ih h; omega
def pm_mr (n s p : Nat) : Nat := if p = 5 then pc_pm n s else pc_mo n s p
theorem pm_mr_lt {n s p : Nat} (h : 3 ≤ n) : pm_mr n s p < n := by
  unfold pm_mr
  split
  · exact pc_pm_lt h
  · exact pc_mo_lt h
abbrev pm_hn (σ : vv_S) (n r s p : Nat) : Prop := ¬ pm_lat σ s p r = none ∨ pm_there σ (pm_mr n s p) s
def pm_nw (σ : vv_S) (n r s p i : Nat) : Int32 := match pm_lat σ s p r with
  | some k => σ 12 (8 * (6 * k + p) + i)
  | none => σ 1 (8 * (24 * pm_mr n s p + s) + i)
abbrev pm_can (σ : vv_S) (n r s : Nat) (x : Int32) (w : Nat) : Prop := (w = 3 ∨ pm_hn σ n r s 5) ∧ vv_all (fun d => ¬ (pc_bit x d ↔ w = 2) ∨ pm_hn σ n r s d) (n - 1) = true
def pm_f1 (n k : Nat) : Nat := if n - 1 - k < k + 1 then 3 else 2
def pm_way (σ : vv_S) (n r s : Nat) (x : Int32) : Int32 := if pm_nb x (n - 1) = n - 1 then nI 0 else if pm_on σ (pc_pm n s) s then
  (if pm_can σ n r s x (pm_f1 n (pm_nb x (n - 1))) then nI (pm_f1 n (pm_nb x (n - 1))) else if pm_can σ n r s x (5 - pm_f1 n (pm_nb x (n - 1))) then nI (5 - pm_f1 n (pm_nb x (n - 1))) else -1) else nI 1
def pm_rd0 (σ : vv_S) (r s w : Nat) : Nat := if w = 2 ∧ pm_lat σ s 5 r = none then 1 else 0
def pm_rdl (σ : vv_S) (r s : Nat) (x : Int32) (w : Nat) : Nat → Nat
  | 0 => pm_rd0 σ r s w
  | d + 1 => pm_rdl σ r s x w d + (if (pc_bit x d ↔ w = 2) ∧ pm_lat σ s d r = none then 1 else 0)
def pm_rd (σ : vv_S) (n r s : Nat) (x : Int32) (w : Nat) : Nat := if 1 < w then pm_rdl σ r s x w (n - 1) else pm_rd0 σ r s w
/-- the xor of a stripe's words i, but for one member -/
def pm_ox (σ : vv_S) (x : Int32) (s i : Nat) : Nat → Int32
  | 0 => nI 0
  | k + 1 => pm_ox σ x s i k ^^^ (if nI k = x then nI 0 else σ 1 (8 * (24 * k + s) + i))
def pm_fo (σ : vv_S) (n : Nat) (x : Int32) (s : Nat) : vv_S := vv_row σ 14 (fun j => if j < 8 then pm_ox σ x s j n else σ 14 j)
abbrev pm_ev (σ : vv_S) (n s : Nat) : Prop := vv_all (fun i => pm_ox σ (-1) s i n = 0) 8 = true
def pm_nt (σ : vv_S) : Nat → Nat → Int32
  | 0, _ => -1
  | f + 1, m => if σ 4 m = 0 then pm_nt σ f (m + 1) else nI m
def pm_from (σ : vv_S) (n r b : Nat) : Nat := if pm_lat σ (b / (n - 1)) (b % (n - 1)) r = none then (if pm_there σ (pc_mo n (b / (n - 1)) (b % (n - 1))) (b / (n - 1)) then 0 else if pm_oth σ n (nI (pc_mo n (b / (n - 1)) (b % (n - 1)))) (b / (n - 1)) then 2 else 3) else 1
/-- a record is done again or drained: its data, then its parity -/
def pm_dnr (n k s t : Nat) : Nat → Nat → vv_S → Bool × vv_S
  | 0, _, τ => (true, τ)
  | f + 1, d, τ => if pc_bit (τ 9 k) d ∧ pm_on τ (pc_mo n s d) s then (if τ 0 19 = 0 then (false, pm_ch (pm_ff τ k d) n (pc_mo n s d) s t) else pm_dnr n k s t f (d + 1) (pm_ch (pm_ff τ k d) n (pc_mo n s d) s t)) else pm_dnr n k s t f (d + 1) τ
def pm_dp (n k s t : Nat) (τ : vv_S) : Bool × vv_S := if ¬ τ 10 k = 0 ∧ pm_on τ (pc_pm n s) s then (if τ 0 19 = 0 then (false, pm_ch (pm_ff τ k 5) n (pc_pm n s) s t) else (true, pm_ch (pm_ff τ k 5) n (pc_pm n s) s t)) else (true, τ)
def pm_dn (n k s t : Nat) (τ : vv_S) : Bool × vv_S := if (pm_dnr n k s t (n - 1) 0 τ).1 = true then pm_dp n k s t (pm_dnr n k s t (n - 1) 0 τ).2 else (false, (pm_dnr n k s t (n - 1) 0 τ).2)
theorem pm_c2_o {σ : vv_S} {n m s t k : Nat} (h0 : k ≠ 0) (h1 : k ≠ 1) (h5 : k ≠ 5) (h6 : k ≠ 6) (h13 : k ≠ 13) : pm_c2 σ n m s t k = σ k := by
  unfold pm_c2 pm_c1
  rw [vv_row_n h1, pm_go_o h0 h5 h13, vv_up_n h6]
theorem pm_ch_o {σ : vv_S} {n m s t k : Nat} (h0 : k ≠ 0) (h1 : k ≠ 1) (h2 : k ≠ 2) (h3 : k ≠ 3) (h5 : k ≠ 5) (h6 : k ≠ 6) (h13 : k ≠ 13) : pm_ch σ n m s t k = σ k := by
  unfold pm_ch
  split
  · rw [vv_up_n h3, pm_c2_o h0 h1 h5 h6 h13]
  · rw [vv_up_n h2, vv_up_n h3, pm_c2_o h0 h1 h5 h6 h13]
theorem pm_ff_o {σ : vv_S} {k p i : Nat} (h : i ≠ 14) : pm_ff σ k p i = σ i := vv_row_n h
/-- a field of the object that no write of a device changes -/
theorem pm_go_f {σ : vv_S} {n j : Nat} (h18 : j ≠ 18) (h19 : j ≠ 19) (h21 : j ≠ 21) : pm_go σ n 0 j = σ 0 j := by
  unfold pm_go
  split
  · unfold pm_goS pm_tl
    rw [vv_row_n (by decide), vv_up_s, vv_upd_n h21, vv_up_s, vv_upd_n h19, vv_up_s, vv_upd_n h18, vv_up_s, vv_upd_n h19, vv_up_n (by decide)]
  · unfold pm_tl
    rw [vv_up_s, vv_upd_n h19, vv_up_n (by decide)]
theorem pm_ch_f {σ : vv_S} {n m s t j : Nat} (h18 : j ≠ 18) (h19 : j ≠ 19) (h21 : j ≠ 21) : pm_ch σ n m s t 0 j = σ 0 j := by
  have e : pm_c2 σ n m s t 0 j = σ 0 j := by
    unfold pm_c2 pm_c1
    rw [vv_row_n (by decide), pm_go_f h18 h19 h21, vv_up_n (by decide)]
  unfold pm_ch
  split
  · rw [vv_up_n (by decide)]; exact e
  · rw [vv_up_n (by decide), vv_up_n (by decide)]; exact e
