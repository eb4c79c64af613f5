/-! WORDS FOR THE CLASS'S STATE, in terms of its store -/
theorem vv_swOut {x : Int32} (lo : Int) (k : Nat) (h : ∀ j : Nat, j < k → ¬ x.toInt = lo + j) {hi : Int} (e : hi = lo + k - 1) : x.toInt < lo ∨ hi < x.toInt := by
  rcases Int.lt_or_le x.toInt lo with a | a
  · exact Or.inl a
  · rcases Int.lt_or_le hi x.toInt with b | b
    · exact Or.inr b
    · exact absurd (show x.toInt = lo + ((x.toInt - lo).toNat : Int) by omega) (h (x.toInt - lo).toNat (by omega))
theorem vv_swNe {x k : Int32} {a : Int} (h : ¬ x = k) (hk : k.toInt = a) : ¬ x.toInt = a := fun e => h (Int32.toInt_inj.mp (e.trans hk.symm))
/-- rows of ints that a method is handed -/
def pc_rw (n k : Nat) : Prop := k < 28 + 4 * n ∧ (k = 4 ∨ k = 5 ∨ (6 ≤ k ∧ k < 28 ∧ k % 2 = 1) ∨ (28 ≤ k ∧ (k % 4 = 1 ∨ k % 4 = 2)))
theorem pc_rw_mixed {n : Nat} : pc_rw n 5 := ⟨by omega, Or.inr (Or.inl rfl)⟩
theorem pc_rw_ew {n e : Nat} (he : e < 11) : pc_rw n (pc_e e + 1) := ⟨by unfold pc_e; omega, Or.inr (Or.inr (Or.inl (by unfold pc_e; omega)))⟩
theorem pc_rw_dw {n m : Nat} (hm : m < n) : pc_rw n (pc_d m + 1) := ⟨by unfold pc_d; omega, Or.inr (Or.inr (Or.inr (by unfold pc_d; omega)))⟩
theorem pc_len_mixed {n : Nat} : pc_len n 5 = 8 := rfl
theorem pc_len_ew {n e : Nat} (he : e < 11) : pc_len n (pc_e e + 1) = 8 * n := by unfold pc_len pc_e; rw [if_neg (by omega), if_neg (by omega), if_pos (by omega)]
theorem pc_len_dw {n m : Nat} : pc_len n (pc_d m + 1) = 192 := by unfold pc_len pc_d; rw [if_neg (by omega), if_neg (by omega), if_neg (by omega), if_pos (by omega)]
theorem pc_len_lt {n k : Nat} (hn : n ≤ 6) : pc_len n k < 2 ^ 31 := by
  unfold pc_len
  split
  · omega
  · split
    · omega
    · split
      · omega
      · split <;> omega
section PCROW2
variable {Y : vv_Y} {n : Nat} {nL : Nat} {Z : vv_Z} {cc : ByteArray} {ret : Option FieldType} {Ts : List Cond} {own : String} {rm : Room} {σ : vv_S} {pc q : Nat} {L L' : List (Nat × Value)} {st : List Value}
theorem pc_ld_row (hY : pc_sys Y n) (hC : vv_C Y nL Z cc ret Ts own rm) {k : Nat} (hk : pc_rw n k) {i : Nat} (hi : i < pc_len n k) (hd : decode cc pc = .ok (.iaload, 1)) (hq : pc + 1 = q) (h : vv_V Y nL Z σ q L (.int (σ k i) :: st)) : vv_V Y nL Z σ pc L (.int (nI i) :: .ref (Y.2.1 k) :: st) := by
  obtain ⟨K, hK, hT⟩ := hY.row (k := k) hk.2
  exact vv_ild hC (by rw [hY.2.2.1]; exact hk.1) hK hT hi (pc_len_lt hY.hi) hd hq h
end PCROW2
/-- the sum of eight words from b on -/
def pc_sum (f : Nat → Int32) (b : Nat) : Nat → Int32
  | 0 => nI 0
  | i + 1 => pc_sum f b i + f (b + i) * nI (2 * i + 1)
abbrev pc_on (σ : vv_S) (m s : Nat) : Prop := nI s < σ (pc_d m) 4
abbrev pc_there (σ : vv_S) (m s : Nat) : Prop := pc_on σ m s ∧ σ (pc_d m + 3) s = 0 ∧ σ (pc_d m + 2) s = pc_sum (σ (pc_d m + 1)) (s * 8) 8
/-- bit p of a mask, as the class tests it -/
abbrev pc_bit (x : Int32) (p : Nat) : Prop := (x >>> (nI p &&& 31)) &&& nI 1 = nI 1
/-- Integer.bitCount, as the JDK has it -/
def pc_ushr (x y : Int32) : Int32 := (x.toUInt32 >>> (y.toUInt32 &&& Int32.toUInt32 31)).toInt32
def pc_bc1 (x : Int32) : Int32 := x - (pc_ushr x (nI 1) &&& 1431655765)
def pc_bc2 (x : Int32) : Int32 := (x &&& 858993459) + (pc_ushr x (nI 2) &&& 858993459)
def pc_bc3 (x : Int32) : Int32 := (x + pc_ushr x (nI 4)) &&& 252645135
def pc_bc4 (x : Int32) : Int32 := x + pc_ushr x (nI 8)
def pc_bc5 (x : Int32) : Int32 := x + pc_ushr x (nI 16)
def pc_bc (x : Int32) : Int32 := pc_bc5 (pc_bc4 (pc_bc3 (pc_bc2 (pc_bc1 x)))) &&& nI 63
def pc_cells (x : Int32) : Int32 := pc_bc x + nI 2
/-- the k-th entry of the ring -/
abbrev pc_re (o k : Nat) : Nat := (o + k) % 11
/-- which entry has a part of a stripe latest, of the first k of the ring -/
def pc_lat (σ : vv_S) (o s p : Nat) : Nat → Option Nat
  | 0 => none
  | k + 1 => if σ (pc_e (pc_re o k)) 1 = nI s ∧ pc_bit (σ (pc_e (pc_re o k)) 2) p then some (pc_re o k) else pc_lat σ o s p k
def pc_upto (σ : vv_S) (o s : Nat) : Nat → Nat
  | 0 => 0
  | k + 1 => if σ (pc_e (pc_re o k)) 1 = nI s then k + 1 else pc_upto σ o s k
def pc_free (σ : vv_S) (o : Nat) : Nat → Int32
  | 0 => nI 32 - σ 2 3
  | k + 1 => pc_free σ o k + pc_cells (σ (pc_e (pc_re o k)) 2)
def pc_tf (σ : vv_S) (o r : Nat) (c : Int32) : Nat → Nat → Nat
  | 0, k => k
  | f + 1, k => if k < r ∧ pc_free σ o k < c then pc_tf σ o r c f (k + 1) else k
/-- the journal's own row after k of its oldest records are free -/
def pc_fj (σ : vv_S) (o r : Nat) : Nat → (Nat → Int32)
  | 0 => σ 2
  | k + 1 => upd (upd (upd (upd (upd (pc_fj σ o r k) 4 ((pc_fj σ o r k 4 + pc_cells (σ (pc_e (pc_re o k)) 2)) - (pc_fj σ o r k 4 + pc_cells (σ (pc_e (pc_re o k)) 2)) / nI 32 * nI 32)) 5 (pc_fj σ o r k 5 + nI 1)) 3 (pc_fj σ o r k 3 - pc_cells (σ (pc_e (pc_re o k)) 2))) 1 (nI ((pc_re o k + 1) % 11))) 2 (nI (r - k - 1))
def pc_mt (σ : vv_S) (x : Int32) : Nat → Nat → Int32
  | 0, _ => -1
  | f + 1, m => if σ (pc_d m) 3 = x then nI m else pc_mt σ x f (m + 1)
def pc_cnt (σ : vv_S) (s : Nat) : Nat → Nat
  | 0 => 0
  | m + 1 => if pc_there σ m s then pc_cnt σ s m else pc_cnt σ s m + 1
def pc_all (n : Nat) : Int32 := (nI 1 <<< (nI (n - 1) &&& 31)) - nI 1
abbrev pc_pm (n s : Nat) : Nat := n - 1 - s % n
abbrev pc_mo (n s d : Nat) : Nat := (pc_pm n s + 1 + d) % n
theorem vv_iushr {Y : vv_Y} {nL : Nat} {Z : vv_Z} {cc : ByteArray} {ret : Option FieldType} {Ts : List Cond} {own : String} {rm : Room} {σ : vv_S} {pc q : Nat} {L : List (Nat × Value)} {st : List Value} (hC : vv_C Y nL Z cc ret Ts own rm) {x y : Int32} (hd : decode cc pc = .ok (.iushr, 1)) (hq : pc + 1 = q) (h : vv_V Y nL Z σ q L (.int (pc_ushr x y) :: st)) : vv_V Y nL Z σ pc L (.int y :: .int x :: st) := by
  obtain ⟨p, l, e, R, s, m, args, below, meth, c, post⟩ := Z
  obtain ⟨ok, hx, hb, hml, hr, hown, hlk, hts, hK, hR⟩ := hC
  subst hq
  intro H locs ls hP hS hl
  exact lv_iushr hx hb hd rfl (h H locs ls hP hS hl)
/-- a counter that goes down: nI j - 1 is below 0 just when j is 0 -/
theorem pc_jm1 {j : Nat} (h : j < 1000) : nI j - nI 1 < 0 ↔ j = 0 := by
  rcases j with _ | j
  · exact ⟨fun _ => rfl, fun _ => by decide⟩
  · refine ⟨fun h1 => ?_, fun h1 => by omega⟩
    rw [pk_sub (by omega)] at h1
    exact absurd h1 (nI_pos (by omega))
theorem pc_jdec {j : Nat} : nI j + Int32.ofInt (-1) = nI j - nI 1 := by
  rw [Int32.sub_eq_add_neg]
  rfl
theorem pc_mo_lt {n s d : Nat} (h : 3 ≤ n) : pc_mo n s d < n := Nat.mod_lt _ (by omega)
theorem pc_pm_lt {n s : Nat} (h : 3 ≤ n) : pc_pm n s < n := by unfold pc_pm; omega
theorem pc_lat_lt {σ : vv_S} {o s p k e : Nat} (h : pc_lat σ o s p k = some e) : e < 11 := by
  induction k with
  | zero => cases h
  | succ k ih =>
    unfold pc_lat at h
    split at h
    · cases h; exact Nat.mod_lt _ (by decide)
    · exact ih h
theorem vv_up_row_n {σ : vv_S} {k k' j : Nat} {f : Nat → Int32} {v : Int32} (h : k ≠ k') : vv_up (vv_row σ k' f) k j v = vv_row (vv_up σ k j v) k' f := by
  funext i
  by_cases h1 : i = k'
  · rw [h1, vv_row_s, vv_up_n (Ne.symm h), vv_row_s]
  · rw [vv_row_n h1]
    by_cases h2 : i = k
    · rw [h2, vv_up_s, vv_up_s, vv_row_n h]
    · rw [vv_up_n h2, vv_up_n h2, vv_row_n h1]
theorem vv_row_comm {σ : vv_S} {k k' : Nat} {f g : Nat → Int32} (h : k ≠ k') : vv_row (vv_row σ k f) k' g = vv_row (vv_row σ k' g) k f := by
  funext i
  by_cases h1 : i = k'
  · rw [h1, vv_row_s, vv_row_n (Ne.symm h), vv_row_s]
  · rw [vv_row_n h1]
    by_cases h2 : i = k
    · rw [h2, vv_row_s, vv_row_s]
    · rw [vv_row_n h2, vv_row_n h2, vv_row_n h1]
abbrev pc_oth (σ : vv_S) (n m s : Nat) : Prop := pc_cnt σ s n = (if pc_there σ m s then 0 else 1)
def pc_src (σ : vv_S) (n o r s p : Nat) : Nat := if pc_lat σ o s p r = none then (if pc_there σ (pc_mo n s p) s then 0 else if pc_oth σ n (pc_mo n s p) s then 2 else 3) else 1
abbrev pc_nn (σ : vv_S) (n o r s p : Nat) : Prop := pc_lat σ o s p r = none ∧ ¬ pc_there σ (pc_mo n s p) s
def pc_clr (σ : vv_S) : vv_S := vv_row σ 5 (fun j => if j < 8 then nI 0 else σ 5 j)
def pc_mx (σ : vv_S) (f : Nat → Int32) (k b : Nat) : Nat → Int32 := fun j => if j < 8 then f j ^^^ σ k (b + j) else f j
def pc_mxo (σ : vv_S) (x : Int32) (s : Nat) : Nat → (Nat → Int32)
  | 0 => σ 5
  | m + 1 => if nI m = x then pc_mxo σ x s m else pc_mx σ (pc_mxo σ x s m) (pc_d m + 1) (s * 8)
def pc_mxn (σ : vv_S) (n o r s p : Nat) : Nat → Int32 := match pc_lat σ o s p r with
  | some e => pc_mx σ (σ 5) (pc_e e + 1) (p * 8)
  | none => pc_mx σ (σ 5) (pc_d (pc_mo n s p) + 1) (s * 8)
def pc_xst (σ : vv_S) (n : Nat) (x : Int32) (s : Nat) : vv_S := vv_row (pc_clr σ) 5 (pc_mxo (pc_clr σ) x s n)
def pc_fb (τ : vv_S) : Nat → vv_S
  | 0 => τ
  | m + 1 => if pc_fb τ m (pc_d m) 3 = nI 2 then vv_up (pc_fb τ m) (pc_d m) 4 (nI 0) else pc_fb τ m
def pc_tl (σ : vv_S) (w : Nat) : vv_S := vv_up σ 4 w (σ 4 w + nI 1)
def pc_cutS (σ : vv_S) : vv_S := vv_up (vv_up (vv_up (pc_tl σ 0) 0 7 (-1)) 0 6 (nI 1)) 0 9 (nI 0)
def pc_pw (σ : vv_S) (n : Nat) : vv_S := if σ 0 7 = 0 then pc_fb (pc_cutS σ) n else vv_up (pc_tl σ 0) 0 7 (if 0 ≤ σ 0 7 then σ 0 7 - nI 1 else -1)
def pc_tw (σ : vv_S) (m s k b : Nat) (t : Int32) : Nat → Int32 := fun j => if s * 8 ≤ j ∧ j < s * 8 + 8 ∧ nI (j - s * 8) < t then σ k (b + (j - s * 8)) else σ (pc_d m + 1) j
theorem pc_tw_eq {σ : vv_S} {m s k b : Nat} {t : Int32} {i : Nat} (hi : i ≤ 8) (ht : ∀ j, j < i → nI j < t) (hx : i = 8 ∨ t ≤ nI i) : (fun j => if s * 8 ≤ j ∧ j < s * 8 + i then σ k (b + (j - s * 8)) else σ (pc_d m + 1) j) = pc_tw σ m s k b t := by
  funext j
  unfold pc_tw
  by_cases h1 : s * 8 ≤ j ∧ j < s * 8 + i
  · rw [if_pos h1, if_pos ⟨h1.1, by omega, ht _ (by omega)⟩]
  · rw [if_neg h1]
    by_cases h2 : s * 8 ≤ j ∧ j < s * 8 + 8 ∧ nI (j - s * 8) < t
    · rcases hx with hx | hx
      · exact absurd ⟨h2.1, by omega⟩ h1
      · have h3 : nI i ≤ nI (j - s * 8) := nI_le (by omega) (by omega)
        exact absurd (Int32.lt_of_lt_of_le h2.2.2 (Int32.le_trans hx h3)) (fun z => Int32.lt_irrefl z)
    · rw [if_neg h2]
def pc_tks (σ : vv_S) (m s k b : Nat) (t : Int32) : vv_S := if nI 8 < t then vv_up (vv_up (vv_row σ (pc_d m + 1) (pc_tw σ m s k b t)) (pc_d m + 2) s (pc_sum (σ k) b 8)) (pc_d m + 3) s (nI 0) else vv_up (vv_row σ (pc_d m + 1) (pc_tw σ m s k b t)) (pc_d m + 3) s (nI 1)
def pc_tk (σ : vv_S) (m s k b : Nat) (t : Int32) : vv_S := vv_up (pc_tks σ m s k b t) (pc_d m) 5 (pc_tks σ m s k b t (pc_d m) 5 + nI 1)
theorem pc_fj_1 {σ : vv_S} {o r : Nat} (ho : σ 2 1 = nI o) (h : o < 11) : ∀ k, pc_fj σ o r k 1 = nI (pc_re o k)
  | 0 => by show σ 2 1 = _; rw [ho]; unfold pc_re; rw [Nat.mod_eq_of_lt (by omega)]; rfl
  | k + 1 => by show nI ((pc_re o k + 1) % 11) = nI (pc_re o (k + 1)); congr 1; unfold pc_re; omega
theorem pc_fj_2 {σ : vv_S} {o r : Nat} (hr : σ 2 2 = nI r) : ∀ k, pc_fj σ o r k 2 = nI (r - k)
  | 0 => hr
  | k + 1 => by show nI (r - k - 1) = nI (r - (k + 1)); congr 1
theorem pc_re_0 {o k : Nat} : pc_re (pc_re o k) 0 = pc_re o k := by unfold pc_re; omega
theorem pc_dn {m m' i j : Nat} (h : m ≠ m') (hi : i < 4) (hj : j < 4) : pc_d m + i ≠ pc_d m' + j := by unfold pc_d; omega
theorem pc_dne {m e i j : Nat} (he : e < 11) (hj : j < 2) : pc_d m + i ≠ pc_e e + j := by unfold pc_d pc_e; omega
def pc_z8 (f : Nat → Int32) : Bool := (List.range 8).all (fun i => decide (f i = 0))
theorem pc_z8_iff {f : Nat → Int32} : pc_z8 f = true ↔ ∀ i, i < 8 → f i = 0 := by
  unfold pc_z8
  rw [List.all_eq_true]
  exact ⟨fun h i hi => of_decide_eq_true (h i (List.mem_range.mpr hi)), fun h i hi => decide_eq_true (h i (List.mem_range.mp hi))⟩
def pc_rp (σ : vv_S) (m : Nat) : vv_S := vv_up (vv_up (vv_row (vv_row (vv_row σ (pc_d m + 1) (fun j => if j < 192 then nI 0 else σ (pc_d m + 1) j)) (pc_d m + 2) (fun j => if j < 24 then nI 0 else σ (pc_d m + 2) j)) (pc_d m + 3) (fun j => if j < 24 then nI 0 else σ (pc_d m + 3) j)) (pc_d m) 3 (nI 2)) (pc_d m) 4 (nI 0)
def pc_or (σ : vv_S) (e p : Nat) : vv_S := vv_up σ (pc_e e) 2 (σ (pc_e e) 2 ||| (nI 1 <<< (nI p &&& 31)))
theorem pc_or_w {σ : vv_S} {e p : Nat} : pc_or σ e p (pc_e e + 1) = σ (pc_e e + 1) := vv_up_n (by omega)
theorem pc_or_5 {σ : vv_S} {e p : Nat} : pc_or σ e p 5 = σ 5 := vv_up_n (by unfold pc_e; omega)
def pc_ad (σ : vv_S) (e p : Nat) (v : Int32) : vv_S := vv_row (pc_or σ e p) (pc_e e + 1) (fun j => if p * 8 ≤ j ∧ j < p * 8 + 8 then v + nI (j - p * 8) else σ (pc_e e + 1) j)
def pc_aw (σ : vv_S) (e p : Nat) : vv_S := vv_row (pc_or σ e p) (pc_e e + 1) (fun j => if p * 8 ≤ j ∧ j < p * 8 + 8 then σ 5 (j - p * 8) else σ (pc_e e + 1) j)
def pc_pch (σ : vv_S) (n m s k b : Nat) : vv_S := pc_tk (pc_pw σ n) m s k b (if σ 0 7 = 0 then pc_pw σ n 0 8 else nI 9)
def pc_pcs (n : Nat) : Nat → vv_S → Bool × vv_S
  | 0, τ => (true, τ)
  | c + 1, τ => if τ 0 7 = 0 then (false, pc_pw (pc_tl τ 1) n) else pc_pcs n c (pc_pw (pc_tl τ 1) n)
def pc_pmk (σ : vv_S) (n o r q : Nat) : vv_S := if σ 0 7 = 0 then pc_pw (pc_tl σ 2) n else vv_row (pc_pw (pc_tl σ 2) n) 2 (pc_fj (pc_pw (pc_tl σ 2) n) o r q)
theorem pc_fb_o {τ : vv_S} {k : Nat} (hk : k < 28 ∨ k % 4 ≠ 0) : ∀ m, pc_fb τ m k = τ k
  | 0 => rfl
  | m + 1 => by
    have ih := pc_fb_o (τ := τ) hk m
    unfold pc_fb
    split
    · rw [vv_up_n (by unfold pc_d; omega), ih]
    · exact ih
theorem pc_pw_o {σ : vv_S} {n k : Nat} (hk : k < 28 ∨ k % 4 ≠ 0) (h0 : k ≠ 0) (h4 : k ≠ 4) : pc_pw σ n k = σ k := by
  unfold pc_pw
  split
  · rw [pc_fb_o hk]
    unfold pc_cutS pc_tl
    rw [vv_up_n h0, vv_up_n h0, vv_up_n h0, vv_up_n h4]
  · unfold pc_tl
    rw [vv_up_n h0, vv_up_n h4]
theorem pc_tl_o {σ : vv_S} {w k : Nat} (h4 : k ≠ 4) : pc_tl σ w k = σ k := vv_up_n h4
