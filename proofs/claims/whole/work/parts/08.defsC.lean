/-! WORDS FOR THE CLASS'S STATE, in terms of its store -/
theorem vv_swOut {x : Int32} (lo : Int) (k : Nat) (h : ∀ j : Nat, j < k → ¬ x.toInt = lo + j) {hi : Int} (e : hi = lo + k - 1) : x.toInt < lo ∨ hi < x.toInt := by
  rcases Int.lt_or_le x.toInt lo with a | a
  · exact Or.inl a
  · rcases Int.lt_or_le hi x.toInt with b | b
    · exact Or.inr b
    · exact absurd (show x.toInt = lo + ((x.toInt - lo).toNat : Int) by omega) (h (x.toInt - lo).toNat (by omega))
theorem vv_swNe {x k : Int32} {a : Int} (h : ¬ x = k) (hk : k.toInt = a) : ¬ x.toInt = a := fun e => h (Int32.toInt_inj.mp (e.trans hk.symm))
/-- rows of ints that a method is handed -/
def pc_rw (n k : Nat) : Prop := k < 28 + 4 * n ∧ (k = 4 ∨ k = 5 ∨ (6 ≤ k ∧ k < 28 ∧ k % 2 = 1) ∨ (28 ≤ k ∧ (k % 4 = 1 ∨ k % 4 = 2)))
theorem pc_rw_mixed {n : Nat} : pc_rw n 5 := ⟨by omega, Or.inr (Or.inl rfl)⟩
theorem pc_rw_ew {n e : Nat} (he : e < 11) : pc_rw n (pc_e e + 1) := ⟨by unfold pc_e; omega, Or.inr (Or.inr (Or.inl (by unfold pc_e; omega)))⟩
theorem pc_rw_dw {n m : Nat} (hm : m < n) : pc_rw n (pc_d m + 1) := ⟨by unfold pc_d; omega, Or.inr (Or.inr (Or.inr (by unfold pc_d; omega)))⟩
theorem pc_len_mixed {n : Nat} : pc_len n 5 = 8 := rfl
theorem pc_len_ew {n e : Nat} (he : e < 11) : pc_len n (pc_e e + 1) = 8 * n := by unfold pc_len pc_e; rw [if_neg (by omega), if_neg (by omega), if_pos (by omega)]
theorem pc_len_dw {n m : Nat} : pc_len n (pc_d m + 1) = 192 := by unfold pc_len pc_d; rw [if_neg (by omega), if_neg (by omega), if_neg (by omega), if_pos (by omega)]
theorem pc_len_lt {n k : Nat} (hn : n ≤ 6) : pc_len n k < 2 ^ 31 := by
  unfold pc_len
  split
  · omega
  · split
    · omega
    · split
      · omega
      · split <;> omega
section PCROW2
variable {Y : vv_Y} {n : Nat} {nL : Nat} {Z : vv_Z} {cc : ByteArray} {ret : Option FieldType} {Ts : List Cond} {own : String} {rm : Room} {σ : vv_S} {pc q : Nat} {L L' : List (Nat × Value)} {st : List Value}
theorem pc_ld_row (hY : pc_sys Y n) (hC : vv_C Y nL Z cc ret Ts own rm) {k : Nat} (hk : pc_rw n k) {i : Nat} (hi : i < pc_len n k) (hd : decode cc pc = .ok (.iaload, 1)) (hq : pc + 1 = q) (h : vv_V Y nL Z σ q L (.int (σ k i) :: st)) : vv_V Y nL Z σ pc L (.int (nI i) :: .ref (Y.2.1 k) :: st) := by
  obtain ⟨K, hK, hT⟩ := hY.row (k := k) hk.2
  exact vv_ild hC (by rw [hY.2.2.1]; exact hk.1) hK hT hi (pc_len_lt hY.hi) hd hq h
end PCROW2
/-- the sum of eight words from b on -/
def pc_sum (f : Nat → Int32) (b : Nat) : Nat → Int32
  | 0 => nI 0
  | i + 1 => pc_sum f b i + f (b + i) * nI (2 * i + 1)
def pc_on (σ : vv_S) (m s : Nat) : Prop := nI s < σ (pc_d m) 4
def pc_there (σ : vv_S) (m s : Nat) : Prop := pc_on σ m s ∧ σ (pc_d m + 3) s = 0 ∧ σ (pc_d m + 2) s = pc_sum (σ (pc_d m + 1)) (s * 8) 8
