/-! WRITE, alike: the way, the parity, the room -/
theorem pb_h : ∀ n, n < 7 → 3 ≤ n → ∀ x, x < 2 ^ (n - 1) → (¬ pc_bit (nI x) (n - 1)) ∧ (nI x = pc_all n ↔ pm_nb (nI x) (n - 1) = n - 1) ∧ nI x &&& pc_all n = nI x ∧ pc_cells (nI x) = nI (2 + pm_nb (nI x) (n - 1)) := by decide +kernel
theorem pb_o : ∀ n, n < 7 → 3 ≤ n → ∀ x, x < 2 ^ (n - 1) → pc_bit (nI x ||| (nI 1 <<< (nI (n - 1) &&& 31))) (n - 1) ∧ (nI x ||| (nI 1 <<< (nI (n - 1) &&& 31))) &&& pc_all n = nI x ∧ pc_cells (nI x ||| (nI 1 <<< (nI (n - 1) &&& 31))) = nI (3 + pm_nb (nI x) (n - 1)) ∧ nI x ||| (nI 1 <<< (nI (n - 1) &&& 31)) = nI (x + 2 ^ (n - 1)) := by decide +kernel
theorem pb_od : ∀ n, n < 7 → 3 ≤ n → ∀ x, x < 2 ^ (n - 1) → ∀ d, d < n - 1 → (pc_bit (nI x ||| (nI 1 <<< (nI (n - 1) &&& 31))) d ↔ pc_bit (nI x) d) := by decide +kernel
theorem pb_bc : ∀ n, n < 7 → 3 ≤ n → ∀ x, x < 2 ^ (n - 1) → (pc_bc (pc_need n (nI 3) (nI x)) < pc_bc (pc_need n (nI 2) (nI x)) ↔ n - 1 - pm_nb (nI x) (n - 1) < pm_nb (nI x) (n - 1) + 1) := by decide +kernel
theorem pb_all {P : Nat → Bool} {k j : Nat} (h : (List.range k).all P = true) (hj : j < k) : P j = true := List.all_eq_true.mp h j (List.mem_range.mpr hj)
theorem pb_nd : ∀ n, n < 7 → 3 ≤ n → ∀ x, x < 2 ^ (n - 1) → ∀ w, w < 4 → w ≠ 1 → ∀ d, d < n - 1 → (pc_bit (pc_need n (nI w) (nI x)) d ↔ (1 < w ∧ (pc_bit (nI x) d ↔ w = 2))) := by
  have key : ((List.range 4).all fun k => (List.range (2 ^ (k + 3 - 1))).all fun x => (List.range 4).all fun w => (List.range (k + 3 - 1)).all fun d => decide (w ≠ 1 → (pc_bit (pc_need (k + 3) (nI w) (nI x)) d ↔ (1 < w ∧ (pc_bit (nI x) d ↔ w = 2))))) = true := by decide +kernel
  intro n hn hn3 x hx w hw hw1 d hd
  obtain ⟨k, rfl⟩ : ∃ k, n = k + 3 := ⟨n - 3, by omega⟩
  exact of_decide_eq_true (pb_all (pb_all (pb_all (pb_all key (show k < 4 by omega)) hx) hw) hd) hw1
theorem pb_np : ∀ n, n < 7 → 3 ≤ n → ∀ x, x < 2 ^ (n - 1) → ∀ w, w < 4 → w ≠ 1 → (pc_bit (pc_need n (nI w) (nI x)) (n - 1) ↔ w = 2) := by
  have key : ((List.range 4).all fun k => (List.range (2 ^ (k + 3 - 1))).all fun x => (List.range 4).all fun w => decide (w ≠ 1 → (pc_bit (pc_need (k + 3) (nI w) (nI x)) (k + 3 - 1) ↔ w = 2))) = true := by decide +kernel
  intro n hn hn3 x hx w hw hw1
  obtain ⟨k, rfl⟩ : ∃ k, n = k + 3 := ⟨n - 3, by omega⟩
  exact of_decide_eq_true (pb_all (pb_all (pb_all key (show k < 4 by omega)) hx) hw) hw1
theorem pb_set {n : Nat} (hn : n < 7) (hn3 : 3 ≤ n) {x : Nat} (hx : x < 2 ^ (n - 1)) {p : Nat} (hp : p < n - 1) : ∃ y, y < 2 ^ (n - 1) ∧ y ≠ 0 ∧ nI x ||| (nI 1 <<< (nI p &&& 31)) = nI y := by
  have key : ((List.range 4).all fun k => (List.range (2 ^ (k + 3 - 1))).all fun x => (List.range (k + 3 - 1)).all fun p => decide ((x ||| 2 ^ p) < 2 ^ (k + 3 - 1)) && decide ((x ||| 2 ^ p) ≠ 0) && decide (nI x ||| (nI 1 <<< (nI p &&& 31)) = nI (x ||| 2 ^ p))) = true := by decide +kernel
  obtain ⟨k, rfl⟩ : ∃ k, n = k + 3 := ⟨n - 3, by omega⟩
  have := pb_all (pb_all (pb_all key (show k < 4 by omega)) hx) hp
  rw [Bool.and_eq_true, Bool.and_eq_true] at this
  exact ⟨_, of_decide_eq_true this.1.1, of_decide_eq_true this.1.2, of_decide_eq_true this.2⟩
theorem pb_setb {n : Nat} (hn : n < 7) (hn3 : 3 ≤ n) {x : Nat} (hx : x < 2 ^ (n - 1)) {p d : Nat} (hp : p < n - 1) (hd : d < n - 1) : pc_bit (nI x ||| (nI 1 <<< (nI p &&& 31))) d ↔ (d = p ∨ pc_bit (nI x) d) := by
  have key : ((List.range 4).all fun k => (List.range (2 ^ (k + 3 - 1))).all fun x => (List.range (k + 3 - 1)).all fun p => (List.range (k + 3 - 1)).all fun d => decide (pc_bit (nI x ||| (nI 1 <<< (nI p &&& 31))) d ↔ (d = p ∨ pc_bit (nI x) d))) = true := by decide +kernel
  obtain ⟨k, rfl⟩ : ∃ k, n = k + 3 := ⟨n - 3, by omega⟩
  exact of_decide_eq_true (pb_all (pb_all (pb_all (pb_all key (show k < 4 by omega)) hx) hp) hd)
section PRRELA
variable {n : Nat} {σ ρ σ' ρ' : vv_S}
theorem pr_hv (h : pr_Rel n σ ρ) (hn3 : 3 ≤ n) (hn : n ≤ 6) {s x w : Nat} (hs : s < 24) (hx : x < 2 ^ (n - 1)) (hw : w = 2 ∨ w = 3) : pc_hv σ n (pc_o σ) (pc_r σ) s (pc_need n (nI w) (nI x)) ↔ pm_can ρ n (pc_r σ) s (nI x) w := by
  have hw4 : w < 4 := by omega
  have hw1 : w ≠ 1 := by omega
  have hw2 : 1 < w := by omega
  have bd := fun d hd => pb_nd n (by omega) hn3 x hx w hw4 hw1 d hd
  have bp := pb_np n (by omega) hn3 x hx w hw4 hw1
  unfold pc_hv pm_can
  rw [vv_all_iff]
  refine ⟨fun z => ⟨?_, fun d hd => ?_⟩, fun z p hp hb => ?_⟩
  · rcases hw with e | e
    · right
      have := (pr_hn h hn3 hn hs (show n - 1 < n by omega)).mpr (z (n - 1) (by omega) (bp.mpr e))
      rw [pr_p_l] at this
      exact this
    · exact Or.inl e
  · by_cases c : pc_bit (nI x) d ↔ w = 2
    · right
      have := (pr_hn h hn3 hn hs (show d < n by omega)).mpr (z d (by omega) ((bd d hd).mpr ⟨hw2, c⟩))
      rw [pr_p_d hd] at this
      exact this
    · exact Or.inl c
  · apply (pr_hn h hn3 hn hs hp).mp
    by_cases e : p = n - 1
    · rw [e] at hb
      have w2 := bp.mp hb
      rw [e, pr_p_l]
      rcases z.1 with q | q
      · omega
      · exact q
    · have hd : p < n - 1 := by omega
      rw [pr_p_d hd]
      rcases z.2 p hd with q | q
      · exact absurd ((bd p hd).mp hb).2 q
      · exact q
theorem pr_way (h : pr_Rel n σ ρ) (hn3 : 3 ≤ n) (hn : n ≤ 6) {s x : Nat} (hs : s < 24) (hx : x < 2 ^ (n - 1)) : pc_way σ n (pc_o σ) (pc_r σ) s (nI x) = pm_way ρ n (pc_r σ) s (nI x) := by
  obtain ⟨-, b2, -, -⟩ := pb_h n (by omega) hn3 x hx
  have bc := pb_bc n (by omega) hn3 x hx
  have h2 := pr_hv h hn3 hn hs hx (w := 2) (Or.inl rfl)
  have h3 := pr_hv h hn3 hn hs hx (w := 3) (Or.inr rfl)
  have ho := pr_on (h.mem (pc_pm_lt (s := s) hn3)) hs
  unfold pc_way pm_way
  by_cases c : nI x = pc_all n
  · rw [if_pos c, if_pos (b2.mp c)]
  · rw [if_neg c, if_neg (fun z => c (b2.mpr z))]
    by_cases d : pc_on σ (pc_pm n s) s
    · rw [if_pos d, if_pos (ho.mpr d)]
      unfold pm_f1
      generalize pm_nb (nI x) (n - 1) = k at *
      by_cases e2 : pm_can ρ n (pc_r σ) s (nI x) 2
      · rw [if_pos (h2.mpr e2)]
        by_cases e3 : pm_can ρ n (pc_r σ) s (nI x) 3
        · rw [if_pos (h3.mpr e3)]
          by_cases f : n - 1 - k < k + 1
          · rw [if_pos (bc.mpr f), if_pos f, if_pos e3]
          · rw [if_neg (fun z => f (bc.mp z)), if_neg f, if_pos e2]
        · rw [if_neg (fun z => e3 (h3.mp z))]
          by_cases f : n - 1 - k < k + 1
          · rw [if_pos f, if_neg e3, if_pos e2]
          · rw [if_neg f, if_pos e2]
      · rw [if_neg (fun z => e2 (h2.mp z))]
        by_cases e3 : pm_can ρ n (pc_r σ) s (nI x) 3
        · rw [if_pos (h3.mpr e3)]
          by_cases f : n - 1 - k < k + 1
          · rw [if_pos f, if_pos e3]
          · rw [if_neg f, if_neg e2, if_pos e3]
        · rw [if_neg (fun z => e3 (h3.mp z))]
          by_cases f : n - 1 - k < k + 1
          · rw [if_pos f, if_neg e3, if_neg e2]
          · rw [if_neg f, if_neg e2, if_neg e3]
    · rw [if_neg d, if_neg (fun z => d (ho.mp z))]
/-! the parity's words, in the class's order -/
def pr_aa (ρ : vv_S) (n r s : Nat) (x : Int32) (w i : Nat) : Nat → Int32
  | 0 => nI 0
  | d + 1 => (pr_aa ρ n r s x w i d ^^^ (if pc_bit x d then ρ 15 (8 * d + i) else nI 0)) ^^^ (if 1 < w ∧ (pc_bit x d ↔ w = 2) then pm_nw ρ n r s d i else nI 0)
def pr_cc (ρ : vv_S) (r s : Nat) (x : Int32) (w : Nat) : Nat → Nat
  | 0 => 0
  | d + 1 => pr_cc ρ r s x w d + (if (1 < w ∧ (pc_bit x d ↔ w = 2)) ∧ pm_lat ρ s d r = none then 1 else 0)
theorem pr_px {r s w i : Nat} {x : Int32} : ∀ d, pm_px ρ n r s x w i d = pr_aa ρ n r s x w i d ^^^ (if w = 2 then pm_nw ρ n r s 5 i else nI 0)
  | 0 => by
    show (if w = 2 then pm_nw ρ n r s 5 i else nI 0) = (0 : Int32) ^^^ _
    rw [Int32.zero_xor]
  | d + 1 => by
    unfold pm_px pr_aa
    rw [pr_px d, Int32.xor_assoc, Int32.xor_assoc, Int32.xor_assoc, Int32.xor_assoc]
    congr 1
    rw [Int32.xor_comm, Int32.xor_assoc]
theorem pr_rdl {r s w : Nat} {x : Int32} (hw : 1 < w) : ∀ d, pm_rdl ρ r s x w d = pr_cc ρ r s x w d + pm_rd0 ρ r s w
  | 0 => by show pm_rd0 ρ r s w = 0 + _; omega
  | d + 1 => by
    unfold pm_rdl pr_cc
    rw [pr_rdl hw d]
    by_cases c : (pc_bit x d ↔ w = 2) ∧ pm_lat ρ s d r = none
    · rw [if_pos c, if_pos ⟨⟨hw, c.1⟩, c.2⟩]; omega
    · rw [if_neg c, if_neg (fun z => c ⟨z.1.2, z.2⟩)]; omega
theorem pr_cc0 {r s w : Nat} {x : Int32} (hw : ¬ 1 < w) : ∀ d, pr_cc ρ r s x w d = 0
  | 0 => rfl
  | d + 1 => by
    unfold pr_cc
    rw [pr_cc0 hw d, if_neg (fun z => hw z.1.1)]
theorem pr_rd {r s w : Nat} {x : Int32} : pm_rd ρ n r s x w = pr_cc ρ r s x w (n - 1) + pm_rd0 ρ r s w := by
  unfold pm_rd
  by_cases c : 1 < w
  · rw [if_pos c, pr_rdl c]
  · rw [if_neg c, pr_cc0 c, Nat.zero_add]
theorem pc_lat_congr {o s p : Nat} (he : ∀ e, e < 11 → σ' (pc_e e) = σ (pc_e e)) : ∀ k, pc_lat σ' o s p k = pc_lat σ o s p k
  | 0 => rfl
  | k + 1 => by
    unfold pc_lat
    rw [pc_lat_congr he k, he _ (Nat.mod_lt _ (by decide))]
/-- one step of the class's mixing: the record's own part -/
theorem pr_apa {e p : Nat} {τ : vv_S} {i : Nat} (hi : i < 8) : pc_apa e p τ 5 i = τ 5 i ^^^ (if pc_bit (τ (pc_e e) 2) p then τ (pc_e e + 1) (p * 8 + i) else nI 0) := by
  unfold pc_apa
  by_cases c : pc_bit (τ (pc_e e) 2) p
  · rw [if_pos c, if_pos c, vv_row_s]
    exact if_pos hi
  · rw [if_neg c, if_neg c]
    show _ = _ ^^^ (0 : Int32)
    rw [Int32.xor_zero]
/-- .. and the part as it is now -/
theorem pr_apb (h : pr_Rel n σ ρ) (hn3 : 3 ≤ n) (hn : n ≤ 6) {p s i : Nat} {w : Int32} {τ : vv_S} (hs : s < 24) (hp : p < n) (hi : i < 8) (ht : ∀ i, i ≠ 4 → i ≠ 5 → τ i = σ i) :
    pc_apb n (pc_o σ) (pc_r σ) s w p τ 5 i = τ 5 i ^^^ (if pc_bit w p then pm_nw ρ n (pc_r σ) s (pr_p n p) i else nI 0) := by
  have hl : ∀ k, pc_lat τ (pc_o σ) s p k = pc_lat σ (pc_o σ) s p k := pc_lat_congr (fun e he => ht _ (pc_e_ne (by decide)) (pc_e_ne (by decide)))
  have hv := pr_nw h hn3 hn (s := s) (p := p) hs hp hi
  unfold pc_apb
  by_cases c : pc_bit w p
  · rw [if_pos c, if_pos c, hv]
    have e : pc_mxn τ n (pc_o σ) (pc_r σ) s p i = τ 5 i ^^^ (match pc_lat σ (pc_o σ) s p (pc_r σ) with
      | some e => σ (pc_e e + 1) (p * 8 + i)
      | none => σ (pc_d (pc_mo n s p) + 1) (s * 8 + i)) := by
      unfold pc_mxn
      rw [hl]
      cases hh : pc_lat σ (pc_o σ) s p (pc_r σ) with
      | none =>
        dsimp only
        unfold pc_mx
        rw [if_pos hi, ht (pc_d (pc_mo n s p) + 1) (by unfold pc_d; omega) (by unfold pc_d; omega)]
      | some e =>
        dsimp only
        unfold pc_mx
        rw [if_pos hi, ht (pc_e e + 1) (by unfold pc_e; omega) (by unfold pc_e; omega)]
    split
    · rw [pc_tl_o (by decide), vv_row_s]; exact e
    · rw [vv_row_s]; exact e
  · rw [if_neg c, if_neg c]
    show _ = _ ^^^ (0 : Int32)
    rw [Int32.xor_zero]
theorem pr_apb4 (h : pr_Rel n σ ρ) (hn3 : 3 ≤ n) (hn : n ≤ 6) {p s : Nat} {w : Int32} {τ : vv_S} (hp : p < n) (ht : ∀ i, i ≠ 4 → i ≠ 5 → τ i = σ i) :
    pc_apb n (pc_o σ) (pc_r σ) s w p τ 4 = upd (τ 4) 3 (τ 4 3 + nI (if pc_bit w p ∧ pm_lat ρ s (pr_p n p) (pc_r σ) = none then 1 else 0)) := by
  have hl : pc_lat τ (pc_o σ) s p (pc_r σ) = (pm_lat ρ s (pr_p n p) (pc_r σ)).map (pc_re (pc_o σ)) := (pc_lat_congr (fun e he => ht _ (pc_e_ne (by decide)) (pc_e_ne (by decide))) _).trans (pr_lat h hn3 hn hp _ (Nat.le_refl _))
  have u0 : upd (τ 4) 3 (τ 4 3 + nI 0) = τ 4 := by
    funext j
    by_cases e : j = 3
    · rw [e, vv_upd_s, show (nI 0 : Int32) = 0 from rfl, Int32.add_zero]
    · rw [vv_upd_n e]
  unfold pc_apb
  by_cases c : pc_bit w p
  · rw [if_pos c, hl]
    cases pm_lat ρ s (pr_p n p) (pc_r σ) with
    | none =>
      dsimp only [Option.map]
      rw [if_pos rfl, if_pos ⟨c, rfl⟩]
      unfold pc_tl
      rw [vv_up_s, vv_row_n (by decide)]
    | some e =>
      dsimp only [Option.map]
      rw [if_neg (fun z => by cases z), if_neg (fun z => by cases z.2), u0, vv_row_n (by decide)]
  · rw [if_neg c, if_neg (fun z => c z.1), u0]
theorem pc_apa_4 {e p : Nat} {τ : vv_S} : pc_apa e p τ 4 = τ 4 := pc_apa_o (by decide)
/-- the whole of the mixing -/
theorem pr_apr (h : pr_Rel n σ ρ) (hn3 : 3 ≤ n) (hn : n ≤ 6) {e s x w : Nat} (hs : s < 24) (hx : x < 2 ^ (n - 1)) (hw : w < 4) (hw1 : w ≠ 1) (hm : σ (pc_e e) 2 = nI x) (hg : ∀ d i, d < n - 1 → i < 8 → pc_bit (nI x) d → ρ 15 (8 * d + i) = σ (pc_e e + 1) (d * 8 + i)) :
    ∀ (f p : Nat) (τ : vv_S), p + f = n - 1 → (∀ i, i ≠ 4 → i ≠ 5 → τ i = σ i) → (∀ i, i < 8 → τ 5 i = pr_aa ρ n (pc_r σ) s (nI x) w i p) → τ 4 = upd (σ 4) 3 (σ 4 3 + nI (pr_cc ρ (pc_r σ) s (nI x) w p)) →
    (∀ i, i < 8 → pc_apr n e (pc_o σ) (pc_r σ) s (pc_need n (nI w) (nI x)) (f + 1) p τ 5 i = pm_px ρ n (pc_r σ) s (nI x) w i (n - 1)) ∧ pc_apr n e (pc_o σ) (pc_r σ) s (pc_need n (nI w) (nI x)) (f + 1) p τ 4 = upd (σ 4) 3 (σ 4 3 + nI (pm_rd ρ n (pc_r σ) s (nI x) w))
  | 0, p, τ, hp, ht, h5, h4 => by
    have ep : p = n - 1 := by omega
    subst ep
    have bp := pb_np n (by omega) hn3 x hx w hw hw1
    have nb := (pb_h n (by omega) hn3 x hx).1
    have ea : pc_apa e (n - 1) τ = τ := by unfold pc_apa; rw [ht _ (pc_e_ne (by decide)) (pc_e_ne (by decide)), hm, if_neg nb]
    show (∀ i, i < 8 → pc_apb n (pc_o σ) (pc_r σ) s (pc_need n (nI w) (nI x)) (n - 1) (pc_apa e (n - 1) τ) 5 i = _) ∧ pc_apb n (pc_o σ) (pc_r σ) s (pc_need n (nI w) (nI x)) (n - 1) (pc_apa e (n - 1) τ) 4 = _
    rw [ea]
    refine ⟨fun i hi => ?_, ?_⟩
    · rw [pr_apb h hn3 hn hs (by omega) hi ht, h5 i hi, pr_px, pr_p_l]
      congr 1
      by_cases c : w = 2
      · rw [if_pos (bp.mpr c), if_pos c]
      · rw [if_neg (fun z => c (bp.mp z)), if_neg c]
    · rw [pr_apb4 h hn3 hn (by omega) ht, h4, pr_upd2, vv_upd_s, pr_p_l, pr_rd, Int32.add_assoc, nI_add]
      congr 3
      unfold pm_rd0
      congr 1
      by_cases c : w = 2 ∧ pm_lat ρ s 5 (pc_r σ) = none
      · rw [if_pos c, if_pos ⟨bp.mpr c.1, c.2⟩]
      · rw [if_neg c, if_neg (fun z => c ⟨bp.mp z.1, z.2⟩)]
  | f + 1, p, τ, hp, ht, h5, h4 => by
    have hd : p < n - 1 := by omega
    have bd := pb_nd n (by omega) hn3 x hx w hw hw1 p hd
    have ta : ∀ i, i ≠ 4 → i ≠ 5 → pc_apa e p τ i = σ i := fun i a b => by rw [pc_apa_o b]; exact ht i a b
    have tb : ∀ i, i ≠ 4 → i ≠ 5 → pc_apb n (pc_o σ) (pc_r σ) s (pc_need n (nI w) (nI x)) p (pc_apa e p τ) i = σ i := fun i a b => by rw [pc_apb_o a b]; exact ta i a b
    refine pr_apr h hn3 hn hs hx hw hw1 hm hg f (p + 1) _ (by omega) tb (fun i hi => ?_) ?_
    · rw [pr_apb h hn3 hn hs (by omega) hi ta, pr_apa hi, h5 i hi, pr_p_d hd, ht _ (pc_e_ne (by decide)) (pc_e_ne (by decide)), hm, ht (pc_e e + 1) (by unfold pc_e; omega) (by unfold pc_e; omega)]
      have e1 : (if pc_bit (nI x) p then σ (pc_e e + 1) (p * 8 + i) else nI 0) = (if pc_bit (nI x) p then ρ 15 (8 * p + i) else nI 0) := by
        by_cases c : pc_bit (nI x) p
        · rw [if_pos c, if_pos c, hg p i hd hi c]
        · rw [if_neg c, if_neg c]
      have e2 : (if pc_bit (pc_need n (nI w) (nI x)) p then pm_nw ρ n (pc_r σ) s p i else nI 0) = (if 1 < w ∧ (pc_bit (nI x) p ↔ w = 2) then pm_nw ρ n (pc_r σ) s p i else nI 0) := by
        by_cases c : 1 < w ∧ (pc_bit (nI x) p ↔ w = 2)
        · rw [if_pos c, if_pos (bd.mpr c)]
        · rw [if_neg c, if_neg (fun z => c (bd.mp z))]
      rw [e1, e2]
      rfl
    · rw [pr_apb4 h hn3 hn (by omega) ta, pc_apa_4, h4, pr_upd2, vv_upd_s, pr_p_d hd, Int32.add_assoc, nI_add]
      congr 3
      show _ = pr_cc ρ (pc_r σ) s (nI x) w p + _
      congr 1
      by_cases c : (1 < w ∧ (pc_bit (nI x) p ↔ w = 2)) ∧ pm_lat ρ s p (pc_r σ) = none
      · rw [if_pos c, if_pos ⟨bd.mpr c.1, c.2⟩]
      · rw [if_neg c, if_neg (fun z => c ⟨bd.mp z.1, z.2⟩)]
/-! room is made -/
theorem pc_tf_shift {o r : Nat} {c : Int32} (hr : 1 ≤ r) (hf : ∀ j, pc_free σ' (pc_re o 1) j = pc_free σ o (j + 1)) : ∀ f k, pc_tf σ o r c f (k + 1) = pc_tf σ' (pc_re o 1) (r - 1) c f k + 1
  | 0, k => rfl
  | f + 1, k => by
    unfold pc_tf
    rw [hf]
    by_cases z : k + 1 < r ∧ pc_free σ o (k + 1) < c
    · rw [if_pos z, if_pos ⟨by omega, z.2⟩]
      exact pc_tf_shift hr hf f (k + 1)
    · rw [if_neg z, if_neg (fun y => z ⟨by omega, y.2⟩)]
theorem pr_free (h : pr_Rel n σ ρ) (hr : 0 < pc_r σ) (hb : (pc_dr n 1 σ).1 = true) (hR : pr_Rel n (pc_dr n 1 σ).2 ρ') : pc_o (pc_dr n 1 σ).2 = pc_re (pc_o σ) 1 ∧ ∀ j, pc_free (pc_dr n 1 σ).2 (pc_re (pc_o σ) 1) j = pc_free σ (pc_o σ) (j + 1) := by
  have h2 := (pc_dr_2 (n := n) 1 σ h.I.1 hr).2 hb
  have hall := (pc_dr_all (n := n) 1 σ h.I.1 hr).2
  have he : ∀ e, e < 11 → (pc_dr n 1 σ).2 (pc_e e) = σ (pc_e e) := fun e he => hall _ (pc_e_lt he) (pc_e_ne (by decide)) (pc_e_ne (by decide)) (pc_e_ne (by decide))
  have ho : pc_o (pc_dr n 1 σ).2 = pc_re (pc_o σ) 1 := pc_o_eq (by rw [h2]; exact pc_fj_1 h.I.1.1 h.I.1.2.1 1) (Nat.mod_lt _ (by decide))
  have hr1 := pr_dr1_r h hr hb
  refine ⟨ho, fun j => ?_⟩
  have hA := hR.I.2
  rw [pc_free_nat h.I.2.2.1 h.I.2.2.2.1, pc_free_nat hA.2.1 hA.2.2.1, ho, hr1]
  have uc : ∀ k, pc_u (pc_dr n 1 σ).2 (pc_re (pc_o σ) 1) k = pc_u σ (pc_re (pc_o σ) 1) k := fun k => pc_u_congr k (fun i _ => by rw [he _ (Nat.mod_lt _ (by decide))])
  rw [uc, uc]
  have s1 := pc_u_shift (σ := σ) (o := pc_o σ) (j := 1) (pc_r σ - 1)
  have s2 := pc_u_shift (σ := σ) (o := pc_o σ) (j := 1) j
  rw [show 1 + (pc_r σ - 1) = pc_r σ by omega] at s1
  rw [Nat.add_comm 1 j] at s2
  have h32 := h.I.2.2.2.1
  congr 1
  omega
theorem pr_dw (hn3 : 3 ≤ n) (hn : n ≤ 6) {c : Nat} : ∀ (f : Nat) (σ ρ : vv_S), pr_Rel n σ ρ → pc_r σ = f → pr_B n (pc_dr n (pc_tf σ (pc_o σ) f (nI c) f 0) σ) (pm_dw n c f ρ)
  | 0, σ, ρ, h, _ => ⟨rfl, h⟩
  | f + 1, σ, ρ, h, hf => by
    have hfr : pm_fr ρ n (pm_r ρ) = pc_free σ (pc_o σ) 0 := by
      rw [h.r, pr_fr h hn3 hn _ (Nat.le_refl _), pc_free_nat h.I.2.2.1 h.I.2.2.2.1]
      congr 1
    have h1 := pr_dr1 h hn3 hn (by omega)
    unfold pc_tf pm_dw
    rw [hfr]
    by_cases a : pc_free σ (pc_o σ) 0 < nI c
    · have a' : 0 < f + 1 ∧ pc_free σ (pc_o σ) 0 < nI c := ⟨by omega, a⟩
      rw [if_pos a, if_pos a', ← h1.1]
      by_cases b : (pc_dr n 1 σ).1 = true
      · obtain ⟨g1, g2⟩ := pr_free h (by omega) b h1.2
        have g3 := pr_dr1_r h (by omega) b
        rw [if_pos b, pc_tf_shift (σ := σ) (by omega) g2, pc_dr_s, if_pos b, ← g1]
        exact pr_dw hn3 hn f _ _ h1.2 (by omega)
      · rw [if_neg b]
        have e : ∀ q, 0 < q → pc_dr n q σ = (false, (pc_dr n 1 σ).2) := by
          intro q hq
          obtain ⟨q', rfl⟩ : ∃ q', q = q' + 1 := ⟨q - 1, by omega⟩
          rw [pc_dr_s, if_neg b]
        rw [e _ ?_]
        · exact ⟨rfl, h1.2⟩
        · have key : ∀ g k, k ≤ pc_tf σ (pc_o σ) (f + 1) (nI c) g k := by
            intro g
            induction g with
            | zero => intro k; exact Nat.le_refl k
            | succ g ih =>
              intro k
              unfold pc_tf
              split
              · have := ih (k + 1); omega
              · exact Nat.le_refl k
          have := key f (0 + 1)
          omega
    · have a' : ¬ (0 < f + 1 ∧ pc_free σ (pc_o σ) 0 < nI c) := fun z => a z.2
      rw [if_neg a, if_neg a']
      exact ⟨rfl, h⟩
theorem pr_cl : ∀ (c : Nat) (σ ρ : vv_S), pr_Rel n σ ρ → pr_B n (pc_pcs n c σ) (pm_cl n c ρ)
  | 0, σ, ρ, h => ⟨rfl, h⟩
  | c + 1, σ, ρ, h => by
    have h1 := (h.tl (w := 1) (by decide)).pw
    unfold pc_pcs pm_cl
    rw [h.cut]
    by_cases a : σ 0 7 = 0
    · rw [if_pos a, if_pos a]; exact ⟨rfl, h1⟩
    · rw [if_neg a, if_neg a]; exact pr_cl c _ _ h1
end PRRELA
