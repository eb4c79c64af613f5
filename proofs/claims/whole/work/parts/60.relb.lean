/-! WRITE, alike: the record, the stripe, the run -/
section PRRELB
variable {n : Nat} {σ ρ σ' ρ' : vv_S}
/-- only the entry behind the journal's last, the mixed words and the given words change -/
theorem pr_Rel.ne (h : pr_Rel n σ ρ) {e : Nat} (he : e = pc_re (pc_o σ) (pc_r σ)) (hI : pc_I σ') (hs : ∀ i, i ≠ pc_e e → i ≠ pc_e e + 1 → i ≠ 5 → σ' i = σ i) (hr : ∀ i, i ≠ 14 → i ≠ 15 → ρ' i = ρ i) : pr_Rel n σ' ρ' := by
  have e11 : e < 11 := by rw [he]; exact Nat.mod_lt _ (by decide)
  have h2 : σ' 2 = σ 2 := hs 2 (by unfold pc_e; omega) (by unfold pc_e; omega) (by decide)
  have ho := pc_o_row h2
  have hrr := pc_r_row h2
  have r0 : ρ' 0 = ρ 0 := hr 0 (by decide) (by decide)
  refine ⟨h.1.same (fun k hk => hs k (by unfold pc_e; omega) (by unfold pc_e; omega) (by omega)) (fun i a b => hr i (by omega) (by omega)), h.2.1.same (hs 0 (by unfold pc_e; omega) (by unfold pc_e; omega) (by decide)) (fun j _ => by rw [hs 4 (by unfold pc_e; omega) (by unfold pc_e; omega) (by decide)]) (fun j _ => by rw [r0]) (fun j _ => by rw [hr 13 (by decide) (by decide)]), hI, ?_, ?_, ?_, ?_, ?_, ?_⟩
  · rw [r0, h2]; exact h.2.2.2.1
  · rw [r0, h2]; exact h.2.2.2.2.1
  · rw [r0, h2]; exact h.2.2.2.2.2.1
  · rw [r0, h2]; exact h.2.2.2.2.2.2.1
  · intro k hk
    rw [hrr] at hk
    have hne := pc_re_ne (o := pc_o σ) hk h.I.1.2.2.2.1
    rw [← he] at hne
    rw [ho, h2, hr 8 (by decide) (by decide)]
    exact ⟨(h.ent hk).same (hs _ (by unfold pc_e; omega) (by unfold pc_e; omega) (by unfold pc_e; omega)) (hs _ (by unfold pc_e; omega) (by unfold pc_e; omega) (by unfold pc_e; omega)) (fun i a b => hr i (by omega) (by omega)), (h.2.2.2.2.2.2.2.1 k hk).2⟩
  · intro k hk
    rw [hr 10 (by decide) (by decide)]
    exact h.2.2.2.2.2.2.2.2 k hk
/-- the data of a stripe's record, gathered on both sides -/
theorem pr_wl (hn3 : 3 ≤ n) (hn : n ≤ 6) {e kb kc s f0 t : Nat} {v : Int32} (hf0 : kb ≤ f0) (hgo : ∀ b, f0 ≤ b → b ≤ t → b - kb < kc ∧ b / (n - 1) = s) (hend : ¬ (t + 1 - kb < kc ∧ (t + 1) / (n - 1) = s)) :
    ∀ (g k X : Nat) (τ κ : vv_S), kb + k + g = t + 1 → f0 ≤ kb + k → X < 2 ^ (n - 1) → (g = 0 → X ≠ 0) → τ (pc_e e) 2 = nI X → (∀ d i, d < n - 1 → i < 8 → pc_bit (nI X) d → κ 15 (8 * d + i) = τ (pc_e e + 1) (d * 8 + i)) →
    kb + (pm_wb n kb kc s v (kc - k) k (nI X) κ).1 = t + 1 ∧ ∃ Y, Y < 2 ^ (n - 1) ∧ Y ≠ 0 ∧ (pm_wb n kb kc s v (kc - k) k (nI X) κ).2.1 = nI Y ∧ pc_wl n e f0 (v + nI (8 * (f0 - kb))) g (kb + k) τ (pc_e e) 2 = nI Y ∧
      ∀ d i, d < n - 1 → i < 8 → pc_bit (nI Y) d → (pm_wb n kb kc s v (kc - k) k (nI X) κ).2.2 15 (8 * d + i) = pc_wl n e f0 (v + nI (8 * (f0 - kb))) g (kb + k) τ (pc_e e + 1) (d * 8 + i)
  | 0, k, X, τ, κ, hb, hf, hX, hX0, hm, hg => by
    have e1 : pm_wb n kb kc s v (kc - k) k (nI X) κ = (k, nI X, κ) := by
      rcases Nat.lt_or_ge k kc with z | z
      · rw [show kc - k = (kc - (k + 1)) + 1 by omega]
        unfold pm_wb
        have c : ¬ (k < kc ∧ (kb + k) / (n - 1) = s) := fun y => hend ⟨by omega, by rw [show t + 1 = kb + k by omega]; exact y.2⟩
        rw [if_neg c]
      · rw [show kc - k = 0 by omega]; rfl
    rw [e1]
    exact ⟨by show kb + k = t + 1; omega, X, hX, hX0 rfl, rfl, hm, hg⟩
  | g + 1, k, X, τ, κ, hb, hf, hX, hX0, hm, hg => by
    have hk := hgo (kb + k) hf (by omega)
    have c : k < kc ∧ (kb + k) / (n - 1) = s := ⟨by omega, hk.2⟩
    have hp : (kb + k) % (n - 1) < n - 1 := Nat.mod_lt _ (by omega)
    obtain ⟨Y, hY, hY0, hYe⟩ := pb_set (show n < 7 by omega) hn3 hX hp
    have e1 : pm_wb n kb kc s v (kc - k) k (nI X) κ = pm_wb n kb kc s v (kc - (k + 1)) (k + 1) (nI Y) (pm_gv κ ((kb + k) % (n - 1)) (v + nI (8 * k)) 8) := by
      rw [show kc - k = (kc - (k + 1)) + 1 by omega, ← hYe]
      show (if k < kc ∧ (kb + k) / (n - 1) = s then _ else _) = _
      rw [if_pos c]
    have e2 : pc_wl n e f0 (v + nI (8 * (f0 - kb))) (g + 1) (kb + k) τ = pc_wl n e f0 (v + nI (8 * (f0 - kb))) g (kb + (k + 1)) (pc_ad τ e ((kb + k) % (n - 1)) (v + nI (8 * k))) := by
      show pc_wl n e f0 (v + nI (8 * (f0 - kb))) g (kb + k + 1) (pc_ad τ e ((kb + k) % (n - 1)) (v + nI (8 * (f0 - kb)) + nI (8 * (kb + k - f0)))) = _
      rw [Int32.add_assoc, nI_add, show 8 * (f0 - kb) + 8 * (kb + k - f0) = 8 * k by omega]
      rfl
    rw [e1, e2]
    refine pr_wl hn3 hn hf0 hgo hend g (k + 1) Y _ _ (by omega) (by omega) hY (fun _ => hY0) ?_ ?_
    · unfold pc_ad pc_or
      rw [vv_row_n (by omega), vv_up_s, vv_upd_s, hm]
      exact hYe
    · intro d i hd hi hbd
      rw [← hYe, pb_setb (show n < 7 by omega) hn3 hX hp hd] at hbd
      unfold pm_gv pc_ad
      rw [vv_row_s, vv_row_s]
      by_cases hdp : d = (kb + k) % (n - 1)
      · rw [if_pos (by omega), if_pos (by omega), ← hdp, show 8 * d + i - 8 * d = i by omega, show d * 8 + i - d * 8 = i by omega]
      · rw [if_neg (by omega), if_neg (by omega)]
        exact hg d i hd hi (by rcases hbd with z | z; exact absurd z hdp; exact z)
theorem pr_dr1_15 {κ : vv_S} : (pm_dr1 n κ).2 15 = κ 15 := by
  unfold pm_dr1
  split
  · split
    · exact pm_dm_o (by decide) (by decide) (by decide) (by decide) (by decide) (by decide) (by decide) (by decide)
    · show pm_sh (pm_tl (pm_dm n κ) 5) (pm_r κ) 15 = _
      unfold pm_sh
      rw [vv_up_n (by decide)]
      unfold pm_shi pm_r6
      rw [if_neg (by decide), if_neg (by decide), if_neg (by decide), if_neg (by decide), if_neg (by decide), if_neg (by decide), pm_tl_o (by decide)]
      exact pm_dm_o (by decide) (by decide) (by decide) (by decide) (by decide) (by decide) (by decide) (by decide)
  · exact pm_dn_o (by decide) (by decide) (by decide) (by decide) (by decide) (by decide) (by decide) (by decide)
theorem pr_dw_15 {c : Nat} : ∀ (f : Nat) (κ : vv_S), (pm_dw n c f κ).2 15 = κ 15
  | 0, _ => rfl
  | f + 1, κ => by
    unfold pm_dw
    split
    · split
      · rw [pr_dw_15 f, pr_dr1_15]
      · exact pr_dr1_15
    · rfl
/-- a record is added -/
theorem pr_am {τ κ : vv_S} {e s X Z w : Nat} (h : pr_Rel n τ κ) (hn3 : 3 ≤ n) (hn : n ≤ 6) (hw : w < 4) (he : e = pc_re (pc_o τ) (pc_r τ)) (hI : pc_I (pc_am τ w)) (hZ : Z < 2 ^ n) (hZ0 : Z ≠ 0) (h1 : τ (pc_e e) 1 = nI s) (h2 : τ (pc_e e) 2 = nI Z) (h3 : τ (pc_e e) 3 = nI w)
    (ha : nI Z &&& pc_all n = nI X) (hb : (if pc_bit (nI Z) (n - 1) then nI 1 else nI 0) = (if w = 1 then nI 0 else nI 1)) (hg : ∀ d i, d < n - 1 → i < 8 → pc_bit (nI Z) d → κ 15 (8 * d + i) = τ (pc_e e + 1) (d * 8 + i)) (hp : ∀ i, i < 8 → pc_bit (nI Z) (n - 1) → κ 15 (40 + i) = τ (pc_e e + 1) ((n - 1) * 8 + i)) :
    pr_Rel n (pc_am τ w) (pm_ad κ s (nI X) w) := by
  have hr := h.r
  have hr10 := h.I.1.2.2.2.1
  have R := (h.tl (w := 4) (by decide)).tl (w := 9 + w) (by omega)
  have cr : ∀ i, i ≠ 2 → pc_am τ w i = pc_tl (pc_tl τ 4) (9 + w) i := by
    intro i hi
    have q : ∀ j, j ≠ 2 → pc_am0 τ j = τ j := fun j hj => by unfold pc_am0; rw [vv_up_n hj, vv_up_n hj]
    unfold pc_am
    by_cases h4 : i = 4
    · subst h4
      unfold pc_tl
      rw [vv_up_s, vv_up_s, vv_up_s, vv_up_s, q 4 (by decide)]
    · rw [pc_tl_o h4, pc_tl_o h4, pc_tl_o h4, pc_tl_o h4, q i hi]
  have ce : ∀ i, i ≠ 2 → i ≠ 4 → pc_am τ w i = τ i := fun i a b => by rw [cr i a, pc_tl_o b, pc_tl_o b]
  have c2 : pc_am τ w 2 = upd (upd (τ 2) 3 (τ 2 3 + pc_cells (τ (pc_e (pc_re (pc_o τ) (pc_r τ))) 2))) 2 (nI (pc_r τ + 1)) := by
    unfold pc_am pc_am0
    rw [pc_tl_o (by decide), pc_tl_o (by decide), vv_up_s, vv_up_s]
  have a3 : ∀ i, i ≠ 0 → (i < 7 ∨ 12 < i) → pm_a3 κ s (nI X) w i = κ i := by
    intro i h0 hi
    unfold pm_a3 pm_a2 pm_a1
    rw [vv_up_n h0, vv_up_n h0, vv_row_n (by omega), vv_up_n (by omega), vv_up_n (by omega), vv_up_n (by omega), vv_up_n (by omega), vv_up_n (by omega)]
  have mr : ∀ i, i ≠ 0 → (i < 7 ∨ 12 < i) → pm_ad κ s (nI X) w i = pm_tl (pm_tl κ 4) (9 + w) i := by
    intro i h0 hi
    unfold pm_ad
    by_cases h13 : i = 13
    · subst h13
      unfold pm_tl
      rw [vv_up_s, vv_up_s, vv_up_s, vv_up_s, a3 13 (by decide) (by decide)]
    · rw [pm_tl_o h13, pm_tl_o h13, pm_tl_o h13, pm_tl_o h13, a3 i h0 hi]
  have mi : ∀ i, i ≠ 13 → pm_ad κ s (nI X) w i = pm_a3 κ s (nI X) w i := fun i hi => by unfold pm_ad; rw [pm_tl_o hi, pm_tl_o hi]
  have m0 : pm_ad κ s (nI X) w 0 = upd (upd (κ 0) 8 (nI (pc_r τ + 1))) 17 (κ 0 17 + nI 1) := by
    rw [mi 0 (by decide)]
    unfold pm_a3
    rw [vv_up_s, vv_up_s, hr]
    unfold pm_a2 pm_a1
    rw [vv_row_n (by decide), vv_up_n (by decide), vv_up_n (by decide), vv_up_n (by decide), vv_up_n (by decide), vv_up_n (by decide)]
  have m7 : pm_ad κ s (nI X) w 7 = upd (κ 7) (pc_r τ) (nI s) := by
    rw [mi 7 (by decide)]
    unfold pm_a3 pm_a2 pm_a1
    rw [hr, vv_up_n (by decide), vv_up_n (by decide), vv_row_n (by decide), vv_up_n (by decide), vv_up_n (by decide), vv_up_n (by decide), vv_up_n (by decide), vv_up_s]
  have m8 : pm_ad κ s (nI X) w 8 = upd (κ 8) (pc_r τ) (κ 0 17) := by
    rw [mi 8 (by decide)]
    unfold pm_a3 pm_a2 pm_a1
    rw [hr, vv_up_n (by decide), vv_up_n (by decide), vv_row_n (by decide), vv_up_n (by decide), vv_up_n (by decide), vv_up_n (by decide), vv_up_s, vv_up_n (by decide)]
  have m9 : pm_ad κ s (nI X) w 9 = upd (κ 9) (pc_r τ) (nI X) := by
    rw [mi 9 (by decide)]
    unfold pm_a3 pm_a2 pm_a1
    rw [hr, vv_up_n (by decide), vv_up_n (by decide), vv_row_n (by decide), vv_up_n (by decide), vv_up_n (by decide), vv_up_s, vv_up_n (by decide), vv_up_n (by decide)]
  have m10 : pm_ad κ s (nI X) w 10 = upd (κ 10) (pc_r τ) (if w = 1 then nI 0 else nI 1) := by
    rw [mi 10 (by decide)]
    unfold pm_a3 pm_a2 pm_a1
    rw [hr, vv_up_n (by decide), vv_up_n (by decide), vv_row_n (by decide), vv_up_n (by decide), vv_up_s, vv_up_n (by decide), vv_up_n (by decide), vv_up_n (by decide)]
  have m11 : pm_ad κ s (nI X) w 11 = upd (κ 11) (pc_r τ) (nI w) := by
    rw [mi 11 (by decide)]
    unfold pm_a3 pm_a2 pm_a1
    rw [hr, vv_up_n (by decide), vv_up_n (by decide), vv_row_n (by decide), vv_up_s, vv_up_n (by decide), vv_up_n (by decide), vv_up_n (by decide), vv_up_n (by decide)]
  have m12 : pm_ad κ s (nI X) w 12 = fun j => if 48 * pc_r τ ≤ j ∧ j < 48 * pc_r τ + 48 then κ 15 (j - 48 * pc_r τ) else κ 12 j := by
    rw [mi 12 (by decide)]
    unfold pm_a3 pm_a2
    rw [hr, vv_up_n (by decide), vv_up_n (by decide), vv_row_s]
  have c22 : pc_am τ w 2 2 = nI (pc_r τ + 1) := by rw [c2]; exact vv_upd_s
  have c2o : ∀ j, j ≠ 2 → j ≠ 3 → pc_am τ w 2 j = τ 2 j := fun j a b => by rw [c2, vv_upd_n a, vv_upd_n b]
  have oe : pc_o (pc_am τ w) = pc_o τ := by unfold pc_o; rw [c2o 1 (by decide) (by decide)]
  have re : pc_r (pc_am τ w) = pc_r τ + 1 := by unfold pc_r at c22 ⊢; rw [c22, nI_clamp (by unfold pc_r at hr10; omega)]
  have L := h.2.2.2
  refine ⟨R.1.same (fun k hk => cr k (by omega)) (fun i a b => mr i (by omega) (by omega)), R.2.1.same (cr 0 (by decide)) (fun j _ => by rw [cr 4 (by decide)]) (fun j hj => ?_) (fun j _ => by rw [mr 13 (by decide) (by decide)]), hI, ?_, ?_, ?_, ?_, ?_, ?_⟩
  · rw [m0, vv_upd_n (by omega), vv_upd_n (by omega), pm_tl_o (by decide), pm_tl_o (by decide)]
  · rw [m0, c22]; rfl
  · rw [m0, c2o 4 (by decide) (by decide)]; exact L.2.1
  · rw [m0, c2o 5 (by decide) (by decide)]; exact L.2.2.1
  · rw [m0, c22, c2o 5 (by decide) (by decide), vv_upd_s, L.2.2.2.1, h.I.1.2.2.1, Int32.add_assoc, nI_add]
  · intro k hk
    rw [re] at hk
    rw [oe, c2o 5 (by decide) (by decide), m8]
    have hlt : pc_re (pc_o τ) k < 11 := Nat.mod_lt _ (by decide)
    have e0 : pc_am τ w (pc_e (pc_re (pc_o τ) k)) = τ (pc_e (pc_re (pc_o τ) k)) := ce _ (pc_e_ne (by decide)) (pc_e_ne (by decide))
    have e1 : pc_am τ w (pc_e (pc_re (pc_o τ) k) + 1) = τ (pc_e (pc_re (pc_o τ) k) + 1) := ce _ (by unfold pc_e; omega) (by unfold pc_e; omega)
    unfold pr_ent
    rw [e0, e1, m7, m9, m10, m11, m12]
    by_cases hkr : k = pc_r τ
    · rw [hkr, ← he, vv_upd_s, vv_upd_s, vv_upd_s, vv_upd_s, vv_upd_s, h1, h2, h3]
      refine ⟨⟨rfl, ha.symm, hb.symm, rfl, ⟨Z, hZ, hZ0, rfl⟩, fun d i hd hi hbd => ?_, fun i hi hbd => ?_⟩, by rw [L.2.2.2.1, h.I.1.2.2.1]⟩
      · dsimp only
        rw [if_pos (by omega), show 8 * (6 * pc_r τ + d) + i - 48 * pc_r τ = 8 * d + i by omega]
        exact hg d i hd hi hbd
      · dsimp only
        rw [if_pos (by omega), show 8 * (6 * pc_r τ + 5) + i - 48 * pc_r τ = 40 + i by omega]
        exact hp i hi hbd
    · have hk' : k < pc_r τ := by omega
      obtain ⟨⟨b1, b2, b3, b4, b5, b6, b7⟩, b8⟩ := h.2.2.2.2.2.2.2.1 k hk'
      rw [vv_upd_n hkr, vv_upd_n hkr, vv_upd_n hkr, vv_upd_n hkr, vv_upd_n hkr]
      refine ⟨⟨b1, b2, b3, b4, b5, fun d i hd hi hbd => ?_, fun i hi hbd => ?_⟩, b8⟩
      · dsimp only
        rw [if_neg (by omega)]
        exact b6 d i hd hi hbd
      · dsimp only
        rw [if_neg (by omega)]
        exact b7 i hi hbd
  · intro k hk
    rw [m10]
    by_cases hkr : k = pc_r τ
    · rw [hkr, vv_upd_s]
      split <;> decide
    · rw [vv_upd_n hkr]
      exact h.2.2.2.2.2.2.2.2 k hk
end PRRELB
