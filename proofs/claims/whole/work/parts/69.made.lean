/-! THE TWO SYSTEMS, AS THE CONSTRUCTORS LEAVE THEM -/
def pc_pi (n k : Nat) : Nat := if k = 0 then 0 else if k = 1 then 3 else if k = 2 then 4 + 4 * n else if k = 3 then 5 + 4 * n else if k = 4 then 1 else if k = 5 then 2 else if k < 28 then 4 * n + k else k - 24
def pc_adr (n h0 sz k : Nat) : Nat := cg_ad h0 sz (pc_pi n k)
/-- the class's store at its start -/
def pc_0 : vv_S := fun k j => if k = 0 ∧ j = 7 then -1 else if k = 2 ∧ j = 5 then nI 1 else if 28 ≤ k ∧ k % 4 = 0 ∧ j = 4 then nI 24 else 0
def pc_Y (n h0 sz : Nat) (D : va_G) (K : Nat → ClassId) : vv_Y := (28 + 4 * n, pc_adr n h0 sz, pc_ct n (pc_adr n h0 sz) K, D, vwCl, cg_ty K, pc_nw)
def pm_Y (n h0 sz : Nat) (D : va_G) (K : Nat → ClassId) : vv_Y := (16, cg_ad h0 sz, pm_ct n (cg_ad h0 sz) K, D, vwCl, cg_ty K, pc_nw)
theorem cg_ad_inj {h0 sz i j : Nat} (hh : h0 < sz) (h : cg_ad h0 sz i = cg_ad h0 sz j) : i = j := by
  unfold cg_ad at h
  split at h <;> split at h <;> omega
theorem pc_pi_lt {n k : Nat} (h : k < 28 + 4 * n) : pc_pi n k < 28 + 4 * n := by
  unfold pc_pi
  repeat' split
  all_goals omega
theorem pc_pi_inj {n i j : Nat} (hi : i < 28 + 4 * n) (hj : j < 28 + 4 * n) (h : pc_pi n i = pc_pi n j) : i = j := by
  unfold pc_pi at h
  repeat' split at h
  all_goals omega
theorem pc_Y_sys {n h0 sz : Nat} {D : va_G} {K : Nat → ClassId} (hn3 : 3 ≤ n) (hn : n ≤ 6) (hh : h0 < sz) : pc_sys (pc_Y n h0 sz D K) n :=
  ⟨fun i j hi hj h => pc_pi_inj hi hj (cg_ad_inj hh h), ⟨hn3, hn⟩, rfl, ⟨K, rfl, rfl⟩, rfl, rfl⟩
theorem pm_Y_sys {n h0 sz : Nat} {D : va_G} {K : Nat → ClassId} (hn3 : 3 ≤ n) (hn : n ≤ 6) (hh : h0 < sz) : pm_sys (pm_Y n h0 sz D K) n :=
  ⟨fun i j _ _ h => cg_ad_inj hh h, ⟨hn3, hn⟩, rfl, ⟨K, rfl, rfl⟩, rfl⟩
theorem pm_made {n h0 sz : Nat} {D : va_G} {K : Nat → ClassId} {H : Heap} (hP : va_P D vwCl (cg_w (cg_ad h0 sz) (ct_X4 K n h0 sz) 16) H) : vv_P (pm_Y n h0 sz D K) pm_0 H := hP
theorem arrV_congr {cA : ClassId} {n : Nat} {f g : Nat → Value} (h : ∀ i, i < n → f i = g i) : arrV cA n f = arrV cA n g := by
  unfold arrV
  congr 1
  congr 1
  funext i
  exact h i.1 i.2
theorem pc_adr_1 {n h0 sz : Nat} : pc_adr n h0 sz 1 = sz + 2 := rfl
theorem pc_adr_2 {n h0 sz : Nat} : pc_adr n h0 sz 2 = sz + (3 + 4 * n) := by unfold pc_adr; rw [show pc_pi n 2 = 4 + 4 * n from rfl, cg_ad_s (by omega)]; omega
theorem pc_adr_3 {n h0 sz : Nat} : pc_adr n h0 sz 3 = sz + (4 + 4 * n) := by unfold pc_adr; rw [show pc_pi n 3 = 5 + 4 * n from rfl, cg_ad_s (by omega)]; omega
theorem pc_adr_e {n h0 sz k : Nat} (h6 : 6 ≤ k) (h : k < 28) : pc_adr n h0 sz k = sz + (4 * n + k) - 1 := by
  have e : pc_pi n k = 4 * n + k := by
    unfold pc_pi
    rw [if_neg (by omega), if_neg (by omega), if_neg (by omega), if_neg (by omega), if_neg (by omega), if_neg (by omega), if_pos h]
  unfold pc_adr
  rw [e, cg_ad_s (by omega)]
theorem pc_adr_d {n h0 sz k : Nat} (h : 28 ≤ k) : pc_adr n h0 sz k = sz + (k - 24) - 1 := by
  have e : pc_pi n k = k - 24 := by
    unfold pc_pi
    rw [if_neg (by omega), if_neg (by omega), if_neg (by omega), if_neg (by omega), if_neg (by omega), if_neg (by omega), if_neg (by omega)]
  unfold pc_adr
  rw [e, cg_ad_s (by omega)]
theorem pc_0_row {k : Nat} (h0 : k ≠ 0) (h2 : k ≠ 2) (hd : ¬ (28 ≤ k ∧ k % 4 = 0)) : pc_0 k = fun _ => 0 := by
  funext j
  unfold pc_0
  rw [if_neg (fun z => h0 z.1), if_neg (fun z => h2 z.1), if_neg (fun z => hd ⟨z.1, z.2.1⟩)]
theorem pc_made {n h0 sz : Nat} {D : va_G} {K : Nat → ClassId} {H : Heap} (hn3 : 3 ≤ n) (hP : va_P D vwCl (cg_w (cg_ad h0 sz) (ct_X3 K n h0 sz) (28 + 4 * n)) H) : vv_P (pc_Y n h0 sz D K) pc_0 H := by
  intro k q hq
  obtain ⟨hk, rfl⟩ := vv_inv hq
  change k < 28 + 4 * n at hk
  have hat : va_at D vwCl (pc_adr n h0 sz k, ct_X3 K n h0 sz (pc_pi n k)) H := hP (pc_pi n k) _ (cg_w_at (pc_pi_lt hk))
  show va_at D vwCl (pc_adr n h0 sz k, pc_ct n (pc_adr n h0 sz) K k (pc_0 k)) H
  by_cases k1 : k = 1
  · subst k1
    have hat : H[pc_adr n h0 sz 1]? = some (arrV (K 2) n (fun i => va_rf (if i < n then some (sz + 3 + 4 * i) else none))) := by
      have : ct_X3 K n h0 sz (pc_pi n 1) = .inl (K 2, n, .inr (.inr (.inr (.inr fun i => if i < n then some (sz + 3 + 4 * i) else none)))) := by
        show ct_X3 K n h0 sz 3 = _
        unfold ct_X3 ct_P
        rw [if_neg (by omega), if_pos (by omega), if_neg (by omega), if_neg (by omega), if_neg (by omega), if_pos rfl]
      rw [this] at hat
      exact hat
    show H[pc_adr n h0 sz 1]? = some (arrV (K 2) n (fun i => va_rf (some (pc_adr n h0 sz (pc_d i)))))
    rw [hat]
    congr 1
    refine arrV_congr (fun i hi => ?_)
    rw [if_pos hi, pc_adr_d (by unfold pc_d; omega)]
    congr 2
    unfold pc_d
    omega
  · by_cases k3 : k = 3
    · subst k3
      have hat : H[pc_adr n h0 sz 3]? = some (arrV (K 3) 11 (fun i => va_rf (if i < 11 then some (sz + (4 + 4 * n) + 1 + 2 * i) else none))) := by
        have : ct_X3 K n h0 sz (pc_pi n 3) = .inl (K 3, 11, .inr (.inr (.inr (.inr fun i => if i < 11 then some (sz + (4 + 4 * n) + 1 + 2 * i) else none)))) := by
          show ct_X3 K n h0 sz (5 + 4 * n) = _
          unfold ct_X3
          rw [if_neg (by omega), if_neg (by omega), show 5 + 4 * n - (4 + 4 * n) = 1 by omega]
          rfl
        rw [this] at hat
        exact hat
      show H[pc_adr n h0 sz 3]? = some (arrV (K 3) 11 (fun i => va_rf (some (pc_adr n h0 sz (pc_e i)))))
      rw [hat]
      congr 1
      refine arrV_congr (fun i hi => ?_)
      rw [if_pos hi, pc_adr_e (by unfold pc_e; omega) (by unfold pc_e; omega)]
      congr 2
      unfold pc_e
      omega
    · have key : ct_X3 K n h0 sz (pc_pi n k) = pc_ct n (pc_adr n h0 sz) K k (pc_0 k) := by
        by_cases k0 : k = 0
        · subst k0
          show ct_X3 K n h0 sz 0 = .inr (3, pc_fP n (pc_adr n h0 sz) (pc_0 0))
          unfold pc_fP
          rw [pc_adr_2]
          rfl
        · by_cases k2 : k = 2
          · subst k2
            show ct_X3 K n h0 sz (4 + 4 * n) = .inr (2, pc_fJ (pc_adr n h0 sz) (pc_0 2))
            unfold ct_X3 pc_fJ
            rw [if_neg (by omega), if_neg (by omega), Nat.sub_self, pc_adr_3]
            rfl
          · by_cases k4 : k = 4
            · subst k4
              show ct_X3 K n h0 sz 1 = .inl (K 0, 13, .inl (pc_0 4))
              rw [pc_0_row (by decide) (by decide) (by decide)]
              unfold ct_X3
              rw [if_neg (by omega), if_pos (by omega)]
              rfl
            · by_cases k5 : k = 5
              · subst k5
                show ct_X3 K n h0 sz 2 = .inl (K 0, 8, .inl (pc_0 5))
                rw [pc_0_row (by decide) (by decide) (by decide)]
                unfold ct_X3
                rw [if_neg (by omega), if_pos (by omega)]
                rfl
              · by_cases k28 : k < 28
                · have e : pc_pi n k = 4 * n + k := by
                    unfold pc_pi
                    rw [if_neg (by omega), if_neg (by omega), if_neg (by omega), if_neg (by omega), if_neg (by omega), if_neg (by omega), if_pos k28]
                  rw [e]
                  unfold ct_X3 pc_ct ct_J
                  rw [if_neg (by omega), if_neg (by omega), if_neg (by omega), if_neg (by omega), if_neg k0, if_neg k1, if_neg k2, if_neg k3, if_neg k4, if_neg k5, if_pos k28]
                  by_cases ev : k % 2 = 0
                  · rw [if_pos (by omega), if_pos ev]
                    unfold pc_fE
                    rw [pc_adr_e (by omega) (by omega), pc_0_row k0 k2 (by omega), show sz + (4 + 4 * n) + (4 * n + k - (4 + 4 * n)) = sz + (4 * n + (k + 1)) - 1 by omega]
                    rfl
                  · rw [if_neg (by omega), if_neg ev, pc_0_row k0 k2 (by omega)]
                · have e : pc_pi n k = k - 24 := by
                    unfold pc_pi
                    rw [if_neg (by omega), if_neg (by omega), if_neg (by omega), if_neg (by omega), if_neg (by omega), if_neg (by omega), if_neg k28]
                  rw [e]
                  unfold ct_X3 pc_ct ct_P
                  rw [if_neg (by omega), if_pos (by omega), if_neg (by omega), if_neg (by omega), if_neg (by omega), if_neg (by omega), if_neg k0, if_neg k1, if_neg k2, if_neg k3, if_neg k4, if_neg k5, if_neg k28]
                  rcases (show k % 4 = 0 ∨ k % 4 = 1 ∨ k % 4 = 2 ∨ k % 4 = 3 by omega) with z | z | z | z
                  · rw [if_pos z, show (k - 24) % 4 = 0 by omega]
                    unfold pc_fD
                    rw [pc_adr_d (by omega), pc_adr_d (by omega), pc_adr_d (by omega), show sz + (k + 1 - 24) - 1 = sz + (k - 24 - 0) by omega, show sz + (k + 2 - 24) - 1 = sz + (k - 24 - 0) + 1 by omega, show sz + (k + 3 - 24) - 1 = sz + (k - 24 - 0) + 2 by omega]
                    have p3 : pc_0 k 3 = nI 0 := by unfold pc_0; rw [if_neg (by omega), if_neg (by omega), if_neg (by omega)]; rfl
                    have p4 : pc_0 k 4 = nI 24 := by unfold pc_0; rw [if_neg (by omega), if_neg (by omega), if_pos (by omega)]
                    have p5 : pc_0 k 5 = nI 0 := by unfold pc_0; rw [if_neg (by omega), if_neg (by omega), if_neg (by omega)]; rfl
                    rw [p3, p4, p5]
                    rfl
                  · rw [if_neg (by omega), if_pos z, show (k - 24) % 4 = 1 by omega, pc_0_row k0 k2 (by omega)]
                    rfl
                  · rw [if_neg (by omega), if_neg (by omega), if_pos z, show (k - 24) % 4 = 2 by omega, pc_0_row k0 k2 (by omega)]
                    rfl
                  · rw [if_neg (by omega), if_neg (by omega), if_neg (by omega), show (k - 24) % 4 = 3 by omega, pc_0_row k0 k2 (by omega)]
                    rfl
      rw [← key]
      exact hat
/-! the relation at the start -/
theorem pr_0 {n : Nat} (hn3 : 3 ≤ n) : pr_Rel n pc_0 pm_0 := by
  have hd : ∀ m j, pc_0 (pc_d m) j = if j = 4 then nI 24 else 0 := fun m j => by
    unfold pc_0 pc_d
    rw [if_neg (by omega), if_neg (by omega)]
    by_cases z : j = 4
    · rw [if_pos ⟨by omega, by omega, z⟩, if_pos z]
    · rw [if_neg (fun y => z y.2.2), if_neg z]
  have hr : ∀ m i, 1 ≤ i → i < 4 → pc_0 (pc_d m + i) = fun _ => 0 := fun m i a b => pc_0_row (by unfold pc_d; omega) (by unfold pc_d; omega) (by unfold pc_d; omega)
  have hm : ∀ k, k ≠ 0 → pm_0 k = fun _ => 0 := fun k hk => by
    funext j
    unfold pm_0
    rw [if_neg (fun z => hk z.1), if_neg (fun z => hk z.1)]
  have he : ∀ e, pc_0 (pc_e e) = fun j => if 28 ≤ pc_e e ∧ pc_e e % 4 = 0 ∧ j = 4 then nI 24 else 0 := fun e => by
    funext j
    unfold pc_0 pc_e
    rw [if_neg (by omega), if_neg (by omega)]
  have he2 : ∀ e, e < 11 → pc_0 (pc_e e) = fun _ => 0 := fun e h => pc_0_row (by unfold pc_e; omega) (by unfold pc_e; omega) (by unfold pc_e; omega)
  have o0 : pc_o pc_0 = 0 := rfl
  have r0 : pc_r pc_0 = 0 := rfl
  refine ⟨⟨fun m _ => ⟨fun s i _ _ => ?_, fun s _ => ?_, fun s _ => ?_, ?_, ?_, Or.inl ⟨by rw [hd]; rfl, by rw [hd]; rfl⟩⟩, fun m m' _ _ h _ => absurd (by rw [hd]; rfl) h⟩, ?_, ⟨?_, ?_⟩, rfl, rfl, rfl, rfl, fun k hk => by rw [r0] at hk; omega, fun k _ => ?_⟩
  · rw [hm 1 (by decide), hr m 1 (by decide) (by decide)]
  · rw [hm 2 (by decide), hr m 2 (by decide) (by decide)]
  · rw [hm 3 (by decide), hr m 3 (by decide) (by decide)]
  · rw [hm 4 (by decide), hd]; rfl
  · rw [hm 6 (by decide), hd]; rfl
  · refine ⟨rfl, rfl, rfl, rfl, fun j _ => ?_, ⟨0, by decide, rfl⟩, ⟨0, by decide, rfl, fun _ => rfl⟩, Or.inl rfl⟩
    rw [hm 13 (by decide), pc_0_row (by decide) (by decide) (by decide)]
  · exact pc_J_of (o := 0) (r := 0) rfl (by decide) rfl (by decide) (fun e h => ⟨0, by decide, by rw [he2 e h]; rfl⟩)
  · refine ⟨fun e h => ⟨0, by decide, by rw [he2 e h]; rfl⟩, ?_, ?_, fun k hk => by rw [r0] at hk; omega⟩
    · rw [o0, r0]; rfl
    · rw [o0, r0]; exact Nat.zero_le _
  · rw [hm 10 (by decide)]; exact (by decide : vp_nar .boolean (0 : Int32) = 0)
/-! how many members -/
theorem cf_sgn (v : Int32) : 0 ≤ v ^^^ nI 4 ↔ 0 ≤ v := by
  rw [Int32.le_iff_toBitVec_sle, Int32.le_iff_toBitVec_sle, Int32.toBitVec_xor]
  simp only [BitVec.sle_eq_decide, BitVec.toInt_eq_msb_cond]
  have : (nI 4).toBitVec.msb = false := by decide
  rw [BitVec.msb_xor, this, Bool.xor_false]
  have h0 : (Int32.toBitVec 0).msb = false := by decide
  rw [h0]
  have hx := (v.toBitVec ^^^ (nI 4).toBitVec).isLt
  cases h : v.toBitVec.msb
  · simp
  · simp at hx ⊢
    omega
theorem cf_r (v : Int32) : ∃ t : Int, (v - v / nI 4 * nI 4).toInt = t ∧ ((0 ≤ v.toInt ∧ 0 ≤ t ∧ t ≤ 3) ∨ (v.toInt < 0 ∧ -3 ≤ t ∧ t ≤ 0)) := by
  have h4 : (nI 4).toInt = 4 := by decide
  have hlo := Int32.le_toInt v
  have hhi := Int32.toInt_lt v
  rw [Int32.toInt_sub, Int32.toInt_mul, Int32.toInt_div, h4]
  rcases Int.lt_or_le v.toInt 0 with z | z
  · obtain ⟨w, hw⟩ : ∃ w, v.toInt = -w := ⟨-v.toInt, by omega⟩
    rw [hw, Int.neg_tdiv, Int.tdiv_eq_ediv_of_nonneg (by omega)]
    rw [Int.bmod_eq_of_le (n := -(w / 4)) (by omega) (by omega), Int.bmod_eq_of_le (n := -(w / 4) * 4) (by omega) (by omega), Int.bmod_eq_of_le (by omega) (by omega)]
    exact ⟨_, rfl, Or.inr ⟨by omega, by omega, by omega⟩⟩
  · rw [Int.tdiv_eq_ediv_of_nonneg z]
    rw [Int.bmod_eq_of_le (n := v.toInt / 4) (by omega) (by omega), Int.bmod_eq_of_le (n := v.toInt / 4 * 4) (by omega) (by omega), Int.bmod_eq_of_le (by omega) (by omega)]
    exact ⟨_, rfl, Or.inl ⟨z, by omega, by omega⟩⟩
def pr_n (v : Int32) : Nat := 3 + (cf_mod v (nI 4)).toNatClampNeg
theorem pr_n_ok (v : Int32) : 3 ≤ pr_n v ∧ pr_n v ≤ 6 ∧ nI 3 + cf_mod v (nI 4) = nI (pr_n v) ∧ nI 3 + (v - v / nI 4 * nI 4 + nI 4 - (v - v / nI 4 * nI 4 + nI 4) / nI 4 * nI 4) = nI (pr_n v) := by
  have key : ∃ j, j < 4 ∧ cf_mod v (nI 4) = nI j ∧ v - v / nI 4 * nI 4 + nI 4 - (v - v / nI 4 * nI 4 + nI 4) / nI 4 * nI 4 = nI j := by
    have hs := cf_sgn v
    have hz : 0 ≤ v ↔ 0 ≤ v.toInt := by
      rw [Int32.le_iff_toInt_le]
      rfl
    obtain ⟨t, h1, h2⟩ := cf_r v
    unfold cf_mod
    generalize v - v / nI 4 * nI 4 = r at *
    have hr : ∀ x : Int32, x.toInt = t → r = x := fun x hx => Int32.toInt_inj.mp (h1.trans hx.symm)
    rcases h2 with ⟨a, b, c⟩ | ⟨a, b, c⟩
    · rw [if_pos (hs.mpr (hz.mpr a))]
      rcases (show t = 0 ∨ t = 1 ∨ t = 2 ∨ t = 3 by omega) with e | e | e | e
      · rw [hr (nI 0) (by rw [e]; decide)]; exact ⟨0, by decide, rfl, by decide⟩
      · rw [hr (nI 1) (by rw [e]; decide)]; exact ⟨1, by decide, rfl, by decide⟩
      · rw [hr (nI 2) (by rw [e]; decide)]; exact ⟨2, by decide, rfl, by decide⟩
      · rw [hr (nI 3) (by rw [e]; decide)]; exact ⟨3, by decide, rfl, by decide⟩
    · rw [if_neg (fun z => by have := hz.mp (hs.mp z); omega)]
      rcases (show t = 0 ∨ t = -1 ∨ t = -2 ∨ t = -3 by omega) with e | e | e | e
      · rw [hr (nI 0) (by rw [e]; decide)]; exact ⟨0, by decide, by decide, by decide⟩
      · rw [hr (-1) (by rw [e]; decide)]; exact ⟨3, by decide, by decide, by decide⟩
      · rw [hr (-2) (by rw [e]; decide)]; exact ⟨2, by decide, by decide, by decide⟩
      · rw [hr (-3) (by rw [e]; decide)]; exact ⟨1, by decide, by decide, by decide⟩
  obtain ⟨j, j4, e1, e2⟩ := key
  have hn : pr_n v = 3 + j := by unfold pr_n; rw [e1, nI_clamp (by omega)]
  rw [hn, e1, e2, nI_add]
  exact ⟨by omega, by omega, rfl, rfl⟩
