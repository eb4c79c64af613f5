/-! WRITE, alike: the run of stripes, the call -/
section PRRELD
variable {n : Nat} {σ ρ σ' ρ' : vv_S}
theorem pr_wr (hn3 : 3 ≤ n) (hn : n ≤ 6) {kb kc kl : Nat} {v : Int32} (hkl : kl + 1 = kb + kc) (hlt : kl < 24 * (n - 1)) (hc1 : 1 ≤ kc) : ∀ (f s k g : Nat) (τ κ : vv_S), pr_Rel n τ κ → s + f = kl / (n - 1) + 1 → kc ≤ k + g → (f ≠ 0 → kb + k = max kb (s * (n - 1)) ∧ kb / (n - 1) ≤ s) → (f = 0 → k = kc) →
    pr_A n (pc_wr n kb kl v f s τ) (pm_wr n kb kc v g k κ) ∧ pm_wok n kb kc v g k κ
  | 0, s, k, g, τ, κ, h, _, _, _, h0 => by
    have hk := h0 rfl
    cases g with
    | zero => exact ⟨⟨rfl, h⟩, trivial⟩
    | succ g =>
      have c : ¬ k < kc := by omega
      refine ⟨?_, fun z => absurd z c⟩
      unfold pm_wr
      rw [if_neg c]
      exact ⟨rfl, h⟩
  | f + 1, s, k, g, τ, κ, h, hsf, hg, h1, _ => by
    obtain ⟨hk, hbs⟩ := h1 (by omega)
    have hd : 0 < n - 1 := by omega
    have hsl : s ≤ kl / (n - 1) := by omega
    have hs24 : s < 24 := Nat.lt_of_le_of_lt hsl ((Nat.div_lt_iff_lt_mul hd).mpr hlt)
    have hft := pc_ft hd hbs hsl (show kb ≤ kl by omega)
    have b1 : kb < s * (n - 1) + (n - 1) := by have := (Nat.div_lt_iff_lt_mul hd).mp (show kb / (n - 1) < s + 1 by omega); rw [Nat.succ_mul] at this; exact this
    have b2 : s * (n - 1) ≤ kl := (Nat.le_div_iff_mul_le hd).mp hsl
    have hq : ∀ b, s * (n - 1) ≤ b → b < s * (n - 1) + (n - 1) → b / (n - 1) = s := by
      intro b x y
      have a1 : s ≤ b / (n - 1) := (Nat.le_div_iff_mul_le hd).mpr x
      have a2 : b / (n - 1) < s + 1 := (Nat.div_lt_iff_lt_mul hd).mpr (by rw [Nat.succ_mul]; exact y)
      omega
    have nx : s + 1 ≤ kl / (n - 1) → s * (n - 1) + (n - 1) ≤ kl := fun z => by have := (Nat.le_div_iff_mul_le hd).mp z; rw [Nat.succ_mul] at this; exact this
    have ne : ¬ s + 1 ≤ kl / (n - 1) → kl < s * (n - 1) + (n - 1) := fun z => by have := (Nat.div_lt_iff_lt_mul hd).mp (show kl / (n - 1) < s + 1 by omega); rw [Nat.succ_mul] at this; exact this
    have hend : ¬ (min kl (s * (n - 1) + (n - 1) - 1) + 1 - kb < kc ∧ (min kl (s * (n - 1) + (n - 1) - 1) + 1) / (n - 1) = s) := by
      rintro ⟨x, y⟩
      have z : min kl (s * (n - 1) + (n - 1) - 1) = s * (n - 1) + (n - 1) - 1 := by omega
      rw [z, show s * (n - 1) + (n - 1) - 1 + 1 = (s + 1) * (n - 1) by rw [Nat.succ_mul]; omega, Nat.mul_div_cancel _ hd] at y
      omega
    have sm : (s + 1) * (n - 1) = s * (n - 1) + (n - 1) := Nat.succ_mul _ _
    have hmax : max kb ((s + 1) * (n - 1)) = s * (n - 1) + (n - 1) := by rw [sm]; omega
    have hF : max kb (s * (n - 1)) = kb ∨ max kb (s * (n - 1)) = s * (n - 1) := by omega
    have hF1 : kb ≤ max kb (s * (n - 1)) := Nat.le_max_left _ _
    have hF2 : s * (n - 1) ≤ max kb (s * (n - 1)) := Nat.le_max_right _ _
    have hT1 : min kl (s * (n - 1) + (n - 1) - 1) ≤ kl := Nat.min_le_left _ _
    have hT2 : min kl (s * (n - 1) + (n - 1) - 1) ≤ s * (n - 1) + (n - 1) - 1 := Nat.min_le_right _ _
    have hT3 : min kl (s * (n - 1) + (n - 1) - 1) = kl ∨ min kl (s * (n - 1) + (n - 1) - 1) = s * (n - 1) + (n - 1) - 1 := by omega
    have hT4 : s + 1 ≤ kl / (n - 1) → min kl (s * (n - 1) + (n - 1) - 1) = s * (n - 1) + (n - 1) - 1 := fun z => by have := nx z; omega
    have hT5 : ¬ s + 1 ≤ kl / (n - 1) → min kl (s * (n - 1) + (n - 1) - 1) = kl := fun z => by have := ne z; omega
    have hks : (kb + k) / (n - 1) = s := hq _ (by omega) (by omega)
    unfold pc_wr
    generalize max kb (s * (n - 1)) = F at *
    generalize min kl (s * (n - 1) + (n - 1) - 1) = T at *
    have hkc : k < kc := by omega
    obtain ⟨wk, Y, hY, hY0, wy, wm, wd⟩ := pr_wl (e := pc_re (pc_o τ) (pc_r τ)) (v := v) hn3 hn (show kb ≤ F by omega) (fun b x y => ⟨by omega, hq b (by omega) (by omega)⟩) hend (T + 1 - F) k 0 (pc_bgn τ (pc_re (pc_o τ) (pc_r τ)) s) κ (by omega) (by omega) (Nat.pow_pos (by decide)) (fun z => by omega)
      (by unfold pc_bgn; rw [vv_up_s, vv_upd_s]) (fun d i _ _ hb => absurd hb (by
        have : ∀ d, d < 6 → ¬ pc_bit (nI 0) d := by decide
        exact this d (by omega)))
    have ewt : pm_wt κ n kb kc k v = pm_wb n kb kc s v (kc - k) k (nI 0) κ := by unfold pm_wt; rw [hks]
    have hwo : ∀ i, i ≠ 15 → (pm_wb n kb kc s v (kc - k) k (nI 0) κ).2.2 i = κ i := fun i hi => pm_wb_o hi _ _ _ _
    rw [hk] at wm wd
    have W := pr_wst (σ := τ) (ρ := κ) (e := pc_re (pc_o τ) (pc_r τ)) (s := s) (f := F) (t := T) (v := v + nI (8 * (F - kb))) h hn3 hn hs24 hft hwo rfl hY hY0 wm wd
    have eww : pm_ww κ n kb kc k v = pm_st (pm_wb n kb kc s v (kc - k) k (nI 0) κ).2.2 n (pc_r τ) s (nI Y) := by unfold pm_ww; rw [ewt, hks, h.r, wy]
    cases g with
    | zero => omega
    | succ g =>
      unfold pm_wr pm_wok
      rw [if_pos hkc, eww, ewt, ← W.1]
      have W2 := W.2
      generalize pc_wst τ n (pc_o τ) (pc_r τ) s F T (v + nI (8 * (F - kb))) = A at *
      by_cases a : A.1 = 0
      · rw [if_pos a, if_pos a]
        have IH := pr_wr hn3 hn (v := v) hkl hlt hc1 f (s + 1) (pm_wb n kb kc s v (kc - k) k (nI 0) κ).1 g A.2 (pm_st (pm_wb n kb kc s v (kc - k) k (nI 0) κ).2.2 n (pc_r τ) s (nI Y)).2 W2 (by omega) (by omega) (fun z => by
          have := hT4 (by omega)
          refine ⟨by rw [wk, hmax, this]; omega, by omega⟩) (fun z => by
          have := hT5 (by omega)
          omega)
        exact ⟨IH.1, fun _ => ⟨h.J, fun _ => IH.2⟩⟩
      · rw [if_neg a, if_neg a]
        exact ⟨W, fun _ => ⟨h.J, fun z => absurd z a⟩⟩
theorem pr_wrs (h : pr_Rel n σ ρ) (hn3 : 3 ≤ n) (hn : n ≤ 6) {kb kc : Nat} {v : Int32} (hc1 : 1 ≤ kc) (hlt : kb + kc - 1 < 24 * (n - 1)) : pr_A n (pc_wrs σ n kb kc v) (pm_wr n kb kc v kc 0 ρ) ∧ pm_wok n kb kc v kc 0 ρ := by
  have hd : 0 < n - 1 := by omega
  have hle : kb / (n - 1) ≤ (kb + kc - 1) / (n - 1) := Nat.div_le_div_right (by omega)
  have hm : kb / (n - 1) * (n - 1) ≤ kb := Nat.div_mul_le_self _ _
  unfold pc_wrs
  exact pr_wr hn3 hn (by omega) hlt hc1 _ _ 0 kc σ ρ h (by omega) (by omega) (fun _ => ⟨by omega, Nat.le_refl _⟩) (fun z => by omega)
theorem pr_write (h : pr_Rel n σ ρ) (hn3 : 3 ≤ n) (hn : n ≤ 6) {b c v : Int32} : pr_A n (pc_write σ n b c v) (pm_write ρ n b c v) := by
  unfold pc_write pm_write
  rw [h.down]
  by_cases d : σ 0 6 = 0
  · rw [if_pos d, if_pos d]
    by_cases e : pc_isb n b
    · rw [if_pos e, if_pos e]
      by_cases a : c < nI 1
      · have a' : ¬ (¬ c < nI 1 ∧ c ≤ nI (2 * (n - 1))) := fun z => z.1 a
        rw [if_pos a, if_neg a']
        exact ⟨rfl, h⟩
      · rw [if_neg a]
        by_cases f : c ≤ nI (2 * (n - 1))
        · have a' : ¬ c < nI 1 ∧ c ≤ nI (2 * (n - 1)) := ⟨a, f⟩
          rw [if_pos f, if_pos a']
          obtain ⟨-, c1, c2⟩ := pc_rng a f (by omega)
          obtain ⟨-, b2⟩ := pc_nat e (by omega)
          by_cases g : pc_isb n (nI (b.toNatClampNeg + c.toNatClampNeg - 1))
          · rw [if_pos g, if_pos g]
            have hlt : b.toNatClampNeg + c.toNatClampNeg - 1 < 24 * (n - 1) := (nI_ltI (by omega) (by omega)).mp g.2
            obtain ⟨W, -⟩ := pr_wrs h hn3 hn (v := v) c1 hlt
            rw [← W.1]
            by_cases q : (pc_wrs σ n b.toNatClampNeg c.toNatClampNeg v).1 = 0
            · rw [if_pos q, if_pos q]
              exact ⟨rfl, W.2⟩
            · rw [if_neg q, if_neg q]
              exact W
          · rw [if_neg g, if_neg g]
            exact ⟨rfl, h⟩
        · have a' : ¬ (¬ c < nI 1 ∧ c ≤ nI (2 * (n - 1))) := fun z => f z.2
          rw [if_neg f, if_neg a']
          exact ⟨rfl, h⟩
    · rw [if_neg e, if_neg e]
      exact ⟨rfl, h⟩
  · rw [if_neg d, if_neg d]
    exact ⟨rfl, h⟩
end PRRELD
