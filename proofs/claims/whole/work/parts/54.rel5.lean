/-! THE PUBLIC CALLS, alike: the simple ones, drain, start -/
def pr_A (n : Nat) (a b : Int32 × vv_S) : Prop := a.1 = b.1 ∧ pr_Rel n a.2 b.2
section PRREL5
variable {n : Nat} {σ ρ σ' ρ' : vv_S}
theorem pr_A.mk {x y : Int32} (h : x = y) (hR : pr_Rel n σ ρ) : pr_A n (x, σ) (y, ρ) := ⟨h, hR⟩
theorem pr_Rel.down (h : pr_Rel n σ ρ) : ρ 0 18 = σ 0 6 := h.2.1.1
theorem pr_look (h : pr_Rel n σ ρ) (hn3 : 3 ≤ n) (hn : n ≤ 6) {b : Int32} : pm_look ρ n (pm_r ρ) b = pc_look σ n b := by
  unfold pm_look pc_look
  rw [h.down, h.r]
  by_cases c : σ 0 6 = 0
  · rw [if_pos c, if_pos c]
    by_cases d : pc_isb n b
    · rw [if_pos d, if_pos d]
      obtain ⟨-, hb⟩ := pc_nat d (by omega)
      obtain ⟨h24, -⟩ := pc_dm hn3 hb
      generalize b.toNatClampNeg = k at *
      have hp : k % (n - 1) < n - 1 := Nat.mod_lt _ (by omega)
      have hl := pr_lat h hn3 hn (s := k / (n - 1)) (p := k % (n - 1)) (by omega) _ (Nat.le_refl _)
      rw [pr_p_d hp] at hl
      have hm := pc_mo_lt (s := k / (n - 1)) (d := k % (n - 1)) hn3
      have ht := pr_there (h.mem hm) h24
      have ho := pr_oth h.1 hm hn h24
      congr 1
      unfold pm_from pc_src
      rw [hl]
      cases pm_lat ρ (k / (n - 1)) (k % (n - 1)) (pc_r σ) with
      | none =>
        dsimp only [Option.map]
        rw [if_pos rfl, if_pos rfl]
        by_cases t : pc_there σ (pc_mo n (k / (n - 1)) (k % (n - 1))) (k / (n - 1))
        · rw [if_pos t, if_pos (ht.mpr t)]
        · rw [if_neg t, if_neg (fun z => t (ht.mp z))]
          by_cases u : pc_oth σ n (pc_mo n (k / (n - 1)) (k % (n - 1))) (k / (n - 1))
          · rw [if_pos u, if_pos (ho.mpr u)]
          · rw [if_neg u, if_neg (fun z => u (ho.mp z))]
      | some e =>
        dsimp only [Option.map]
        rw [if_neg (fun z => by cases z), if_neg (fun z => by cases z)]
    · rw [if_neg d, if_neg d]
  · rw [if_neg c, if_neg c]
theorem pr_drain (h : pr_Rel n σ ρ) (hn3 : 3 ≤ n) (hn : n ≤ 6) {x : Int32} : pr_A n (pc_drain σ n x) (pm_drain ρ n x) := by
  unfold pc_drain pm_drain
  rw [h.down]
  by_cases c : σ 0 6 = 0
  · rw [if_pos c, if_pos c]
    by_cases a : x < nI 1
    · rw [if_pos a, if_neg (fun z => z.1 a)]; exact ⟨rfl, h⟩
    · rw [if_neg a]
      by_cases b : x ≤ nI 32
      · have hd := pr_dl hn3 hn x.toNatClampNeg σ ρ h
        have ab : ¬ x < nI 1 ∧ x ≤ nI 32 := ⟨a, b⟩
        rw [if_pos b, if_pos ab, ← hd.1]
        by_cases e : (pc_dr n (min x.toNatClampNeg (pc_r σ)) σ).1 = true
        · rw [if_pos e, if_pos e]; exact ⟨hd.2.2.2.2.1.symm, hd.2⟩
        · rw [if_neg e, if_neg e]; exact ⟨rfl, hd.2⟩
      · rw [if_neg b, if_neg (fun z => b z.2)]; exact ⟨rfl, h⟩
  · rw [if_neg c, if_neg c]; exact ⟨rfl, h⟩
/-! which member isn't on -/
theorem pc_mt_none {x : Int32} (hn : n ≤ 6) : ∀ f m, m + f ≤ n → pc_mt σ x f m = -1 → ∀ k, m ≤ k → k < m + f → ¬ σ (pc_d k) 3 = x
  | 0, m, _, _, k, a, b => by omega
  | f + 1, m, hm, h, k, a, b => by
    unfold pc_mt at h
    split at h
    · exact absurd h (pm_ne1 (by omega))
    · rename_i z
      rcases Nat.lt_or_ge m k with q | q
      · exact pc_mt_none hn f (m + 1) (by omega) h k (by omega) (by omega)
      · rw [show k = m by omega]; exact z
theorem pr_nt_m1 (h : pr_dev n σ ρ) (hn : n ≤ 6) : pm_nt ρ n 0 = -1 ↔ ∀ m, m < n → σ (pc_d m) 3 = 0 := by
  rcases pm_nt_or (σ := ρ) n 0 with ⟨a, b⟩ | ⟨k, -, b, c, d⟩
  · exact ⟨fun _ m hm => by rw [← (h.1 m hm).2.2.2.1]; exact b m (Nat.zero_le m) (by omega), fun _ => a⟩
  · rw [c]
    refine ⟨fun z => absurd z (pm_ne1 (by omega)), fun z => absurd ?_ d⟩
    rw [(h.1 k (by omega)).2.2.2.1]
    exact z k (by omega)
theorem pr_aon (h : pr_dev n σ ρ) (hn : n ≤ 6) : pc_aon σ n ↔ ∀ m, m < n → σ (pc_d m) 3 = 0 := by
  refine ⟨fun ⟨a, b⟩ m hm => ?_, fun z => ?_⟩
  · have a1 := pc_mt_none hn n 0 (by omega) a m (Nat.zero_le m) (by omega)
    have b1 := pc_mt_none hn n 0 (by omega) b m (Nat.zero_le m) (by omega)
    rcases (h.1 m hm).2.2.2.2.2 with q | q | q
    · exact q.1
    · exact absurd q.1 a1
    · exact absurd q.1 b1
  · constructor
    · rcases pc_mt_or (σ := σ) (x := nI 1) n 0 with q | ⟨k, q1, q2, q3⟩
      · exact q
      · rw [z k (by omega)] at q3; exact absurd q3 (by decide)
    · rcases pc_mt_or (σ := σ) (x := nI 2) n 0 with q | ⟨k, q1, q2, q3⟩
      · exact q
      · rw [z k (by omega)] at q3; exact absurd q3 (by decide)
theorem pr_aon_nt (h : pr_dev n σ ρ) (hn : n ≤ 6) : pc_aon σ n ↔ pm_nt ρ n 0 = -1 := (pr_aon h hn).trans (pr_nt_m1 h hn).symm
/-- the member of state x (1, 2) -/
theorem pr_mt (h : pr_dev n σ ρ) (hn : n ≤ 6) {x : Int32} (hx : ¬ x = 0) : (pc_mt σ x n 0 = -1 ∧ (pm_nt ρ n 0 = -1 ∨ (¬ pm_nt ρ n 0 = -1 ∧ ¬ ρ 4 (pm_nt ρ n 0).toNatClampNeg = x))) ∨ (¬ pc_mt σ x n 0 = -1 ∧ ¬ pm_nt ρ n 0 = -1 ∧ pm_nt ρ n 0 = pc_mt σ x n 0 ∧ ρ 4 (pm_nt ρ n 0).toNatClampNeg = x) := by
  rcases pc_mt_or (σ := σ) (x := x) n 0 with q | ⟨k, q1, q2, q3⟩
  · refine Or.inl ⟨q, ?_⟩
    rcases pm_nt_or (σ := ρ) n 0 with ⟨a, b⟩ | ⟨k, -, b, c, d⟩
    · exact Or.inl a
    · refine Or.inr ⟨by rw [c]; exact pm_ne1 (by omega), ?_⟩
      rw [c, nI_clamp (by omega), (h.1 k (by omega)).2.2.2.1]
      exact pc_mt_none hn n 0 (by omega) q k (Nat.zero_le k) b
  · right
    have hk : k < n := by omega
    rcases pm_nt_or (σ := ρ) n 0 with ⟨a, b⟩ | ⟨k', -, b, c, d⟩
    · have := b k (Nat.zero_le k) (by omega)
      rw [(h.1 k hk).2.2.2.1, q3] at this
      exact absurd this hx
    · have hk' : k' < n := by omega
      rw [(h.1 k' hk').2.2.2.1] at d
      have e := h.2 k k' hk hk' (by rw [q3]; exact hx) d
      subst e
      rw [c, q2, nI_clamp (by omega)]
      exact ⟨pm_ne1 (by omega), pm_ne1 (by omega), rfl, by rw [(h.1 k hk).2.2.2.1]; exact q3⟩
theorem pr_dn_same (h : pr_Rel n σ ρ) (hd : pr_dev n σ' ρ') (hs : ∀ i, i < 28 → σ' i = σ i) (hr : ∀ i, i = 0 ∨ 7 ≤ i → ρ' i = ρ i) : pr_Rel n σ' ρ' :=
  ⟨hd, h.2.1.same (hs 0 (by decide)) (fun j _ => by rw [hs 4 (by decide)]) (fun j _ => by rw [hr 0 (by decide)]) (fun j _ => by rw [hr 13 (by decide)]), h.2.2.same (hs 2 (by decide)) (fun i a b => hs i b) (fun j _ _ => by rw [hr 0 (by decide)]) (fun i a b => hr i (by omega))⟩
theorem pr_lose (h : pr_Rel n σ ρ) (hn3 : 3 ≤ n) (hn : n ≤ 6) {x : Int32} : pr_A n (pc_lose σ n x) (pm_lose ρ n x) := by
  unfold pc_lose pm_lose
  rw [h.down]
  by_cases c : σ 0 6 = 0
  · rw [if_pos c, if_pos c]
    by_cases d : pc_ism n x
    · rw [if_pos d, if_pos d]
      by_cases a : pc_aon σ n
      · rw [if_pos a, if_pos ((pr_aon_nt h.1 hn).mp a)]
        obtain ⟨-, hm⟩ := pc_nat d (by omega)
        generalize x.toNatClampNeg = m at *
        have all0 := (pr_aon h.1 hn).mp a
        refine pr_A.mk rfl (pr_dn_same h ⟨fun m' hm' => ?_, fun a a' ha ha' ea ea' => ?_⟩ (fun i hi => ?_) (fun i hi => vv_up_n (by omega)))
        · by_cases e : m' = m
          · subst e
            obtain ⟨p1, p2, p3, p4, p5, p6⟩ := h.mem hm'
            have q0 : vv_up (vv_up σ (pc_d m') 3 (nI 1)) (pc_d m') 4 (nI 0) (pc_d m') = upd (upd (σ (pc_d m')) 3 (nI 1)) 4 (nI 0) := by rw [vv_up_s, vv_up_s]
            have q : ∀ i, 1 ≤ i → vv_up (vv_up σ (pc_d m') 3 (nI 1)) (pc_d m') 4 (nI 0) (pc_d m' + i) = σ (pc_d m' + i) := fun i hi => by rw [vv_up_n (by omega), vv_up_n (by omega)]
            unfold pr_mem pr_st
            rw [q0, q 1 (by decide), q 2 (by decide), q 3 (by decide), vv_up_n (show 1 ≠ 4 by decide), vv_up_n (show 2 ≠ 4 by decide), vv_up_n (show 3 ≠ 4 by decide), vv_up_n (show 6 ≠ 4 by decide), vv_up_s]
            exact ⟨p1, p2, p3, by rw [vv_upd_s, vv_upd_n (by decide), vv_upd_s], by rw [vv_upd_n (by decide), vv_upd_n (by decide)]; exact p5, Or.inr (Or.inl ⟨by rw [vv_upd_n (by decide), vv_upd_s], vv_upd_s⟩)⟩
          · obtain ⟨p1, p2, p3, p4, p5, p6⟩ := h.mem hm'
            have q : ∀ i, i < 4 → vv_up (vv_up σ (pc_d m) 3 (nI 1)) (pc_d m) 4 (nI 0) (pc_d m' + i) = σ (pc_d m' + i) := fun i hi => by rw [vv_up_n (by unfold pc_d; omega), vv_up_n (by unfold pc_d; omega)]
            have q0 : vv_up (vv_up σ (pc_d m) 3 (nI 1)) (pc_d m) 4 (nI 0) (pc_d m') = σ (pc_d m') := q 0 (by decide)
            unfold pr_mem pr_st
            rw [q0, q 1 (by decide), q 2 (by decide), q 3 (by decide), vv_up_n (show 1 ≠ 4 by decide), vv_up_n (show 2 ≠ 4 by decide), vv_up_n (show 3 ≠ 4 by decide), vv_up_n (show 6 ≠ 4 by decide), vv_up_n (show 5 ≠ 4 by decide), vv_up_s, vv_upd_n e]
            exact ⟨p1, p2, p3, p4, p5, p6⟩
        · have q : ∀ j, j < n → ¬ vv_up (vv_up σ (pc_d m) 3 (nI 1)) (pc_d m) 4 (nI 0) (pc_d j) 3 = 0 → j = m := by
            intro j hj z
            rcases Nat.lt_trichotomy j m with y | y | y
            · rw [vv_up_n (by unfold pc_d; omega), vv_up_n (by unfold pc_d; omega)] at z; exact absurd (all0 j hj) z
            · exact y
            · rw [vv_up_n (by unfold pc_d; omega), vv_up_n (by unfold pc_d; omega)] at z; exact absurd (all0 j hj) z
          rw [q a ha ea, q a' ha' ea']
        · rw [vv_up_n (by unfold pc_d; omega), vv_up_n (by unfold pc_d; omega)]
      · rw [if_neg a, if_neg (fun z => a ((pr_aon_nt h.1 hn).mpr z))]; exact ⟨rfl, h⟩
    · rw [if_neg d, if_neg d]; exact ⟨rfl, h⟩
  · rw [if_neg c, if_neg c]; exact ⟨rfl, h⟩
theorem pr_rp (h : pr_Rel n σ ρ) {m : Nat} (hm : m < n) (hs : ¬ σ (pc_d m) 3 = 0) : pr_Rel n (pc_rp σ m) (pm_sp ρ m) := by
  have q : ∀ i, i < pc_d m ∨ pc_d m + 4 ≤ i → pc_rp σ m i = σ i := fun i hi => by unfold pc_rp; rw [vv_up_n (by omega), vv_up_n (by omega), vv_row_n (by omega), vv_row_n (by omega), vv_row_n (by omega)]
  have q0 : pc_rp σ m (pc_d m) = upd (upd (σ (pc_d m)) 3 (nI 2)) 4 (nI 0) := by unfold pc_rp; rw [vv_up_s, vv_up_s, vv_row_n (by omega), vv_row_n (by omega), vv_row_n (by omega)]
  have q1 : pc_rp σ m (pc_d m + 1) = fun j => if j < 192 then nI 0 else σ (pc_d m + 1) j := by unfold pc_rp; rw [vv_up_n (by omega), vv_up_n (by omega), vv_row_n (by omega), vv_row_n (by omega), vv_row_s]
  have q2 : pc_rp σ m (pc_d m + 2) = fun j => if j < 24 then nI 0 else σ (pc_d m + 2) j := by unfold pc_rp; rw [vv_up_n (by omega), vv_up_n (by omega), vv_row_n (by omega), vv_row_s]
  have q3 : pc_rp σ m (pc_d m + 3) = fun j => if j < 24 then nI 0 else σ (pc_d m + 3) j := by unfold pc_rp; rw [vv_up_n (by omega), vv_up_n (by omega), vv_row_s]
  have z1 : pm_sp ρ m 1 = fun j => if 192 * m ≤ j ∧ j < 192 * m + 192 then nI 0 else ρ 1 j := by unfold pm_sp pm_zr; rw [vv_row_s, vv_up_n (by decide), vv_up_n (by decide)]
  have z2 : pm_sp ρ m 2 = fun j => if 24 * m ≤ j ∧ j < 24 * m + 24 then nI 0 else ρ 2 j := by unfold pm_sp pm_zr; rw [vv_row_n (by decide), vv_row_s, vv_up_n (by decide), vv_up_n (by decide)]
  have z3 : pm_sp ρ m 3 = fun j => if 24 * m ≤ j ∧ j < 24 * m + 24 then nI 0 else ρ 3 j := by unfold pm_sp pm_zr; rw [vv_row_n (by decide), vv_row_n (by decide), vv_row_s, vv_up_n (by decide), vv_up_n (by decide)]
  have z : ∀ i, i ≠ 1 → i ≠ 2 → i ≠ 3 → i ≠ 4 → i ≠ 5 → pm_sp ρ m i = ρ i := fun i a b c d e => by unfold pm_sp pm_zr; rw [vv_row_n a, vv_row_n b, vv_row_n c, vv_up_n e, vv_up_n d]
  have z4 : pm_sp ρ m 4 = upd (ρ 4) m (nI 2) := by unfold pm_sp pm_zr; rw [vv_row_n (by decide), vv_row_n (by decide), vv_row_n (by decide), vv_up_n (by decide), vv_up_s]
  have z5 : pm_sp ρ m 5 = upd (ρ 5) m (nI 0) := by unfold pm_sp pm_zr; rw [vv_row_n (by decide), vv_row_n (by decide), vv_row_n (by decide), vv_up_s, vv_up_n (by decide)]
  refine pr_dn_same h ⟨fun m' hm' => ?_, fun a a' ha ha' ea ea' => ?_⟩ (fun i hi => q i (Or.inl (by unfold pc_d; omega))) (fun i hi => z i (by omega) (by omega) (by omega) (by omega) (by omega))
  · obtain ⟨p1, p2, p3, p4, p5, p6⟩ := h.mem hm'
    by_cases e : m' = m
    · subst e
      unfold pr_mem pr_st
      rw [q0, q1, q2, q3, z1, z2, z3, z4, z5, z 6 (by decide) (by decide) (by decide) (by decide) (by decide)]
      dsimp only
      refine ⟨fun s i hs hi => ?_, fun s hs => ?_, fun s hs => ?_, ?_, ?_, Or.inr (Or.inr ⟨by rw [vv_upd_n (by decide), vv_upd_s], 0, by decide, vv_upd_s, vv_upd_s⟩)⟩
      · rw [if_pos (by omega), if_pos (by omega)]
      · rw [if_pos (by omega), if_pos (by omega)]
      · rw [if_pos (by omega), if_pos (by omega)]
      · rw [vv_upd_s, vv_upd_n (by decide), vv_upd_s]
      · rw [vv_upd_n (by decide), vv_upd_n (by decide)]; exact p5
    · have w : ∀ i, i < 4 → pc_rp σ m (pc_d m' + i) = σ (pc_d m' + i) := fun i hi => q _ (by unfold pc_d; omega)
      have w0 : pc_rp σ m (pc_d m') = σ (pc_d m') := w 0 (by decide)
      unfold pr_mem pr_st
      rw [w0, w 1 (by decide), w 2 (by decide), w 3 (by decide), z1, z2, z3, z4, z5, z 6 (by decide) (by decide) (by decide) (by decide) (by decide), vv_upd_n e, vv_upd_n e]
      dsimp only
      refine ⟨fun s i hs hi => ?_, fun s hs => ?_, fun s hs => ?_, p4, p5, p6⟩
      · rw [if_neg (by omega)]; exact p1 s i hs hi
      · rw [if_neg (by omega)]; exact p2 s hs
      · rw [if_neg (by omega)]; exact p3 s hs
  · have w : ∀ j, j < n → ¬ pc_rp σ m (pc_d j) 3 = 0 → j = m := by
      intro j hj y
      by_cases e : j = m
      · exact e
      · rw [q _ (by unfold pc_d; omega)] at y
        exact h.1.2 j m hj hm y hs
    rw [w a ha ea, w a' ha' ea']
theorem pr_spare (h : pr_Rel n σ ρ) (hn3 : 3 ≤ n) (hn : n ≤ 6) : pr_A n (pc_spare σ n) (pm_spare ρ n) := by
  unfold pc_spare pm_spare
  rw [h.down]
  by_cases c : σ 0 6 = 0
  · rw [if_pos c, if_pos c]
    rcases pr_mt h.1 hn (x := nI 1) (by decide) with ⟨a, b⟩ | ⟨a, b, d, e⟩
    · rw [if_pos a]
      rcases b with b | ⟨b, d⟩
      · rw [if_pos b]; exact ⟨rfl, h⟩
      · rw [if_neg b, if_neg d]; exact ⟨rfl, h⟩
    · rw [if_neg a, if_neg b, if_pos e, d]
      have hm := pc_mt_nat hn a
      exact ⟨rfl, pr_rp h hm.2.1 (by rw [hm.2.2]; decide)⟩
  · rw [if_neg c, if_neg c]; exact ⟨rfl, h⟩
theorem pr_rot (h : pr_Rel n σ ρ) (hn3 : 3 ≤ n) (hn : n ≤ 6) {a s i x : Int32} : pr_A n (pc_rot σ n a s i x) (pm_rot ρ n a s i x) := by
  unfold pc_rot pm_rot
  by_cases c : pc_ism n a ∧ pc_iss s ∧ ¬ i < 0 ∧ i < nI 8
  · rw [if_pos c, if_pos c]
    obtain ⟨-, h1⟩ := pc_nat c.1 (by omega)
    obtain ⟨-, h2⟩ := pc_nat c.2.1 (by omega)
    obtain ⟨-, h3⟩ := pc_nat c.2.2 (by omega)
    generalize a.toNatClampNeg = m at *
    generalize s.toNatClampNeg = s at *
    generalize i.toNatClampNeg = i at *
    have e1 := (h.mem h1).1 s i h2 h3
    refine pr_A.mk (by rw [e1]) (pr_dn_same h ⟨fun m' hm' => ?_, fun a a' ha ha' ea ea' => ?_⟩ (fun k hk => vv_up_n (by unfold pc_d; omega)) (fun k hk => vv_up_n (by omega)))
    · obtain ⟨p1, p2, p3, p4, p5, p6⟩ := h.mem hm'
      unfold pr_mem pr_st
      rw [vv_up_n (show pc_d m' ≠ pc_d m + 1 by unfold pc_d; omega), vv_up_n (show pc_d m' + 2 ≠ pc_d m + 1 by unfold pc_d; omega), vv_up_n (show pc_d m' + 3 ≠ pc_d m + 1 by unfold pc_d; omega), vv_up_n (show 2 ≠ 1 by decide), vv_up_n (show 3 ≠ 1 by decide), vv_up_n (show 4 ≠ 1 by decide), vv_up_n (show 5 ≠ 1 by decide), vv_up_n (show 6 ≠ 1 by decide), vv_up_s]
      refine ⟨fun s' i' hs' hi' => ?_, p2, p3, p4, p5, p6⟩
      by_cases e : m' = m
      · subst e
        rw [vv_up_s]
        by_cases e2 : s' * 8 + i' = s * 8 + i
        · rw [show 8 * (24 * m' + s') + i' = 8 * (24 * m' + s) + i by omega, e2, vv_upd_s, vv_upd_s, e1]
        · rw [vv_upd_n (by omega), vv_upd_n e2]; exact p1 s' i' hs' hi'
      · rw [vv_upd_n (by omega), vv_up_n (by unfold pc_d; omega)]; exact p1 s' i' hs' hi'
    · rw [vv_up_n (by unfold pc_d; omega)] at ea ea'
      exact h.1.2 a a' ha ha' ea ea'
  · rw [if_neg c, if_neg c]; exact ⟨rfl, h⟩
theorem pr_89 (t : Int32) : t ≤ nI 8 ↔ t < nI 9 := by
  rw [Int32.le_iff_toInt_le, Int32.lt_iff_toInt_lt, nI_toInt (by decide), nI_toInt (by decide)]
  omega
/-- fields of the object change alike -/
theorem pr_obj (h : pr_Rel n σ ρ) (hn : pr_num σ' ρ') (hs : ∀ i, i ≠ 0 → σ' i = σ i) (hr : ∀ i, i ≠ 0 → ρ' i = ρ i) (h0 : ∀ j, 8 ≤ j → j ≤ 17 → ρ' 0 j = ρ 0 j) : pr_Rel n σ' ρ' :=
  ⟨h.1.same (fun k hk => hs k (by omega)) (fun i a b => hr i (by omega)), hn, h.2.2.same (hs 2 (by decide)) (fun i a b => hs i (by omega)) h0 (fun i a b => hr i (by omega))⟩
theorem pr_cut (h : pr_Rel n σ ρ) {x t : Int32} : pr_A n (pc_cut σ x t) (pm_cut ρ x t) := by
  unfold pc_cut pm_cut
  rw [h.down]
  by_cases c : σ 0 6 = 0
  · rw [if_pos c, if_pos c]
    by_cases d : pc_isc x ∧ ¬ t < 0 ∧ t < nI 9
    · have d8 : pc_isc x ∧ ¬ t < 0 ∧ t ≤ nI 8 := ⟨d.1, d.2.1, (pr_89 t).mpr d.2.2⟩
      rw [if_pos d, if_pos d8]
      obtain ⟨ht, ht9⟩ := pc_nat d.2 (by decide)
      refine pr_A.mk rfl (pr_obj h ?_ (fun i hi => by rw [vv_up_n hi, vv_up_n hi]) (fun i hi => by rw [vv_up_n hi, vv_up_n hi]) (fun j a b => by rw [vv_up_s, vv_upd_n (by omega), vv_up_s, vv_upd_n (by omega)]))
      obtain ⟨h1, h2, h3, h4, h5, h6, h7, h8⟩ := h.2.1
      unfold pr_num
      rw [vv_up_s, vv_up_s, vv_up_s, vv_up_s, vv_up_n (show 4 ≠ 0 by decide), vv_up_n (show 4 ≠ 0 by decide), vv_up_n (show 13 ≠ 0 by decide), vv_up_n (show 13 ≠ 0 by decide)]
      exact ⟨h1, rfl, rfl, h4, h5, ⟨_, by omega, ht⟩, h7, h8⟩
    · have d8 : ¬ (pc_isc x ∧ ¬ t < 0 ∧ t ≤ nI 8) := fun z => d ⟨z.1, z.2.1, (pr_89 t).mp z.2.2⟩
      rw [if_neg d, if_neg d8]; exact ⟨rfl, h⟩
  · rw [if_neg c, if_neg c]; exact ⟨rfl, h⟩
theorem pr_chunk (h : pr_Rel n σ ρ) (hn : n ≤ 6) {a s i : Int32} : pm_chunk ρ n a s i = pc_chunk σ n a s i := by
  unfold pm_chunk pc_chunk
  by_cases c : pc_ism n a ∧ pc_iss s
  · rw [if_pos c, if_pos c]
    obtain ⟨-, h1⟩ := pc_nat c.1 (by omega)
    obtain ⟨-, h2⟩ := pc_nat c.2 (by omega)
    obtain ⟨p1, p2, p3, p4, p5, p6⟩ := h.mem h1
    have ht := pr_there (h.mem h1) h2
    by_cases d : ¬ i < 0 ∧ i < nI 8
    · rw [if_pos d, if_pos d]
      obtain ⟨-, h3⟩ := pc_nat d (by omega)
      exact p1 _ _ h2 h3
    · rw [if_neg d, if_neg d]
      have e : (if pm_there ρ a.toNatClampNeg s.toNatClampNeg then nI 1 else nI 0) = (if pc_there σ a.toNatClampNeg s.toNatClampNeg then nI 1 else nI 0) := by
        by_cases z : pc_there σ a.toNatClampNeg s.toNatClampNeg
        · rw [if_pos z, if_pos (ht.mpr z)]
        · rw [if_neg z, if_neg (fun y => z (ht.mp y))]
      rw [e, p2 _ h2, p3 _ h2]
      rfl
  · rw [if_neg c, if_neg c]
theorem pr_member (h : pr_Rel n σ ρ) (hn : n ≤ 6) {a x : Int32} : pm_member ρ n a x = pc_member σ n a x := by
  unfold pm_member pc_member
  by_cases c : pc_ism n a
  · rw [if_pos c, if_pos c]
    obtain ⟨-, h1⟩ := pc_nat c (by omega)
    obtain ⟨p1, p2, p3, p4, p5, p6⟩ := h.mem h1
    have e : (if ρ 4 a.toNatClampNeg = 0 then nI 24 else if ρ 4 a.toNatClampNeg = nI 2 then ρ 5 a.toNatClampNeg else nI 0) = σ (pc_d a.toNatClampNeg) 4 := by
      rw [p4]
      rcases p6 with ⟨q, r⟩ | ⟨q, r⟩ | ⟨q, b, -, r, u⟩
      · rw [q, if_pos rfl, r]
      · rw [q, if_neg (by decide), if_neg (by decide), r]
      · rw [q, if_neg (by decide), if_pos rfl, r, u]
    rw [e, p4, p5]
    rfl
  · rw [if_neg c, if_neg c]
theorem pr_fr (h : pr_Rel n σ ρ) (hn3 : 3 ≤ n) (hn : n ≤ 6) : ∀ k, k ≤ pc_r σ → pm_fr ρ n k = nI (32 - pc_u σ (pc_o σ) k)
  | 0, _ => rfl
  | k + 1, hk => by
    have h32 := h.I.2.2.2.1
    have hm := pc_u_mono (σ := σ) (o := pc_o σ) hk
    have hu : pc_u σ (pc_o σ) (k + 1) = pc_u σ (pc_o σ) k + pc_cn (σ (pc_e (pc_re (pc_o σ) k)) 2) := rfl
    show pm_fr ρ n k - nI (pm_cells ρ n k) = _
    rw [pr_fr h hn3 hn k (by omega), ← pr_cells (h.ent (show k < pc_r σ by omega)) hn3 hn, pc_cn_is, pk_sub (by omega)]
    congr 1
    omega
theorem pr_journal (h : pr_Rel n σ ρ) (hn3 : 3 ≤ n) (hn : n ≤ 6) {x : Int32} : pm_journal ρ n (pm_r ρ) x = pc_journal σ x := by
  unfold pm_journal pc_journal
  rw [h.down, h.r, pr_fr h hn3 hn _ (Nat.le_refl _), h.I.2.2.1, pk_sub h.I.2.2.2.1, h.2.2.2.1, h.2.2.2.2.2.2.1, h.2.2.2.2.1, h.2.2.2.2.2.1]
theorem pr_record (h : pr_Rel n σ ρ) (hn3 : 3 ≤ n) (hn : n ≤ 6) {k x : Int32} : pm_record ρ (pm_r ρ) k x = pc_record σ n k x := by
  unfold pm_record pc_record
  rw [h.down, h.r]
  have hr := h.I.1.2.2.1
  have hr10 := h.I.1.2.2.2.1
  by_cases c : σ 0 6 = 0 ∧ ¬ k < 0 ∧ k < nI (pc_r σ)
  · have c' : ¬ k < 0 ∧ k < (if σ 0 6 = 0 then σ 2 2 else nI 0) := by rw [if_pos c.1, hr]; exact c.2
    rw [if_pos c, if_pos c']
    obtain ⟨-, hk⟩ := pc_nat c.2 (by omega)
    have he := h.ent hk
    have h8 := (h.2.2.2.2.2.2.2.1 _ hk).2
    have hb := pr_bitp he hn3 hn
    obtain ⟨e1, e2, e3, e4, -⟩ := he
    have e : (if ρ 10 k.toNatClampNeg = 0 then nI 0 else nI 1) = (if pc_bit (σ (pc_e (pc_re (pc_o σ) k.toNatClampNeg)) 2) (n - 1) then nI 1 else nI 0) := by
      by_cases z : pc_bit (σ (pc_e (pc_re (pc_o σ) k.toNatClampNeg)) 2) (n - 1)
      · rw [if_pos z, if_neg (hb.mpr z)]
      · rw [if_neg z, if_pos (Classical.byContradiction (fun y => z (hb.mp y)))]
    rw [e, e1, e2, e4, h8]
    rfl
  · have c' : ¬ (¬ k < 0 ∧ k < (if σ 0 6 = 0 then σ 2 2 else nI 0)) := by
      intro z
      by_cases d : σ 0 6 = 0
      · rw [if_pos d, hr] at z; exact c ⟨d, z⟩
      · rw [if_neg d] at z; exact z.1 z.2
    rw [if_neg c, if_neg c']
theorem pr_count (h : pr_Rel n σ ρ) {x : Int32} : pm_count ρ x = pc_count σ x := by
  unfold pm_count pc_count
  by_cases c : ¬ x < 0 ∧ x < nI 13
  · rw [if_pos c, if_pos c]
    obtain ⟨-, hk⟩ := pc_nat c (by omega)
    exact h.2.1.2.2.2.2.1 _ hk
  · rw [if_neg c, if_neg c]
end PRREL5
