/-! BUILD, alike -/
section PRREL8
variable {n : Nat} {σ ρ σ' ρ' : vv_S}
theorem pr_st2 (h : pr_Rel n σ ρ) {m s : Nat} (hm : m < n) (h2 : σ (pc_d m) 3 = nI 2) (h4 : σ (pc_d m) 4 = nI s) (hs : s < 24) : ρ 5 m = nI s := by
  rcases (h.mem hm).2.2.2.2.2 with q | q | ⟨-, b, q1, q2, q3⟩
  · rw [q.1] at h2; exact absurd h2 (by decide)
  · rw [q.1] at h2; exact absurd h2 (by decide)
  · rw [h4] at q2
    rw [q3, ← q2]
/-- one stripe more is built -/
theorem pr_b2 (h : pr_Rel n σ ρ) {m s : Nat} (hm : m < n) (h2 : σ (pc_d m) 3 = nI 2) (h4 : σ (pc_d m) 4 = nI s) (hs : s + 1 < 24) : pr_Rel n (vv_up σ (pc_d m) 4 (nI (s + 1))) (vv_up ρ 5 m (ρ 5 m + nI 1)) := by
  have e5 := pr_st2 h hm h2 h4 (by omega)
  refine pr_dn_same h ⟨fun m' hm' => ?_, fun a a' ha ha' ea ea' => ?_⟩ (fun i hi => vv_up_n (by unfold pc_d; omega)) (fun i hi => vv_up_n (by omega))
  · obtain ⟨p1, p2, p3, p4, p5, p6⟩ := h.mem hm'
    have q : ∀ i, 1 ≤ i → i < 4 → vv_up σ (pc_d m) 4 (nI (s + 1)) (pc_d m' + i) = σ (pc_d m' + i) := fun i hi hi4 => vv_up_n (by unfold pc_d; omega)
    unfold pr_mem pr_st
    rw [q 1 (by decide) (by decide), q 2 (by decide) (by decide), q 3 (by decide) (by decide), vv_up_n (show 1 ≠ 5 by decide), vv_up_n (show 2 ≠ 5 by decide), vv_up_n (show 3 ≠ 5 by decide), vv_up_n (show 4 ≠ 5 by decide), vv_up_n (show 6 ≠ 5 by decide), vv_up_s]
    by_cases e : m' = m
    · subst e
      rw [vv_up_s, vv_upd_n (by decide), vv_upd_n (by decide), vv_upd_s, vv_upd_s, e5]
      exact ⟨p1, p2, p3, p4, p5, Or.inr (Or.inr ⟨h2, s + 1, hs, rfl, nI_add s 1⟩)⟩
    · rw [vv_up_n (show pc_d m' ≠ pc_d m by unfold pc_d; omega), vv_upd_n e]
      exact ⟨p1, p2, p3, p4, p5, p6⟩
  · have q : ∀ j, vv_up σ (pc_d m) 4 (nI (s + 1)) (pc_d j) 3 = σ (pc_d j) 3 := by
      intro j
      by_cases e : j = m
      · rw [e, vv_up_s, vv_upd_n (by decide)]
      · rw [vv_up_n (by unfold pc_d; omega)]
    rw [q] at ea ea'
    exact h.1.2 a a' ha ha' ea ea'
/-- the last stripe: the mark is written, the member is on again -/
theorem pr_bl_ok (h : pr_Rel n σ ρ) {m o r : Nat} {v : Int32} (hm : m < n) (hc : ¬ σ 0 7 = 0) : pr_Rel n (vv_up (pc_pmk (vv_up σ (pc_d m) 4 (nI 24)) n o r 0) (pc_d m) 3 (nI 0)) (vv_up (pm_mk (vv_up ρ 5 m v) n (ρ 0 15) (ρ 0 16)) 4 m (nI 0)) := by
  have low : ∀ i, i < 28 → vv_up σ (pc_d m) 4 (nI 24) i = σ i := fun i hi => vv_up_n (by unfold pc_d; omega)
  have hR := pr_mk_same h (o := o) (r := r)
  have c0 : ¬ ρ 0 19 = 0 := by rw [h.cut]; exact hc
  have cv : ¬ vv_up σ (pc_d m) 4 (nI 24) 0 7 = 0 := by rw [low 0 (by decide)]; exact hc
  have D : ∀ m', m' < n → pc_pmk (vv_up σ (pc_d m) 4 (nI 24)) n o r 0 (pc_d m') = vv_up σ (pc_d m) 4 (nI 24) (pc_d m') := fun m' hm' => by rw [pc_pmk_d0 hm']; exact if_neg (fun z => cv z.1)
  refine pr_dn_same hR ⟨fun m' hm' => ?_, fun a a' ha ha' ea ea' => ?_⟩ (fun i hi => ?_) (fun i hi => ?_)
  · obtain ⟨p1, p2, p3, p4, p5, p6⟩ := h.mem hm'
    have q : ∀ i, 1 ≤ i → i < 4 → vv_up (pc_pmk (vv_up σ (pc_d m) 4 (nI 24)) n o r 0) (pc_d m) 3 (nI 0) (pc_d m' + i) = σ (pc_d m' + i) := fun i hi hi4 => by
      rw [vv_up_n (by unfold pc_d; omega), pc_pmk_d1 hi hi4, vv_up_n (by unfold pc_d; omega)]
    have w : ∀ i, i ≠ 0 → i ≠ 4 → i ≠ 5 → i ≠ 13 → vv_up (pm_mk (vv_up ρ 5 m v) n (ρ 0 15) (ρ 0 16)) 4 m (nI 0) i = ρ i := fun i h0 h4 h5 h13 => by
      rw [vv_up_n h4, pm_mk_not5 h5, pm_mk_o h0 h5 h13]
    unfold pr_mem pr_st
    rw [q 1 (by decide) (by decide), q 2 (by decide) (by decide), q 3 (by decide) (by decide), w 1 (by decide) (by decide) (by decide) (by decide), w 2 (by decide) (by decide) (by decide) (by decide), w 3 (by decide) (by decide) (by decide) (by decide), w 6 (by decide) (by decide) (by decide) (by decide), vv_up_s, pm_mk_not5 (by decide), pm_mk_o (by decide) (by decide) (by decide), vv_up_n (show 5 ≠ 4 by decide), pm_mk_5, vv_up_n (show 0 ≠ 5 by decide), if_neg c0, vv_up_s]
    by_cases e : m' = m
    · subst e
      rw [vv_up_s, D m' hm', vv_up_s, vv_upd_s, vv_upd_s, vv_upd_n (by decide), vv_upd_s, vv_upd_n (by decide), vv_upd_n (by decide)]
      exact ⟨p1, p2, p3, rfl, p5, Or.inl ⟨rfl, rfl⟩⟩
    · rw [vv_up_n (show pc_d m' ≠ pc_d m by unfold pc_d; omega), D m' hm', vv_up_n (show pc_d m' ≠ pc_d m by unfold pc_d; omega), vv_upd_n e, vv_upd_n e]
      exact ⟨p1, p2, p3, p4, p5, p6⟩
  · have q : ∀ j, j < n → ¬ vv_up (pc_pmk (vv_up σ (pc_d m) 4 (nI 24)) n o r 0) (pc_d m) 3 (nI 0) (pc_d j) 3 = 0 → ¬ σ (pc_d j) 3 = 0 := by
      intro j hj z y
      by_cases e : j = m
      · rw [e, vv_up_s, vv_upd_s] at z; exact z rfl
      · rw [vv_up_n (by unfold pc_d; omega), D j hj, vv_up_n (by unfold pc_d; omega)] at z; exact z y
    exact h.1.2 a a' ha ha' (q a ha ea) (q a' ha' ea')
  · rw [vv_up_n (by unfold pc_d; omega), pc_pmk_low low hi]
  · rw [vv_up_n (by omega), pm_mk_not5 (by omega)]
/-- the last stripe, and the power goes at the mark -/
theorem pr_bl_no (h : pr_Rel n σ ρ) {m o r : Nat} {v : Int32} (hm : m < n) (h2 : σ (pc_d m) 3 = nI 2) (hc : σ 0 7 = 0) : pr_Rel n (pc_pmk (vv_up σ (pc_d m) 4 (nI 24)) n o r 0) (pm_mk (vv_up ρ 5 m v) n (ρ 0 15) (ρ 0 16)) := by
  have low : ∀ i, i < 28 → vv_up σ (pc_d m) 4 (nI 24) i = σ i := fun i hi => vv_up_n (by unfold pc_d; omega)
  have hR := pr_mk_same h (o := o) (r := r)
  have c0 : ρ 0 19 = 0 := by rw [h.cut]; exact hc
  have cv : vv_up σ (pc_d m) 4 (nI 24) 0 7 = 0 := by rw [low 0 (by decide)]; exact hc
  have D : ∀ m', m' < n → pc_pmk (vv_up σ (pc_d m) 4 (nI 24)) n o r 0 (pc_d m') = pc_pmk σ n o r 0 (pc_d m') := fun m' hm' => by
    rw [pc_pmk_d0 hm', pc_pmk_d0 hm']
    by_cases e : m' = m
    · subst e
      rw [vv_up_s, if_pos ⟨cv, by rw [vv_upd_n (by decide)]; exact h2⟩, if_pos ⟨hc, h2⟩, pr_upd2]
    · rw [vv_up_n (show pc_d m' ≠ pc_d m by unfold pc_d; omega), low 0 (by decide)]
  have D1 : ∀ m' i, i < 4 → m' < n → pc_pmk (vv_up σ (pc_d m) 4 (nI 24)) n o r 0 (pc_d m' + i) = pc_pmk σ n o r 0 (pc_d m' + i) := fun m' i hi hm' => by
    rcases Nat.eq_zero_or_pos i with z | z
    · subst z; exact D m' hm'
    · rw [pc_pmk_d1 z hi, pc_pmk_d1 z hi, vv_up_n (by unfold pc_d; omega)]
  have E : ∀ i, pm_mk (vv_up ρ 5 m v) n (ρ 0 15) (ρ 0 16) i = pm_mk ρ n (ρ 0 15) (ρ 0 16) i := fun i => by
    by_cases e : i = 5
    · subst e
      rw [pm_mk_5, pm_mk_5, vv_up_n (show 0 ≠ 5 by decide), if_pos c0, if_pos c0, vv_up_s]
      funext j
      by_cases hj : j < n
      · rw [if_pos hj, if_pos hj]
      · rw [if_neg hj, if_neg hj, vv_upd_n (by omega)]
    · exact pm_mk_not5 e
  refine pr_dn_same hR ⟨fun m' hm' => (hR.mem hm').same (fun i hi => D1 m' i hi hm') (fun i _ _ => E i), fun a a' ha ha' ea ea' => ?_⟩ (fun i hi => pc_pmk_low low hi) (fun i hi => E i)
  rw [D a ha] at ea
  rw [D a' ha'] at ea'
  exact hR.1.2 a a' ha ha' ea ea'
/-- a stripe is built up -/
theorem pr_bst (h : pr_Rel n σ ρ) (hn3 : 3 ≤ n) (hn : n ≤ 6) {m s : Nat} (hm : m < n) (h2 : σ (pc_d m) 3 = nI 2) (h4 : σ (pc_d m) 4 = nI s) (hs : s < 24) :
    pr_B n (pc_bst σ n (pc_o σ) (pc_r σ) m s) (pm_bu ρ n m s (pm_t ρ)) ∧ ((pc_bst σ n (pc_o σ) (pc_r σ) m s).1 = true → ((pc_bst σ n (pc_o σ) (pc_r σ) m s).2 (pc_d m) 3 = nI 2 ∧ (pc_bst σ n (pc_o σ) (pc_r σ) m s).2 (pc_d m) 4 = nI (s + 1) ∧ s + 1 < 24) ∨ (pc_bst σ n (pc_o σ) (pc_r σ) m s).2 (pc_d m) 3 = 0) := by
  have hq := pc_upto_le (σ := σ) (o := pc_o σ) (s := s) (pc_r σ)
  have hd := pr_dr hn3 hn _ σ ρ h hq
  have ht : pm_t (pm_dq n (pc_upto σ (pc_o σ) s (pc_r σ)) ρ).2 = pm_t ρ := (pm_dq_J _ ρ h.J (by rw [h.r]; exact hq)).2
  have s3 := pc_dr_st (n := n) (m := m) (j := 3) (by decide) (pc_upto σ (pc_o σ) s (pc_r σ)) σ
  have s4 := pc_dr_st (n := n) (m := m) (j := 4) (by decide) (pc_upto σ (pc_o σ) s (pc_r σ)) σ
  unfold pc_bst pm_bu pm_bm pm_b2 pm_bd
  rw [h.r, pr_up h _ (Nat.le_refl _), ← hd.1]
  generalize pc_dr n (pc_upto σ (pc_o σ) s (pc_r σ)) σ = D at *
  generalize pm_dq n (pc_upto σ (pc_o σ) s (pc_r σ)) ρ = E at *
  obtain ⟨b1, τ⟩ := D
  obtain ⟨b2, κ⟩ := E
  obtain ⟨-, hR⟩ := hd
  dsimp only at *
  by_cases a : b1 = true
  · rw [if_pos a, if_pos a]
    have t3 : τ (pc_d m) 3 = nI 2 := (s3 a).trans h2
    have t4 : τ (pc_d m) 4 = nI s := (s4 a).trans h4
    have ho := pr_oth hR.1 hm hn hs
    have hB := pr_b1 hR hn3 hn hm hs
    rw [ht] at hB
    by_cases c : pc_oth τ n m s ∧ τ 0 7 = 0
    · have c' : pm_oth κ n (nI m) s ∧ κ 0 19 = 0 := ⟨ho.mpr c.1, by rw [hR.cut]; exact c.2⟩
      rw [if_pos c, if_pos c']
      exact ⟨⟨rfl, hB⟩, fun z => absurd z Bool.false_ne_true⟩
    · have c' : ¬ (pm_oth κ n (nI m) s ∧ κ 0 19 = 0) := fun z => c ⟨ho.mp z.1, by rw [← hR.cut]; exact z.2⟩
      rw [if_neg c, if_neg c']
      have u3 : pc_bs1 τ n m s (pc_d m) 3 = nI 2 := (pc_bs1_st c (by decide)).trans t3
      have u4 : pc_bs1 τ n m s (pc_d m) 4 = nI s := (pc_bs1_st c (by decide)).trans t4
      unfold pc_bs2
      generalize pc_bs1 τ n m s = τ1 at *
      generalize pm_b1 κ n m s (pm_t ρ) = κ1 at *
      have e5 := pr_st2 hB hm u3 u4 hs
      rw [vv_up_s, vv_upd_s, vv_up_n (show 0 ≠ 5 by decide), vv_up_n (show 0 ≠ pc_d m by unfold pc_d; omega)]
      by_cases d : s + 1 < 24
      · have d' : ¬ κ1 5 m + nI 1 = nI 24 := by rw [e5, nI_add]; exact fun z => by have := (nI_eq (by omega) (by omega)).mp z; omega
        rw [if_pos d, if_neg d']
        exact ⟨⟨rfl, pr_b2 hB hm u3 u4 d⟩, fun _ => Or.inl ⟨by show vv_up τ1 (pc_d m) 4 (nI (s + 1)) (pc_d m) 3 = _; rw [vv_up_s, vv_upd_n (by decide)]; exact u3, by show vv_up τ1 (pc_d m) 4 (nI (s + 1)) (pc_d m) 4 = _; rw [vv_up_s, vv_upd_s], d⟩⟩
      · have es : s + 1 = 24 := by omega
        have d' : κ1 5 m + nI 1 = nI 24 := by rw [e5, nI_add, es]
        rw [if_neg d, if_pos d', es]
        by_cases g : τ1 0 7 = 0
        · have g' : κ1 0 19 = 0 := by rw [hB.cut]; exact g
          rw [if_pos g, if_pos g']
          exact ⟨⟨rfl, pr_bl_no hB hm u3 g⟩, fun z => absurd z Bool.false_ne_true⟩
        · have g' : ¬ κ1 0 19 = 0 := by rw [hB.cut]; exact g
          rw [if_neg g, if_neg g']
          exact ⟨⟨rfl, pr_bl_ok hB hm g⟩, fun _ => Or.inr (by show vv_up _ (pc_d m) 3 (nI 0) (pc_d m) 3 = 0; rw [vv_up_s, vv_upd_s]; rfl)⟩
  · rw [if_neg a, if_neg a]
    exact ⟨⟨rfl, hR⟩, fun z => absurd z Bool.false_ne_true⟩
/-- building goes on -/
theorem pr_bl (hn3 : 3 ≤ n) (hn : n ≤ 6) {m : Nat} (hm : m < n) : ∀ (f : Nat) (σ ρ : vv_S), pr_Rel n σ ρ → ¬ σ (pc_d m) 3 = nI 1 → pr_B n (pc_bl n m f σ) (pm_bl n m f ρ) ∧ pm_bok n m f ρ ∧ ((pc_bl n m f σ).1 = true → ¬ (pc_bl n m f σ).2 (pc_d m) 3 = nI 1)
  | 0, σ, ρ, h, h1 => ⟨⟨rfl, h⟩, trivial, fun _ => h1⟩
  | f + 1, σ, ρ, h, h1 => by
    have p4 := (h.mem hm).2.2.2.1
    unfold pc_bl pm_bl pm_bok
    rcases (h.mem hm).2.2.2.2.2 with q | q | ⟨q, b, q1, q2, q3⟩
    · have e : pc_b σ m = 24 := pc_b_eq q.2 (Nat.le_refl _)
      have n4 : ¬ ρ 4 m = nI 2 := by rw [p4, q.1]; decide
      rw [if_neg (by omega), if_neg n4]
      exact ⟨⟨rfl, h⟩, fun z => absurd z n4, fun _ => h1⟩
    · exact absurd q.1 h1
    · have e : pc_b σ m = b := pc_b_eq q2 (by omega)
      have eb : pm_bb ρ m = b := by unfold pm_bb; rw [q3, nI_clamp (by omega)]
      have y4 : ρ 4 m = nI 2 := by rw [p4, q]
      have hst := pr_bst h hn3 hn hm q q2 q1
      rw [e, eb, if_pos q1, if_pos y4, ← hst.1.1]
      by_cases a : (pc_bst σ n (pc_o σ) (pc_r σ) m b).1 = true
      · have n1 : ¬ (pc_bst σ n (pc_o σ) (pc_r σ) m b).2 (pc_d m) 3 = nI 1 := by
          rcases hst.2 a with z | z
          · rw [z.1]; decide
          · rw [z]; decide
        have ih := pr_bl hn3 hn hm f _ _ hst.1.2 n1
        rw [if_pos a, if_pos a]
        exact ⟨ih.1, fun _ => ⟨h.J, q3, q1, fun _ => ih.2.1⟩, ih.2.2⟩
      · rw [if_neg a, if_neg a]
        exact ⟨⟨rfl, hst.1.2⟩, fun _ => ⟨h.J, q3, q1, fun z => absurd z a⟩, fun z => absurd z Bool.false_ne_true⟩
theorem pr_bok (h : pr_Rel n σ ρ) (hn3 : 3 ≤ n) (hn : n ≤ 6) {x : Int32} : pm_bok n (pm_nt ρ n 0).toNatClampNeg x.toNatClampNeg ρ := by
  by_cases z : pm_nt ρ n 0 = -1
  · have all0 := (pr_nt_m1 h.1 hn).mp z
    rw [z]
    show pm_bok n 0 x.toNatClampNeg ρ
    cases x.toNatClampNeg with
    | zero => trivial
    | succ f =>
      unfold pm_bok
      intro y
      rw [(h.mem (show 0 < n by omega)).2.2.2.1, all0 0 (by omega)] at y
      exact absurd y (by decide)
  · have hm := (pm_nt_nat hn z).2
    by_cases y : σ (pc_d (pm_nt ρ n 0).toNatClampNeg) 3 = nI 1
    · cases x.toNatClampNeg with
      | zero => trivial
      | succ f =>
        unfold pm_bok
        intro w
        rw [(h.mem hm).2.2.2.1, y] at w
        exact absurd w (by decide)
    · exact (pr_bl hn3 hn hm _ σ ρ h y).2.1
theorem pr_build (h : pr_Rel n σ ρ) (hn3 : 3 ≤ n) (hn : n ≤ 6) {x : Int32} : pr_A n (pc_build σ n x) (pm_build ρ n x) := by
  unfold pc_build pm_build
  rw [h.down]
  by_cases c : σ 0 6 = 0
  · rw [if_pos c, if_pos c]
    by_cases a : x < nI 1
    · have a' : ¬ (¬ x < nI 1 ∧ x ≤ nI 24) := fun z => z.1 a
      rw [if_pos a, if_neg a']; exact ⟨rfl, h⟩
    · rw [if_neg a]
      by_cases b : x ≤ nI 24
      · have b' : ¬ x < nI 1 ∧ x ≤ nI 24 := ⟨a, b⟩
        rw [if_pos b, if_pos b']
        rcases pr_mt h.1 hn (x := nI 2) (by decide) with ⟨p, q⟩ | ⟨p, q, d, e⟩
        · rw [if_pos p]
          rcases q with q | ⟨q, d⟩
          · rw [if_pos q]; exact ⟨rfl, h⟩
          · rw [if_neg q, if_neg d]; exact ⟨rfl, h⟩
        · rw [if_neg p, if_neg q, if_pos e, d]
          have hmt := pc_mt_nat hn p
          generalize (pc_mt σ (nI 2) n 0).toNatClampNeg = m at *
          have hb := pr_bl hn3 hn hmt.2.1 x.toNatClampNeg σ ρ h (by rw [hmt.2.2]; decide)
          rw [← hb.1.1]
          by_cases g : (pc_bl n m x.toNatClampNeg σ).1 = true
          · rw [if_pos g, if_pos g]
            refine pr_A.mk ?_ hb.1.2
            have n1 := hb.2.2 g
            have hR := hb.1.2
            rw [(hR.mem hmt.2.1).2.2.2.1]
            rcases (hR.mem hmt.2.1).2.2.2.2.2 with q | q | ⟨q, b, q1, q2, q3⟩
            · rw [pc_b_eq q.2 (Nat.le_refl _), q.1, if_neg (by decide), Nat.sub_self]
            · exact absurd q.1 n1
            · rw [pc_b_eq q2 (by omega), q, if_pos rfl, q3, pk_sub (by omega)]
          · rw [if_neg g, if_neg g]; exact pr_A.mk rfl hb.1.2
      · have b' : ¬ (¬ x < nI 1 ∧ x ≤ nI 24) := fun z => b z.2
        rw [if_neg b, if_neg b']; exact ⟨rfl, h⟩
  · rw [if_neg c, if_neg c]; exact ⟨rfl, h⟩
end PRREL8
