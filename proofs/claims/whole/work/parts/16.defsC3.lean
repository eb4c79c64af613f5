/-! WRITING A STRIPE, BUILDING UP, SCRUBBING, as functions of the store -/
theorem vv_lsw {Y : vv_Y} {nL : Nat} {Z : vv_Z} {cc : ByteArray} {ret : Option FieldType} {Ts : List Cond} {own : String} {rm : Room} {σ : vv_S} {pc : Nat} {L : List (Nat × Value)} {st : List Value} (hC : vv_C Y nL Z cc ret Ts own rm) {dflt : Int} {ps : Array (Int × Int)} {len : Nat} {x : Int32} {off : Int} {tgt : Nat} (hd : decode cc pc = .ok (.lookupswitch dflt ps, len)) (hp : (ps.toList.zip (ps.toList.drop 1)).all (fun (a, next) => a.1 < next.1) = true) (ho : Op.lookupswitch.offset ps.toList dflt x.toInt = off) (ht : (pc : Int) + off = (tgt : Int)) (h : vv_V Y nL Z σ tgt L st) : vv_V Y nL Z σ pc L (.int x :: st) := by
  obtain ⟨p, l, e, R, s, m, args, below, meth, c, post⟩ := Z
  obtain ⟨ok, hx, hb, hml, hr, hown, hlk, hts, hK, hR⟩ := hC
  intro H locs ls hP hS hl
  exact lv_lookup hx hb hd hp ho ht (h H locs ls hP hS hl)
def pc_need (n : Nat) (w x : Int32) : Int32 := if w = nI 2 then x ||| (nI 1 <<< (nI (n - 1) &&& 31)) else if w = nI 3 then pc_all n &&& (x ^^^ (-1)) else nI 0
abbrev pc_hv (σ : vv_S) (n o r s : Nat) (x : Int32) : Prop := ∀ p, p < n → pc_bit x p → ¬ pc_nn σ n o r s p
def pc_way (σ : vv_S) (n o r s : Nat) (x : Int32) : Int32 :=
  if x = pc_all n then nI 0 else if pc_on σ (pc_pm n s) s then
    (if pc_hv σ n o r s (pc_need n (nI 2) x) then (if pc_hv σ n o r s (pc_need n (nI 3) x) then (if pc_bc (pc_need n (nI 3) x) < pc_bc (pc_need n (nI 2) x) then nI 3 else nI 2) else nI 2)
     else if pc_hv σ n o r s (pc_need n (nI 3) x) then nI 3 else -1) else nI 1
theorem pc_way_or {σ : vv_S} {n o r s : Nat} {x : Int32} : pc_way σ n o r s x = -1 ∨ ∃ k, k ≤ 3 ∧ pc_way σ n o r s x = nI k := by
  unfold pc_way
  split
  · exact Or.inr ⟨0, by decide, rfl⟩
  · split
    · split
      · split
        · split
          · exact Or.inr ⟨3, by decide, rfl⟩
          · exact Or.inr ⟨2, by decide, rfl⟩
        · exact Or.inr ⟨2, by decide, rfl⟩
      · split
        · exact Or.inr ⟨3, by decide, rfl⟩
        · exact Or.inl rfl
    · exact Or.inr ⟨1, by decide, rfl⟩
def pc_cn (x : Int32) : Nat := (pc_cells x).toNatClampNeg
theorem pc_cells_nat (x : Int32) : ∃ c, 2 ≤ c ∧ c ≤ 65 ∧ pc_cells x = nI c := by
  obtain ⟨j, h1, h2⟩ := pk_andE (pc_bc5 (pc_bc4 (pc_bc3 (pc_bc2 (pc_bc1 x))))) (m := nI 63) 6 (by decide)
  refine ⟨j + 2, by omega, by omega, ?_⟩
  unfold pc_cells pc_bc
  rw [h2, nI_add]
theorem pc_cn_is (x : Int32) : pc_cells x = nI (pc_cn x) := by
  obtain ⟨c, h1, h2, h3⟩ := pc_cells_nat x
  unfold pc_cn
  rw [h3, nI_clamp (by omega)]
theorem pc_cn_le (x : Int32) : pc_cn x ≤ 65 := by
  obtain ⟨c, h1, h2, h3⟩ := pc_cells_nat x
  unfold pc_cn
  rw [h3, nI_clamp (by omega)]
  exact h2
def pc_apa (e p : Nat) (τ : vv_S) : vv_S := if pc_bit (τ (pc_e e) 2) p then vv_row τ 5 (pc_mx τ (τ 5) (pc_e e + 1) (p * 8)) else τ
def pc_apb (n o r s : Nat) (w : Int32) (p : Nat) (τ : vv_S) : vv_S := if pc_bit w p then (if pc_lat τ o s p r = none then pc_tl (vv_row τ 5 (pc_mxn τ n o r s p)) 3 else vv_row τ 5 (pc_mxn τ n o r s p)) else τ
def pc_apr (n e o r s : Nat) (w : Int32) : Nat → Nat → vv_S → vv_S
  | 0, _, τ => τ
  | f + 1, p, τ => pc_apr n e o r s w f (p + 1) (pc_apb n o r s w p (pc_apa e p τ))
theorem pc_apa_o {e p i : Nat} {τ : vv_S} (h : i ≠ 5) : pc_apa e p τ i = τ i := by
  unfold pc_apa
  split
  · exact vv_row_n h
  · rfl
theorem pc_apb_o {n o r s p i : Nat} {w : Int32} {τ : vv_S} (h4 : i ≠ 4) (h5 : i ≠ 5) : pc_apb n o r s w p τ i = τ i := by
  unfold pc_apb
  split
  · split
    · rw [pc_tl_o h4, vv_row_n h5]
    · exact vv_row_n h5
  · rfl
theorem pc_apr_o {n e o r s i : Nat} {w : Int32} (h4 : i ≠ 4) (h5 : i ≠ 5) : ∀ (f p : Nat) (τ : vv_S), pc_apr n e o r s w f p τ i = τ i
  | 0, _, _ => rfl
  | f + 1, p, τ => by unfold pc_apr; rw [pc_apr_o h4 h5 f, pc_apb_o h4 h5, pc_apa_o h5]
def pc_ap (σ : vv_S) (n e o r s : Nat) : vv_S := pc_aw (pc_apr n e o r s (pc_need n (σ (pc_e e) 3) (σ (pc_e e) 2)) n 0 (pc_clr σ)) e (n - 1)
/-- the data of a stripe's record -/
def pc_wl (n e f : Nat) (v : Int32) : Nat → Nat → vv_S → vv_S
  | 0, _, τ => τ
  | g + 1, b, τ => pc_wl n e f v g (b + 1) (pc_ad τ e (b % (n - 1)) (v + nI (8 * (b - f))))
def pc_bgn (σ : vv_S) (e s : Nat) : vv_S := vv_up (vv_up σ (pc_e e) 1 (nI s)) (pc_e e) 2 (nI 0)
def pc_ws1 (σ : vv_S) (n o r s f t : Nat) (v : Int32) : vv_S := pc_wl n (pc_re o r) f v (t + 1 - f) f (pc_bgn σ (pc_re o r) s)
def pc_wsw (σ : vv_S) (n o r s f t : Nat) (v : Int32) : Int32 := pc_way (pc_ws1 σ n o r s f t v) n o r s (pc_ws1 σ n o r s f t v (pc_e (pc_re o r)) 2)
def pc_ws2 (σ : vv_S) (n o r s f t : Nat) (v : Int32) : vv_S := vv_up (pc_ws1 σ n o r s f t v) (pc_e (pc_re o r)) 3 (pc_wsw σ n o r s f t v)
def pc_ws3 (σ : vv_S) (n o r s f t : Nat) (v : Int32) : vv_S := if pc_wsw σ n o r s f t v = nI 1 then pc_ws2 σ n o r s f t v else pc_ap (pc_ws2 σ n o r s f t v) n (pc_re o r) o r s
def pc_wsq (τ : vv_S) (o r : Nat) : Nat := pc_tf τ o r (pc_cells (τ (pc_e (pc_re o r)) 2)) r 0
def pc_am0 (τ : vv_S) : vv_S := vv_up (vv_up τ 2 3 (τ 2 3 + pc_cells (τ (pc_e (pc_re (pc_o τ) (pc_r τ))) 2))) 2 2 (nI (pc_r τ + 1))
def pc_am (τ : vv_S) (w : Nat) : vv_S := pc_tl (pc_tl (pc_am0 τ) 4) (9 + w)
def pc_wsd (τ : vv_S) (n o r : Nat) : Bool × vv_S := pc_dr n (pc_wsq τ o r) τ
def pc_wsc (τ : vv_S) (n e : Nat) : Bool × vv_S := pc_pcs n (pc_cn (τ (pc_e e) 2)) τ
/-- the whole of it: the answer (0, FAILED, LOST) and the store -/
def pc_wst (σ : vv_S) (n o r s f t : Nat) (v : Int32) : Int32 × vv_S :=
  if pc_wsw σ n o r s f t v = -1 then (-105, pc_ws2 σ n o r s f t v) else
  if (pc_wsd (pc_ws3 σ n o r s f t v) n o r).1 = true then
    (if (pc_wsc (pc_wsd (pc_ws3 σ n o r s f t v) n o r).2 n (pc_re o r)).1 = true
     then (nI 0, pc_am (pc_wsc (pc_wsd (pc_ws3 σ n o r s f t v) n o r).2 n (pc_re o r)).2 (pc_wsw σ n o r s f t v).toNatClampNeg)
     else (-106, (pc_wsc (pc_wsd (pc_ws3 σ n o r s f t v) n o r).2 n (pc_re o r)).2))
  else (-106, (pc_wsd (pc_ws3 σ n o r s f t v) n o r).2)
theorem pc_tf_le {σ : vv_S} {o r : Nat} {c : Int32} : ∀ f k, k ≤ r → pc_tf σ o r c f k ≤ r
  | 0, k, h => h
  | f + 1, k, h => by
    unfold pc_tf
    split
    · exact pc_tf_le f (k + 1) (by omega)
    · exact h
theorem pc_upto_le {σ : vv_S} {o s : Nat} : ∀ r, pc_upto σ o s r ≤ r
  | 0 => Nat.le_refl 0
  | r + 1 => by
    unfold pc_upto
    split
    · exact Nat.le_refl _
    · have := pc_upto_le (σ := σ) (o := o) (s := s) r; omega
/-- drained: the journal's numbers stay in their ranges, other rows below 28 stay -/
theorem pc_dr_all {n : Nat} : ∀ (q : Nat) (τ : vv_S), pc_J τ → q ≤ pc_r τ → pc_J (pc_dr n q τ).2 ∧ (∀ i, i < 28 → i ≠ 0 → i ≠ 2 → i ≠ 4 → (pc_dr n q τ).2 i = τ i)
  | 0, τ, h, _ => ⟨h, fun _ _ _ _ _ => rfl⟩
  | q + 1, τ, h, hq => by
    have he : ∀ e, e < 11 → (pc_d1 n τ).2 (pc_e e) = τ (pc_e e) := fun e he => pc_pe_o (pc_e_lt he) (pc_e_ne (by decide)) (pc_e_ne (by decide))
    have h2 : (pc_d1 n τ).2 2 = τ 2 := pc_pe_o (by decide) (by decide) (by decide)
    unfold pc_dr
    split
    · split
      · rename_i hc
        refine ⟨h.same ?_ (fun e h1 => ?_), fun i a b c d => ?_⟩
        · rw [show (false, pc_pmk (pc_d1 n τ).2 n (pc_o τ) (pc_r τ) 1).2 = pc_pmk (pc_d1 n τ).2 n (pc_o τ) (pc_r τ) 1 from rfl, pc_pmk_d hc, h2]
        · rw [show (false, pc_pmk (pc_d1 n τ).2 n (pc_o τ) (pc_r τ) 1).2 = pc_pmk (pc_d1 n τ).2 n (pc_o τ) (pc_r τ) 1 from rfl, pc_pmk_o (pc_e_lt h1) (pc_e_ne (by decide)) (pc_e_ne (by decide)) (pc_e_ne (by decide)), he e h1]
        · rw [show (false, pc_pmk (pc_d1 n τ).2 n (pc_o τ) (pc_r τ) 1).2 = pc_pmk (pc_d1 n τ).2 n (pc_o τ) (pc_r τ) 1 from rfl, pc_pmk_o a b c d]
          exact pc_pe_o a b d
      · rename_i hc
        have hJ := pc_dr_J h (by omega) hc
        have hr := pc_r_eq hJ.2 (by have := h.2.2.2.1; omega)
        obtain ⟨i1, i2⟩ := pc_dr_all q _ hJ.1 (by rw [hr]; omega)
        refine ⟨i1, fun i a b c d => ?_⟩
        rw [i2 i a b c d, pc_tl_o d, pc_pmk_o a b c d]
        exact pc_pe_o a b d
    · exact ⟨h.same h2 (fun e h1 => congrFun (he e h1) 1), fun i a b c d => pc_pe_o a b d⟩
theorem pc_pcs_o {n i : Nat} (h : i < 28) (h0 : i ≠ 0) (h4 : i ≠ 4) : ∀ (c : Nat) (τ : vv_S), (pc_pcs n c τ).2 i = τ i
  | 0, _ => rfl
  | c + 1, τ => by
    unfold pc_pcs
    split
    · rw [show (false, pc_pw (pc_tl τ 1) n).2 = pc_pw (pc_tl τ 1) n from rfl, pc_pw_o (Or.inl h) h0 h4, pc_tl_o h4]
    · rw [pc_pcs_o h h0 h4 c, pc_pw_o (Or.inl h) h0 h4, pc_tl_o h4]
theorem pc_J.pcs {n c : Nat} {τ : vv_S} (h : pc_J τ) : pc_J (pc_pcs n c τ).2 := h.same (pc_pcs_o (by decide) (by decide) (by decide) c τ) (fun e he => congrFun (pc_pcs_o (pc_e_lt he) (pc_e_ne (by decide)) (pc_e_ne (by decide)) c τ) 1)
/-- building up a stripe -/
def pc_bs1 (τ : vv_S) (n m s : Nat) : vv_S := if pc_oth τ n m s then pc_pox (vv_up τ 4 3 (τ 4 3 + nI (n - 1))) n m s else pc_tl (vv_up τ (pc_d m + 3) s (nI 1)) 8
def pc_bs2 (τ : vv_S) (n m s : Nat) : vv_S := vv_up (pc_bs1 τ n m s) (pc_d m) 4 (nI (s + 1))
def pc_bst (σ : vv_S) (n o r m s : Nat) : Bool × vv_S :=
  if (pc_dr n (pc_upto σ o s r) σ).1 = true then
    (if pc_oth (pc_dr n (pc_upto σ o s r) σ).2 n m s ∧ (pc_dr n (pc_upto σ o s r) σ).2 0 7 = 0 then (false, pc_bs1 (pc_dr n (pc_upto σ o s r) σ).2 n m s)
     else if s + 1 < 24 then (true, pc_bs2 (pc_dr n (pc_upto σ o s r) σ).2 n m s)
     else if pc_bs2 (pc_dr n (pc_upto σ o s r) σ).2 n m s 0 7 = 0 then (false, pc_pmk (pc_bs2 (pc_dr n (pc_upto σ o s r) σ).2 n m s) n (pc_o (pc_dr n (pc_upto σ o s r) σ).2) (pc_r (pc_dr n (pc_upto σ o s r) σ).2) 0)
     else (true, vv_up (pc_pmk (pc_bs2 (pc_dr n (pc_upto σ o s r) σ).2 n m s) n (pc_o (pc_dr n (pc_upto σ o s r) σ).2) (pc_r (pc_dr n (pc_upto σ o s r) σ).2) 0) (pc_d m) 3 (nI 0)))
  else (false, (pc_dr n (pc_upto σ o s r) σ).2)
theorem pc_xst_o {σ : vv_S} {n s i : Nat} {x : Int32} (h : i ≠ 5) : pc_xst σ n x s i = σ i := by
  unfold pc_xst pc_clr
  rw [vv_row_n h, vv_row_n h]
theorem pc_bs1_o {τ : vv_S} {n m s i : Nat} (h : i < 28) (h0 : i ≠ 0) (h4 : i ≠ 4) (h5 : i ≠ 5) : pc_bs1 τ n m s i = τ i := by
  unfold pc_bs1
  split
  · unfold pc_pox
    rw [pc_pch_o h h0 h4, pc_xst_o h5, vv_up_n h4]
  · rw [pc_tl_o h4, vv_up_n (by unfold pc_d; omega)]
theorem pc_bs2_o {τ : vv_S} {n m s i : Nat} (h : i < 28) (h0 : i ≠ 0) (h4 : i ≠ 4) (h5 : i ≠ 5) : pc_bs2 τ n m s i = τ i := by
  unfold pc_bs2
  rw [vv_up_n (by unfold pc_d; omega), pc_bs1_o h h0 h4 h5]
/-- scrubbing a stripe -/
def pc_sc0 (σ : vv_S) (n : Nat) : vv_S := vv_up σ 4 3 (σ 4 3 + nI n)
def pc_scx (σ : vv_S) (n s : Nat) : vv_S := pc_xst (pc_sc0 σ n) n (-1) s
def pc_sst (σ : vv_S) (n s : Nat) : Bool × vv_S :=
  if 1 < pc_cnt (pc_sc0 σ n) s n then (true, pc_sc0 σ n) else
  if pc_cnt (pc_sc0 σ n) s n = 0 then
    (if pc_z8 (pc_scx σ n s 5) = true then (true, pc_scx σ n s) else if pc_scx σ n s 0 7 = 0 then (false, pc_pox (pc_scx σ n s) n (pc_pm n s) s) else (true, pc_tl (pc_pox (pc_scx σ n s) n (pc_pm n s) s) 7))
  else if pc_sc0 σ n 0 7 = 0 then (false, pc_pox (pc_sc0 σ n) n (pc_fnt (pc_sc0 σ n) s (n - 1) 0) s) else (true, pc_tl (pc_pox (pc_sc0 σ n) n (pc_fnt (pc_sc0 σ n) s (n - 1) 0) s) 7)
theorem pc_ad_o {τ : vv_S} {e p i : Nat} {v : Int32} (h : i ≠ pc_e e) (h1 : i ≠ pc_e e + 1) : pc_ad τ e p v i = τ i := by
  unfold pc_ad pc_or
  rw [vv_row_n h1, vv_up_n h]
theorem pc_ad_e {τ : vv_S} {e p j : Nat} {v : Int32} (h : j ≠ 2) : pc_ad τ e p v (pc_e e) j = τ (pc_e e) j := by
  unfold pc_ad pc_or
  rw [vv_row_n (by omega), vv_up_s, vv_upd_n h]
theorem pc_wl_o {n e f i : Nat} {v : Int32} (h : i ≠ pc_e e) (h1 : i ≠ pc_e e + 1) : ∀ (g b : Nat) (τ : vv_S), pc_wl n e f v g b τ i = τ i
  | 0, _, _ => rfl
  | g + 1, b, τ => by unfold pc_wl; rw [pc_wl_o h h1 g, pc_ad_o h h1]
theorem pc_wl_e {n e f j : Nat} {v : Int32} (h : j ≠ 2) : ∀ (g b : Nat) (τ : vv_S), pc_wl n e f v g b τ (pc_e e) j = τ (pc_e e) j
  | 0, _, _ => rfl
  | g + 1, b, τ => by unfold pc_wl; rw [pc_wl_e h g, pc_ad_e h]
theorem pc_ws1_o {σ : vv_S} {n o r s f t i : Nat} {v : Int32} (h : i ≠ pc_e (pc_re o r)) (h1 : i ≠ pc_e (pc_re o r) + 1) : pc_ws1 σ n o r s f t v i = σ i := by
  unfold pc_ws1 pc_bgn
  rw [pc_wl_o h h1, vv_up_n h, vv_up_n h]
theorem pc_ws1_1 {σ : vv_S} {n o r s f t : Nat} {v : Int32} : pc_ws1 σ n o r s f t v (pc_e (pc_re o r)) 1 = nI s := by
  unfold pc_ws1 pc_bgn
  rw [pc_wl_e (by decide), vv_up_s, vv_upd_n (by decide), vv_up_s, vv_upd_s]
theorem pc_ws2_o {σ : vv_S} {n o r s f t i : Nat} {v : Int32} (h : i ≠ pc_e (pc_re o r)) (h1 : i ≠ pc_e (pc_re o r) + 1) : pc_ws2 σ n o r s f t v i = σ i := by
  unfold pc_ws2
  rw [vv_up_n h, pc_ws1_o h h1]
theorem pc_ws2_e {σ : vv_S} {n o r s f t : Nat} {v : Int32} : pc_ws2 σ n o r s f t v (pc_e (pc_re o r)) 1 = nI s ∧ pc_ws2 σ n o r s f t v (pc_e (pc_re o r)) 3 = pc_wsw σ n o r s f t v := by
  unfold pc_ws2
  rw [vv_up_s]
  exact ⟨by rw [vv_upd_n (by decide), pc_ws1_1], vv_upd_s⟩
theorem pc_ap_o {σ : vv_S} {n e o r s i : Nat} (h : i ≠ pc_e e) (h1 : i ≠ pc_e e + 1) (h4 : i ≠ 4) (h5 : i ≠ 5) : pc_ap σ n e o r s i = σ i := by
  unfold pc_ap pc_aw pc_or
  rw [vv_row_n h1, vv_up_n h, pc_apr_o h4 h5]
  unfold pc_clr
  rw [vv_row_n h5]
theorem pc_ap_e {σ : vv_S} {n e o r s j : Nat} (h : j ≠ 2) : pc_ap σ n e o r s (pc_e e) j = σ (pc_e e) j := by
  unfold pc_ap pc_aw pc_or
  rw [vv_row_n (by omega), vv_up_s, vv_upd_n h, pc_apr_o (pc_e_ne (by decide)) (pc_e_ne (by decide))]
  unfold pc_clr
  rw [vv_row_n (pc_e_ne (by decide))]
theorem pc_ws3_o {σ : vv_S} {n o r s f t i : Nat} {v : Int32} (h : i ≠ pc_e (pc_re o r)) (h1 : i ≠ pc_e (pc_re o r) + 1) (h4 : i ≠ 4) (h5 : i ≠ 5) : pc_ws3 σ n o r s f t v i = σ i := by
  unfold pc_ws3
  split
  · exact pc_ws2_o h h1
  · rw [pc_ap_o h h1 h4 h5, pc_ws2_o h h1]
theorem pc_ws3_e {σ : vv_S} {n o r s f t : Nat} {v : Int32} : pc_ws3 σ n o r s f t v (pc_e (pc_re o r)) 1 = nI s ∧ pc_ws3 σ n o r s f t v (pc_e (pc_re o r)) 3 = pc_wsw σ n o r s f t v := by
  unfold pc_ws3
  split
  · exact pc_ws2_e
  · exact ⟨by rw [pc_ap_e (by decide)]; exact pc_ws2_e.1, by rw [pc_ap_e (by decide)]; exact pc_ws2_e.2⟩
theorem pc_e_inj {a b : Nat} (h : pc_e a = pc_e b) : a = b := by unfold pc_e at h; omega
theorem pc_ws3_J {σ : vv_S} {n o r s f t : Nat} {v : Int32} (h : pc_J σ) (hs : s < 24) : pc_J (pc_ws3 σ n o r s f t v) ∧ pc_ws3 σ n o r s f t v 2 = σ 2 := by
  have h2 : pc_ws3 σ n o r s f t v 2 = σ 2 := pc_ws3_o (by unfold pc_e; omega) (by unfold pc_e; omega) (by decide) (by decide)
  refine ⟨pc_J_of (by rw [h2]; exact h.1) h.2.1 (by rw [h2]; exact h.2.2.1) h.2.2.2.1 (fun e he => ?_), h2⟩
  by_cases hee : e = pc_re o r
  · rw [hee]
    exact ⟨s, hs, pc_ws3_e.1⟩
  · rw [pc_ws3_o (fun z => hee (pc_e_inj z)) (by unfold pc_e; omega) (pc_e_ne (by decide)) (pc_e_ne (by decide))]
    exact ⟨_, (h.2.2.2.2 e he).2, (h.2.2.2.2 e he).1⟩
