/-! THE CONSTRUCTOR of Journal (by program: wip/tools/ctors_2.py) -/
def ct_J (K : Nat → ClassId) (n k : Nat) (_ sz : Nat) (j : Nat) : va_E :=
  if j = 0 then .inr (2, [.ref sz, .int (nI 0), .int (nI 0), .int (nI 0), .int (nI 0), .int (nI 1)]) else if j = 1 then .inl (K 3, 11, .inr (.inr (.inr (.inr fun i => if i < k then some (sz + 1 + 2 * i) else none)))) else
  if j % 2 = 0 then .inr (1, [.ref (sz + j), .int (nI 0), .int (nI 0), .int (nI 0)]) else .inl (K 0, 8 * n, .inl fun _ => 0)
theorem ct_J_step {K : Nat → ClassId} {n k h0 sz j : Nat} {ct : Nat → va_E} (hj : j < 4 + 2 * k) (h1 : ct 1 = .inl (K 3, 11, .inr (.inr (.inr (.inr (va_up (fun i => if i < k then some (sz + 1 + 2 * i) else none) k (some (sz + 1 + 2 * k)))))))) (ho : ∀ j, j ≠ 1 → j < 2 + 2 * k → ct j = ct_J K n k h0 sz j) (h2 : ct (2 + 2 * k) = .inr (1, [.ref (sz + (2 + 2 * k)), .int (nI 0), .int (nI 0), .int (nI 0)])) (h3 : ct (3 + 2 * k) = .inl (K 0, 8 * n, .inl fun _ => 0)) : ct j = ct_J K n (k + 1) h0 sz j := by
  by_cases e1 : j = 1
  · subst e1
    rw [h1]
    unfold ct_J
    rw [if_neg (by decide), if_pos rfl]
    congr 7
    funext i
    unfold va_up
    by_cases z : i = k
    · rw [if_pos z, if_pos (by omega), z]
    · rw [if_neg z]
      dsimp only
      by_cases y : i < k
      · rw [if_pos y, if_pos (by omega)]
      · rw [if_neg y, if_neg (by omega)]
  · by_cases e2 : j < 2 + 2 * k
    · rw [ho j e1 e2]
      unfold ct_J
      rw [if_neg e1, if_neg e1]
    · by_cases e3 : j = 2 + 2 * k
      · rw [e3, h2]
        unfold ct_J
        rw [if_neg (by omega), if_neg (by omega), if_pos (by omega)]
      · rw [show j = 3 + 2 * k by omega, h3]
        unfold ct_J
        rw [if_neg (by omega), if_neg (by omega), if_neg (by omega)]
set_option maxHeartbeats 4000000 in
set_option maxRecDepth 100000 in
theorem ck_X2 (l : Launch) (D : va_G) (K : Nat → ClassId) (n : Nat) (hn : n ≤ 6) : cg_M l D K yX2_init wsX2_init { frames := 2, cells := 23, slots := 583, locals := 33 } 23 583 2 [.null, .int 0, .int 0, .int 0, .int 0, .int 0] [.int (nI n)] 23 (ct_J K n 11) := by
  intro h0 sz hh
  refine Met.ofW (cc := cX2_init) (maxL := 3) (ret := none) (by decide) rfl ?_
  intro p e s m args below meth c s₁ B hml hv
  obtain ⟨rfl, hsz, hA0, hK⟩ := hv
  have hx := B.exec
  have hb := B.bytes
  have hr := B.returns
  have hts := atoms_spec (ws := wsX2_init) B.pre
  have hown : s.vm.findClass RX2 = some m.cls := findClass_of_methodNamed B.named
  have hlocks := B.notSynchronized
  have hin : meth.name = "<init>" := (name_of_methodNamed B.named B.method).1
  have hI := cg_start hsz hh hA0
  have hl := lv_entry ([.ref h0, .int (nI n)]) (n := 3) (Nat.le_of_ble_eq_true rfl)
  rw [lg_entry_eq]
  generalize (lg_sl ([.ref h0, .int (nI n)]) ++ List.replicate (3 - (lg_sl ([.ref h0, .int (nI n)])).length) Slot.unset).toArray = ls at hl ⊢
  have hl : lv_has ls 3 [(0, .ref h0), (1, .int (nI n))] := hl
  have loop : ∀ (f k : Nat) (H : Heap) (locs : List Loc) (ls : Array Slot), k + f = 11 → cg_I D h0 sz (1 + 2 * k) (ct_J K n k h0 sz) s.heap H locs → lv_has ls 3 [(2, .int (nI k)), (0, .ref h0), (1, .int (nI n))] →
      W p l e (headSpec wsX2_init { frames := 2, cells := 23, slots := 583, locals := 33 }).room s m (Value.ref h0 :: [.int (nI n)]).toArray below meth c H locs (1 + 2 * k) (11 + 52 * k) (MQ below (cg_Qc D 23 (ct_J K n 11) h0 sz) (Value.ref h0 :: [.int (nI n)]).toArray s 23 583 (cg_A h0 sz)) (F0 m 40 ls []) := by
    intro f
    induction f with
    | zero =>
      intro k H locs ls hk hI hl
      have hk : k = 11 := by omega
      subst hk
      refine lv_iload_n hx hb dX2_init_40 rfl (lv_at hl 0 rfl) ?_
      refine lv_bipush (v := nI 11) hx hb dX2_init_41 (by decide) ?_
      refine lv_icmp_ge hx hb dX2_init_43 (tgt := 66) rfl (fun _ => ?_) (fun h => absurd (Int32.le_refl _) h)
      exact W.vret hx hb hr (fun t ht hW => ⟨⟨(), rfl, trivial, by rw [ht]; exact hI.2.2.1, by rw [ht]; exact hI.2.2.2.1⟩, hI.2.2.2.2.F ht⟩) hI.2.2.2.2.2.2 dX2_init_66
    | succ f ih =>
      intro k H locs ls hk hI hl
      have hk11 : k < 11 := by omega
      refine lv_iload_n hx hb dX2_init_40 rfl (lv_at hl 0 rfl) ?_
      refine lv_bipush (v := nI 11) hx hb dX2_init_41 (by decide) ?_
      refine lv_icmp_ge hx hb dX2_init_43 (tgt := 66) rfl (fun h => absurd ((nI_leI (by omega) (by omega)).mp h) (by omega)) (fun _ => ?_)
      refine lv_aload_n hx hb dX2_init_46 rfl (lv_at hl 1 rfl) ?_
      refine cg_get hx hb hts (by decide +kernel) hown hK hI (ci := 2) (fs := [.ref sz, .int (nI 0), .int (nI 0), .int (nI 0), .int (nI 0), .int (nI 1)]) rfl rfl 0 (by decide) (by decide +kernel) rfl rfl dX2_init_47 rfl ?_
      refine lv_iload_n hx hb dX2_init_50 rfl (lv_at hl 0 rfl) ?_
      have hc1 : 1 + 2 * k + 1 ≤ (headSpec wsX2_init { frames := 2, cells := 23, slots := 583, locals := 33 }).room.cells := Nat.le_trans (show 1 + 2 * k + 1 ≤ 23 by omega) (Nat.le_of_ble_eq_true rfl)
      have hs1 : 11 + 52 * k + 4 ≤ (headSpec wsX2_init { frames := 2, cells := 23, slots := 583, locals := 33 }).room.slots := Nat.le_trans (show 11 + 52 * k + 4 ≤ 583 by omega) (Nat.le_of_ble_eq_true rfl)
      have hc2 : 1 + 2 * k + 1 + 1 ≤ (headSpec wsX2_init { frames := 2, cells := 23, slots := 583, locals := 33 }).room.cells := Nat.le_trans (show 1 + 2 * k + 1 + 1 ≤ 23 by omega) (Nat.le_of_ble_eq_true rfl)
      have hs2 : 11 + 52 * k + 4 + 48 ≤ (headSpec wsX2_init { frames := 2, cells := 23, slots := 583, locals := 33 }).room.slots := Nat.le_trans (show 11 + 52 * k + 4 + 48 ≤ 583 by omega) (Nat.le_of_ble_eq_true rfl)
      refine cg_new hx hb hts (by decide +kernel) tyX1 tyX1_ok hown (by decide +kernel) (by decide +kernel) (by decide +kernel) hK hI (ci := 1) (fs := [.null, .int 0, .int 0, .int 0]) rfl (fun j hj => by rcases (show j = 0 ∨ j = 1 ∨ j = 2 ∨ j = 3 by omega) with rfl | rfl | rfl | rfl <;> rfl) hc1 hs1 dX2_init_51 rfl (fun H hI => ?_)
      refine lv_dup hx hb dX2_init_54 rfl ?_
      refine lv_iload_n hx hb dX2_init_55 rfl (lv_at hl 2 rfl) ?_
      refine cg_callN (As := [.int (nI n)]) (rest := [.ref (sz + (1 + 2 * k)), .int (nI k), .ref sz]) ⟨hx, hb, hml, hown, hts⟩ (ck_X1 l D K n hn) ⟨va_cnB 1 hts gX2_init_X1_init_n33 rfl rfl rfl (hK.1.2 (.methodLinkNest RX2 33 yX1_init "ParityRow") (show Cond.methodLinkNest RX2 33 yX1_init "ParityRow" ∈ pc_nw by decide +kernel)).2 (hts (.initialized RX1) (by decide +kernel)) (by decide +kernel) ⟨Nat.le_of_ble_eq_true rfl, Nat.le_of_ble_eq_true rfl⟩, rfl, hts (.instanceMethod yX1_init) (by decide +kernel)⟩ hK hI (by omega) (if_pos rfl) rfl hl.1 (by show _ = [_] ++ _ :: _; congr 2) (lv_room (Nat.le_of_ble_eq_true rfl)) dX2_init_56 ⟨hc2, hs2⟩ rfl (fun H locs hI => ?_)
      refine cg_ast hx hb hK hI 1 3 (2 + 2 * k) 1 (r := (RX1, TX1, 4)) (n := 11) (j := k) (f := fun i => if i < k then some (sz + 1 + 2 * i) else none) (vs := [.ref (sz + (2 + 2 * k)), .int (nI 0), .int (nI 0), .int (nI 0)]) (cA := K 3) (by omega) ?_ rfl (by omega) ?_ rfl rfl hk11 (by decide) (by rw [cg_ad_s (by omega)]; congr 1; omega) (by rw [cg_ad_s (by decide)]; rfl) dX2_init_59 rfl (fun H locs hI => ?_)
      · rw [if_pos (by omega)]
        unfold va_up
        rw [if_neg (by omega)]
        rfl
      · rw [if_neg (by omega), show 2 + 2 * k - (1 + 2 * k + 1) = 0 by omega, show 1 + 2 * k + 1 = 2 + 2 * k by omega]
        rfl
      refine lv_iinc hx hb dX2_init_60 hl (k := 0) rfl (v := nI (k + 1)) (show nI k + nI 1 = _ by rw [nI_add]) (by decide) rfl (fun ls hl => ?_)
      refine lv_goto hx hb dX2_init_63 (tgt := 40) rfl ?_
      refine W.widen (k := 1 + 2 * (k + 1)) (n := 11 + 52 * (k + 1)) (by omega) (by omega) ?_
      refine ih (k + 1) H locs ls (by omega) (hI.to (by omega) (fun j hj => ct_J_step (by omega) ?_ (fun i hi1 hi2 => ?_) ?_ ?_)) hl
      · unfold va_up
        rw [if_pos rfl, cg_ad_s (by omega)]
        congr 7
        funext i
        congr 2
        omega
      · unfold va_up
        rw [if_neg hi1]
        dsimp only
        rw [if_pos (by omega), if_neg (by omega)]
      · unfold va_up
        rw [if_neg (by omega)]
        dsimp only
        rw [if_neg (by omega), show 2 + 2 * k - (1 + 2 * k + 1) = 0 by omega, show 1 + 2 * k + 1 = 2 + 2 * k by omega]
        rfl
      · unfold va_up
        rw [if_neg (by omega)]
        dsimp only
        rw [if_neg (by omega), show 3 + 2 * k - (1 + 2 * k + 1) = 1 by omega]
        rfl
  refine lv_aload_n hx hb dX2_init_0 rfl (lv_at hl 0 rfl) ?_
  refine W.objInit hx hb hown (hts (.methodLink RX2 3 objectInit) (by decide +kernel)) (hts (.instanceMethod objectInit) (by decide +kernel)) (hts _ (List.mem_of_getElem? (i := 3) rfl)) rfl (by rw [hml]; exact hl.1) rfl dX2_init_1 (Nat.le_of_ble_eq_true rfl) (Nat.le_of_ble_eq_true rfl) ?_
  refine W.eq (g2 := F0 m 4 ls []) rfl ?_
  refine lv_aload_n hx hb dX2_init_4 rfl (lv_at hl 0 rfl) ?_
  refine lv_bipush (v := nI 11) hx hb dX2_init_5 (by decide) ?_
  refine cg_newq (C := RX1) (cA := K 3) hx hb hown (hts (.classLink RX2 9 RX1) (by decide +kernel)) hK.2.2 3 rfl hK hI (n := nI 11) (N' := 11) (nI_pos (by decide)) (nI_clamp (by decide)) (Nat.le_of_ble_eq_true rfl) (Nat.le_of_ble_eq_true rfl) (Nat.le_of_ble_eq_true rfl) dX2_init_7 rfl (fun H hI => ?_)
  refine cg_put hx hb hts (by decide +kernel) tyX2 tyX2_ok nmX2 hown hin hK hI (ci := 2) (fs := [.null, .int 0, .int 0, .int 0, .int 0, .int 0]) (v := .ref (sz + 0)) rfl rfl 0 (by decide) (by decide +kernel) rfl rfl rfl (Nat.le_of_ble_eq_true rfl) dX2_init_10 rfl (fun H locs hI => ?_)
  refine lv_aload_n hx hb dX2_init_13 rfl (lv_at hl 0 rfl) ?_
  refine lv_iconst (v := nI 0) hx hb dX2_init_14 (by decide) ?_
  refine cg_put hx hb hts (by decide +kernel) tyX2 tyX2_ok nmX2 hown hin hK hI (ci := 2) (fs := [.ref (sz + 0), .int 0, .int 0, .int 0, .int 0, .int 0]) (v := .int (nI 0)) rfl rfl 1 (by decide) (by decide +kernel) rfl rfl rfl (Nat.le_of_ble_eq_true rfl) dX2_init_15 rfl (fun H locs hI => ?_)
  refine lv_aload_n hx hb dX2_init_18 rfl (lv_at hl 0 rfl) ?_
  refine lv_iconst (v := nI 0) hx hb dX2_init_19 (by decide) ?_
  refine cg_put hx hb hts (by decide +kernel) tyX2 tyX2_ok nmX2 hown hin hK hI (ci := 2) (fs := [.ref (sz + 0), .int (nI 0), .int 0, .int 0, .int 0, .int 0]) (v := .int (nI 0)) rfl rfl 2 (by decide) (by decide +kernel) rfl rfl rfl (Nat.le_of_ble_eq_true rfl) dX2_init_20 rfl (fun H locs hI => ?_)
  refine lv_aload_n hx hb dX2_init_23 rfl (lv_at hl 0 rfl) ?_
  refine lv_iconst (v := nI 0) hx hb dX2_init_24 (by decide) ?_
  refine cg_put hx hb hts (by decide +kernel) tyX2 tyX2_ok nmX2 hown hin hK hI (ci := 2) (fs := [.ref (sz + 0), .int (nI 0), .int (nI 0), .int 0, .int 0, .int 0]) (v := .int (nI 0)) rfl rfl 3 (by decide) (by decide +kernel) rfl rfl rfl (Nat.le_of_ble_eq_true rfl) dX2_init_25 rfl (fun H locs hI => ?_)
  refine lv_aload_n hx hb dX2_init_28 rfl (lv_at hl 0 rfl) ?_
  refine lv_iconst (v := nI 0) hx hb dX2_init_29 (by decide) ?_
  refine cg_put hx hb hts (by decide +kernel) tyX2 tyX2_ok nmX2 hown hin hK hI (ci := 2) (fs := [.ref (sz + 0), .int (nI 0), .int (nI 0), .int (nI 0), .int 0, .int 0]) (v := .int (nI 0)) rfl rfl 4 (by decide) (by decide +kernel) rfl rfl rfl (Nat.le_of_ble_eq_true rfl) dX2_init_30 rfl (fun H locs hI => ?_)
  refine lv_aload_n hx hb dX2_init_33 rfl (lv_at hl 0 rfl) ?_
  refine lv_iconst (v := nI 1) hx hb dX2_init_34 (by decide) ?_
  refine cg_put hx hb hts (by decide +kernel) tyX2 tyX2_ok nmX2 hown hin hK hI (ci := 2) (fs := [.ref (sz + 0), .int (nI 0), .int (nI 0), .int (nI 0), .int (nI 0), .int 0]) (v := .int (nI 1)) rfl rfl 5 (by decide) (by decide +kernel) rfl rfl rfl (Nat.le_of_ble_eq_true rfl) dX2_init_35 rfl (fun H locs hI => ?_)
  refine lv_iconst (v := nI 0) hx hb dX2_init_38 (by decide) ?_
  refine lv_istore_n hx hb dX2_init_39 rfl hl (by decide) rfl (fun ls hl => ?_)
  refine W.widen (k := 1 + 2 * 0) (n := 11 + 52 * 0) (by omega) (by omega) ?_
  exact loop 11 0 H locs ls rfl (hI.to rfl (fun k hk => by rcases (show k = 0 ∨ k = 1 by omega) with rfl | rfl <;> rfl)) hl
