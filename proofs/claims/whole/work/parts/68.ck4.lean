/-! THE CONSTRUCTOR of ParityRow (by program: wip/tools/ctors_3.py) -/
def ct_P (K : Nat → ClassId) (n k : Nat) (_ sz : Nat) (j : Nat) : va_E :=
  if j = 0 then .inr (3, [.int (nI n), .int (nI (n - 1)), .ref (sz + 2), .null, .ref (sz + 0), .ref (sz + 1), .int (nI 0), .int (-1), .int (nI 0), .int (nI 0)]) else if j = 1 then .inl (K 0, 13, .inl fun _ => 0) else if j = 2 then .inl (K 0, 8, .inl fun _ => 0) else
  if j = 3 then .inl (K 2, n, .inr (.inr (.inr (.inr fun i => if i < k then some (sz + 3 + 4 * i) else none)))) else ct_X0 K 0 (sz + (j - j % 4)) (j % 4)
theorem ct_P_step {K : Nat → ClassId} {n k h0 sz j : Nat} {ct : Nat → va_E} (hj : j < 8 + 4 * k) (h3 : ct 3 = .inl (K 2, n, .inr (.inr (.inr (.inr (va_up (fun i => if i < k then some (sz + 3 + 4 * i) else none) k (some (sz + 3 + 4 * k)))))))) (ho : ∀ j, j ≠ 3 → j < 4 + 4 * k → ct j = ct_P K n k h0 sz j) (h2 : ∀ i, i < 4 → ct (4 + 4 * k + i) = ct_X0 K 0 (sz + (4 + 4 * k)) i) : ct j = ct_P K n (k + 1) h0 sz j := by
  by_cases e1 : j = 3
  · subst e1
    rw [h3]
    unfold ct_P
    rw [if_neg (by decide), if_neg (by decide), if_neg (by decide), if_pos rfl]
    congr 7
    funext i
    unfold va_up
    by_cases z : i = k
    · rw [if_pos z, if_pos (by omega), z]
    · rw [if_neg z]
      dsimp only
      by_cases y : i < k
      · rw [if_pos y, if_pos (by omega)]
      · rw [if_neg y, if_neg (by omega)]
  · by_cases e2 : j < 4 + 4 * k
    · rw [ho j e1 e2]
      unfold ct_P
      rw [if_neg e1, if_neg e1]
    · have := h2 (j - (4 + 4 * k)) (by omega)
      rw [show 4 + 4 * k + (j - (4 + 4 * k)) = j by omega] at this
      rw [this]
      unfold ct_P
      rw [if_neg (by omega), if_neg (by omega), if_neg (by omega), if_neg (by omega), show j - j % 4 = 4 + 4 * k by omega, show j - (4 + 4 * k) = j % 4 by omega]
def ct_X3 (K : Nat → ClassId) (n h0 sz : Nat) (j : Nat) : va_E :=
  if j = 0 then .inr (3, [.int (nI n), .int (nI (n - 1)), .ref (sz + 2), .ref (sz + (3 + 4 * n)), .ref (sz + 0), .ref (sz + 1), .int (nI 0), .int (-1), .int (nI 0), .int (nI 0)]) else if j < 4 + 4 * n then ct_P K n n h0 sz j else ct_J K n 11 (sz + (3 + 4 * n)) (sz + (4 + 4 * n)) (j - (4 + 4 * n))
set_option maxHeartbeats 4000000 in
set_option maxRecDepth 100000 in
theorem ck_X3 (l : Launch) (D : va_G) (K : Nat → ClassId) (n : Nat) (v : Int32) (hn3 : 3 ≤ n) (hn6 : n ≤ 6) (hn : nI 3 + cf_mod v (nI 4) = nI n) : cg_M l D K yX3_init wsX3_init { frames := 3, cells := 51, slots := 2092, locals := 55 } 51 2092 3 [.int 0, .int 0, .null, .null, .null, .null, .int 0, .int 0, .int 0, .int 0] [.int v] (27 + 4 * n) (ct_X3 K n) := by
  intro h0 sz hh
  refine Met.ofW (cc := cX3_init) (maxL := 3) (ret := none) (by decide) rfl ?_
  intro p e s m args below meth c s₁ B hml hv
  obtain ⟨rfl, hsz, hA0, hK⟩ := hv
  have hx := B.exec
  have hb := B.bytes
  have hr := B.returns
  have hts := atoms_spec (ws := wsX3_init) B.pre
  have hown : s.vm.findClass RX3 = some m.cls := findClass_of_methodNamed B.named
  have hlocks := B.notSynchronized
  have hin : meth.name = "<init>" := (name_of_methodNamed B.named B.method).1
  have hI := cg_start hsz hh hA0
  have hl := lv_entry ([.ref h0, .int v]) (n := 3) (Nat.le_of_ble_eq_true rfl)
  rw [lg_entry_eq]
  generalize (lg_sl ([.ref h0, .int v]) ++ List.replicate (3 - (lg_sl ([.ref h0, .int v])).length) Slot.unset).toArray = ls at hl ⊢
  have hl : lv_has ls 3 [(0, .ref h0), (1, .int v)] := hl
  have loop : ∀ (f k : Nat) (H : Heap) (locs : List Loc) (ls : Array Slot), k + f = n → cg_I D h0 sz (3 + 4 * k) (ct_P K n k h0 sz) s.heap H locs → lv_has ls 3 [(2, .int (nI k)), (0, .ref h0), (1, .int v)] →
      W p l e (headSpec wsX3_init { frames := 3, cells := 51, slots := 2092, locals := 55 }).room s m (Value.ref h0 :: [.int v]).toArray below meth c H locs (3 + 4 * k) (27 + 246 * k) (MQ below (cg_Qc D (27 + 4 * n) (ct_X3 K n) h0 sz) (Value.ref h0 :: [.int v]).toArray s 51 2092 (cg_A h0 sz)) (F0 m 74 ls []) := by
    intro f
    induction f with
    | zero =>
      intro k H locs ls hk hI hl
      have hk : k = n := by omega
      subst hk
      refine lv_iload_n hx hb dX3_init_74 rfl (lv_at hl 0 rfl) ?_
      refine lv_aload_n hx hb dX3_init_75 rfl (lv_at hl 1 rfl) ?_
      refine cg_get hx hb hts (by decide +kernel) hown hK hI (ci := 3) (fs := [.int (nI k), .int (nI (k - 1)), .ref (sz + 2), .null, .ref (sz + 0), .ref (sz + 1), .int (nI 0), .int (-1), .int (nI 0), .int (nI 0)]) rfl rfl 0 (by decide) (by decide +kernel) rfl rfl dX3_init_76 rfl ?_
      refine lv_icmp_ge hx hb dX3_init_79 (tgt := 101) rfl (fun _ => ?_) (fun h => absurd (Int32.le_refl _) h)
      refine lv_aload_n hx hb dX3_init_101 rfl (lv_at hl 1 rfl) ?_
      have hc1 : 3 + 4 * k + 1 ≤ (headSpec wsX3_init { frames := 3, cells := 51, slots := 2092, locals := 55 }).room.cells := Nat.le_trans (show 3 + 4 * k + 1 ≤ 51 by omega) (Nat.le_of_ble_eq_true rfl)
      have hs1 : 27 + 246 * k + 6 ≤ (headSpec wsX3_init { frames := 3, cells := 51, slots := 2092, locals := 55 }).room.slots := Nat.le_trans (show 27 + 246 * k + 6 ≤ 2092 by omega) (Nat.le_of_ble_eq_true rfl)
      have hc2 : 3 + 4 * k + 1 + 23 ≤ (headSpec wsX3_init { frames := 3, cells := 51, slots := 2092, locals := 55 }).room.cells := Nat.le_trans (show 3 + 4 * k + 1 + 23 ≤ 51 by omega) (Nat.le_of_ble_eq_true rfl)
      have hs2 : 27 + 246 * k + 6 + 583 ≤ (headSpec wsX3_init { frames := 3, cells := 51, slots := 2092, locals := 55 }).room.slots := Nat.le_trans (show 27 + 246 * k + 6 + 583 ≤ 2092 by omega) (Nat.le_of_ble_eq_true rfl)
      refine cg_new hx hb hts (by decide +kernel) tyX2 tyX2_ok hown (by decide +kernel) (by decide +kernel) (by decide +kernel) hK hI (ci := 2) (fs := [.null, .int 0, .int 0, .int 0, .int 0, .int 0]) rfl (fun j hj => by rcases (show j = 0 ∨ j = 1 ∨ j = 2 ∨ j = 3 ∨ j = 4 ∨ j = 5 by omega) with rfl | rfl | rfl | rfl | rfl | rfl <;> rfl) hc1 hs1 dX3_init_102 rfl (fun H hI => ?_)
      refine lv_dup hx hb dX3_init_105 rfl ?_
      refine lv_aload_n hx hb dX3_init_106 rfl (lv_at hl 1 rfl) ?_
      refine cg_get hx hb hts (by decide +kernel) hown hK hI (ci := 3) (fs := [.int (nI k), .int (nI (k - 1)), .ref (sz + 2), .null, .ref (sz + 0), .ref (sz + 1), .int (nI 0), .int (-1), .int (nI 0), .int (nI 0)]) (by unfold va_up; rw [if_neg (by omega)]; rfl) rfl 0 (by decide) (by decide +kernel) rfl rfl dX3_init_107 rfl ?_
      refine cg_callN (As := [.int (nI k)]) (rest := [.ref (sz + (3 + 4 * k)), .ref h0]) ⟨hx, hb, hml, hown, hts⟩ (ck_X2 l D K k (by omega)) ⟨va_cnB 1 hts gX3_init_X2_init_n51 rfl rfl rfl (hK.1.2 (.methodLinkNest RX3 51 yX2_init "ParityRow") (show Cond.methodLinkNest RX3 51 yX2_init "ParityRow" ∈ pc_nw by decide +kernel)).2 (hts (.initialized RX2) (by decide +kernel)) (by decide +kernel) ⟨Nat.le_of_ble_eq_true rfl, Nat.le_of_ble_eq_true rfl⟩, rfl, hts (.instanceMethod yX2_init) (by decide +kernel)⟩ hK hI (by omega) (if_pos rfl) rfl hl.1 (by show _ = [_] ++ _ :: _; congr 2) (lv_room (Nat.le_of_ble_eq_true rfl)) dX3_init_110 ⟨hc2, hs2⟩ rfl (fun H locs hI => ?_)
      refine cg_put hx hb hts (by decide +kernel) tyX3 tyX3_ok nmX3 hown hin hK hI (ci := 3) (fs := [.int (nI k), .int (nI (k - 1)), .ref (sz + 2), .null, .ref (sz + 0), .ref (sz + 1), .int (nI 0), .int (-1), .int (nI 0), .int (nI 0)]) (v := .ref (sz + (3 + 4 * k))) (by rw [if_pos (by omega)]; unfold va_up; rw [if_neg (by omega)]; rfl) rfl 3 (by decide) (by decide +kernel) rfl rfl rfl (Nat.le_of_ble_eq_true rfl) dX3_init_113 rfl (fun H locs hI => ?_)
      refine W.widen (k := 51) (n := 2092) (by omega) (by omega) ?_
      have hI2 := hI.to (N' := 27 + 4 * k) (ct' := ct_X3 K k h0 sz) (by omega) (fun j hj => by
        unfold ct_X3 va_up
        by_cases z : j = 0
        · rw [if_pos z, if_pos z]
          rfl
        · rw [if_neg z, if_neg z]
          dsimp only
          by_cases y : j < 4 + 4 * k
          · rw [if_pos (by omega), if_pos y, if_neg (by omega)]
          · rw [if_neg (by omega), if_neg y, show 3 + 4 * k + 1 = 4 + 4 * k by omega, show sz + (4 + 4 * k) - 1 = sz + (3 + 4 * k) by omega])
      exact W.vret hx hb hr (fun t ht hW => ⟨⟨(), rfl, trivial, by rw [ht]; exact hI2.2.2.1, by rw [ht]; exact hI2.2.2.2.1⟩, hI2.2.2.2.2.F ht⟩) hI2.2.2.2.2.2.2 dX3_init_116
    | succ f ih =>
      intro k H locs ls hk hI hl
      have hkn : k < n := by omega
      refine lv_iload_n hx hb dX3_init_74 rfl (lv_at hl 0 rfl) ?_
      refine lv_aload_n hx hb dX3_init_75 rfl (lv_at hl 1 rfl) ?_
      refine cg_get hx hb hts (by decide +kernel) hown hK hI (ci := 3) (fs := [.int (nI n), .int (nI (n - 1)), .ref (sz + 2), .null, .ref (sz + 0), .ref (sz + 1), .int (nI 0), .int (-1), .int (nI 0), .int (nI 0)]) rfl rfl 0 (by decide) (by decide +kernel) rfl rfl dX3_init_76 rfl ?_
      refine lv_icmp_ge hx hb dX3_init_79 (tgt := 101) rfl (fun h => absurd ((nI_leI (by omega) (by omega)).mp h) (by omega)) (fun _ => ?_)
      refine lv_aload_n hx hb dX3_init_82 rfl (lv_at hl 1 rfl) ?_
      refine cg_get hx hb hts (by decide +kernel) hown hK hI (ci := 3) (fs := [.int (nI n), .int (nI (n - 1)), .ref (sz + 2), .null, .ref (sz + 0), .ref (sz + 1), .int (nI 0), .int (-1), .int (nI 0), .int (nI 0)]) rfl rfl 2 (by decide) (by decide +kernel) rfl rfl dX3_init_83 rfl ?_
      refine lv_iload_n hx hb dX3_init_86 rfl (lv_at hl 0 rfl) ?_
      have hc1 : 3 + 4 * k + 1 ≤ (headSpec wsX3_init { frames := 3, cells := 51, slots := 2092, locals := 55 }).room.cells := Nat.le_trans (show 3 + 4 * k + 1 ≤ 51 by omega) (Nat.le_of_ble_eq_true rfl)
      have hs1 : 27 + 246 * k + 6 ≤ (headSpec wsX3_init { frames := 3, cells := 51, slots := 2092, locals := 55 }).room.slots := Nat.le_trans (show 27 + 246 * k + 6 ≤ 2092 by omega) (Nat.le_of_ble_eq_true rfl)
      have hc2 : 3 + 4 * k + 1 + 3 ≤ (headSpec wsX3_init { frames := 3, cells := 51, slots := 2092, locals := 55 }).room.cells := Nat.le_trans (show 3 + 4 * k + 1 + 3 ≤ 51 by omega) (Nat.le_of_ble_eq_true rfl)
      have hs2 : 27 + 246 * k + 6 + 240 ≤ (headSpec wsX3_init { frames := 3, cells := 51, slots := 2092, locals := 55 }).room.slots := Nat.le_trans (show 27 + 246 * k + 6 + 240 ≤ 2092 by omega) (Nat.le_of_ble_eq_true rfl)
      refine cg_new hx hb hts (by decide +kernel) tyX0 tyX0_ok hown (by decide +kernel) (by decide +kernel) (by decide +kernel) hK hI (ci := 0) (fs := [.null, .null, .null, .int 0, .int 0, .int 0]) rfl (fun j hj => by rcases (show j = 0 ∨ j = 1 ∨ j = 2 ∨ j = 3 ∨ j = 4 ∨ j = 5 by omega) with rfl | rfl | rfl | rfl | rfl | rfl <;> rfl) hc1 hs1 dX3_init_87 rfl (fun H hI => ?_)
      refine lv_dup hx hb dX3_init_90 rfl ?_
      refine cg_callN (As := []) (rest := [.ref (sz + (3 + 4 * k)), .int (nI k), .ref (sz + 2)]) ⟨hx, hb, hml, hown, hts⟩ (ck_X0 l D K) ⟨va_cnB 0 hts gX3_init_X0_init_n48 rfl rfl rfl (hK.1.2 (.methodLinkNest RX3 48 yX0_init "ParityRow") (show Cond.methodLinkNest RX3 48 yX0_init "ParityRow" ∈ pc_nw by decide +kernel)).2 (hts (.initialized RX0) (by decide +kernel)) (by decide +kernel) ⟨Nat.le_of_ble_eq_true rfl, Nat.le_of_ble_eq_true rfl⟩, rfl, hts (.instanceMethod yX0_init) (by decide +kernel)⟩ hK hI (by omega) (if_pos rfl) rfl hl.1 (by show _ = _ :: _; congr 2) (lv_room (Nat.le_of_ble_eq_true rfl)) dX3_init_91 ⟨hc2, hs2⟩ rfl (fun H locs hI => ?_)
      refine cg_ast hx hb hK hI 3 2 (4 + 4 * k) 0 (r := (RX0, TX0, 6)) (n := n) (j := k) (f := fun i => if i < k then some (sz + 3 + 4 * i) else none) (vs := [.ref (sz + (4 + 4 * k)), .ref (sz + (4 + 4 * k) + 1), .ref (sz + (4 + 4 * k) + 2), .int (nI 0), .int (nI 24), .int (nI 0)]) (cA := K 2) (by omega) ?_ rfl (by omega) ?_ rfl rfl hkn (by omega) (by rw [cg_ad_s (by omega)]; congr 1; omega) (by rw [cg_ad_s (by decide)]; rfl) dX3_init_94 rfl (fun H locs hI => ?_)
      · rw [if_pos (by omega)]
        unfold va_up
        rw [if_neg (by omega)]
        rfl
      · rw [if_neg (by omega), show 4 + 4 * k - (3 + 4 * k + 1) = 0 by omega, show 3 + 4 * k + 1 = 4 + 4 * k by omega]
        rfl
      refine lv_iinc hx hb dX3_init_95 hl (k := 0) rfl (v := nI (k + 1)) (show nI k + nI 1 = _ by rw [nI_add]) (by decide) rfl (fun ls hl => ?_)
      refine lv_goto hx hb dX3_init_98 (tgt := 74) rfl ?_
      refine W.widen (k := 3 + 4 * (k + 1)) (n := 27 + 246 * (k + 1)) (by omega) (by omega) ?_
      refine ih (k + 1) H locs ls (by omega) (hI.to (by omega) (fun j hj => ct_P_step (by omega) ?_ (fun i hi1 hi2 => ?_) (fun i hi => ?_))) hl
      · unfold va_up
        rw [if_pos rfl, cg_ad_s (by omega)]
        congr 7
        funext i
        congr 2
        omega
      · unfold va_up
        rw [if_neg hi1]
        dsimp only
        rw [if_pos (by omega), if_neg (by omega)]
      · unfold va_up
        rw [if_neg (by omega)]
        dsimp only
        rw [if_neg (by omega), show 4 + 4 * k + i - (3 + 4 * k + 1) = i by omega, show 3 + 4 * k + 1 = 4 + 4 * k by omega]
        rfl
  refine lv_aload_n hx hb dX3_init_0 rfl (lv_at hl 0 rfl) ?_
  refine W.objInit hx hb hown (hts (.methodLink RX3 3 objectInit) (by decide +kernel)) (hts (.instanceMethod objectInit) (by decide +kernel)) (hts _ (List.mem_of_getElem? (i := 3) rfl)) rfl (by rw [hml]; exact hl.1) rfl dX3_init_1 (Nat.le_of_ble_eq_true rfl) (Nat.le_of_ble_eq_true rfl) ?_
  refine W.eq (g2 := F0 m 4 ls []) rfl ?_
  refine lv_aload_n hx hb dX3_init_4 rfl (lv_at hl 0 rfl) ?_
  refine lv_bipush (v := nI 13) hx hb dX3_init_5 (by decide) ?_
  refine cg_newa (atype := .int) (ty := .int) (cA := K 0) hx hb (hts (.arrayClass .int) (by decide +kernel)) rfl 0 rfl (Or.inl rfl) hK hI (n := nI 13) (N' := 13) (nI_pos (by decide)) (nI_clamp (by decide)) (Nat.le_of_ble_eq_true rfl) (Nat.le_of_ble_eq_true rfl) (Nat.le_of_ble_eq_true rfl) dX3_init_7 rfl (fun H hI => ?_)
  refine cg_put hx hb hts (by decide +kernel) tyX3 tyX3_ok nmX3 hown hin hK hI (ci := 3) (fs := [.int 0, .int 0, .null, .null, .null, .null, .int 0, .int 0, .int 0, .int 0]) (v := .ref (sz + 0)) rfl rfl 4 (by decide) (by decide +kernel) rfl rfl rfl (Nat.le_of_ble_eq_true rfl) dX3_init_9 rfl (fun H locs hI => ?_)
  refine lv_aload_n hx hb dX3_init_12 rfl (lv_at hl 0 rfl) ?_
  refine lv_bipush (v := nI 8) hx hb dX3_init_13 (by decide) ?_
  refine cg_newa (atype := .int) (ty := .int) (cA := K 0) hx hb (hts (.arrayClass .int) (by decide +kernel)) rfl 0 rfl (Or.inl rfl) hK hI (n := nI 8) (N' := 8) (nI_pos (by decide)) (nI_clamp (by decide)) (Nat.le_of_ble_eq_true rfl) (Nat.le_of_ble_eq_true rfl) (Nat.le_of_ble_eq_true rfl) dX3_init_15 rfl (fun H hI => ?_)
  refine cg_put hx hb hts (by decide +kernel) tyX3 tyX3_ok nmX3 hown hin hK hI (ci := 3) (fs := [.int 0, .int 0, .null, .null, .ref (sz + 0), .null, .int 0, .int 0, .int 0, .int 0]) (v := .ref (sz + 1)) rfl rfl 5 (by decide) (by decide +kernel) rfl rfl rfl (Nat.le_of_ble_eq_true rfl) dX3_init_17 rfl (fun H locs hI => ?_)
  refine lv_aload_n hx hb dX3_init_20 rfl (lv_at hl 0 rfl) ?_
  refine lv_iconst (v := nI 0) hx hb dX3_init_21 (by decide) ?_
  refine cg_put hx hb hts (by decide +kernel) tyX3 tyX3_ok nmX3 hown hin hK hI (ci := 3) (fs := [.int 0, .int 0, .null, .null, .ref (sz + 0), .ref (sz + 1), .int 0, .int 0, .int 0, .int 0]) (v := .int (nI 0)) rfl rfl 6 (by decide) (by decide +kernel) rfl rfl rfl (Nat.le_of_ble_eq_true rfl) dX3_init_22 rfl (fun H locs hI => ?_)
  refine lv_aload_n hx hb dX3_init_25 rfl (lv_at hl 0 rfl) ?_
  refine lv_iconst (v := -1) hx hb dX3_init_26 (by decide) ?_
  refine cg_put hx hb hts (by decide +kernel) tyX3 tyX3_ok nmX3 hown hin hK hI (ci := 3) (fs := [.int 0, .int 0, .null, .null, .ref (sz + 0), .ref (sz + 1), .int (nI 0), .int 0, .int 0, .int 0]) (v := .int (-1)) rfl rfl 7 (by decide) (by decide +kernel) rfl rfl rfl (Nat.le_of_ble_eq_true rfl) dX3_init_27 rfl (fun H locs hI => ?_)
  refine lv_aload_n hx hb dX3_init_30 rfl (lv_at hl 0 rfl) ?_
  refine lv_iconst (v := nI 0) hx hb dX3_init_31 (by decide) ?_
  refine cg_put hx hb hts (by decide +kernel) tyX3 tyX3_ok nmX3 hown hin hK hI (ci := 3) (fs := [.int 0, .int 0, .null, .null, .ref (sz + 0), .ref (sz + 1), .int (nI 0), .int (-1), .int 0, .int 0]) (v := .int (nI 0)) rfl rfl 8 (by decide) (by decide +kernel) rfl rfl rfl (Nat.le_of_ble_eq_true rfl) dX3_init_32 rfl (fun H locs hI => ?_)
  refine lv_aload_n hx hb dX3_init_35 rfl (lv_at hl 0 rfl) ?_
  refine lv_iconst (v := nI 0) hx hb dX3_init_36 (by decide) ?_
  refine cg_put hx hb hts (by decide +kernel) tyX3 tyX3_ok nmX3 hown hin hK hI (ci := 3) (fs := [.int 0, .int 0, .null, .null, .ref (sz + 0), .ref (sz + 1), .int (nI 0), .int (-1), .int (nI 0), .int 0]) (v := .int (nI 0)) rfl rfl 9 (by decide) (by decide +kernel) rfl rfl rfl (Nat.le_of_ble_eq_true rfl) dX3_init_37 rfl (fun H locs hI => ?_)
  refine lv_aload_n hx hb dX3_init_40 rfl (lv_at hl 0 rfl) ?_
  refine lv_iconst (v := nI 3) hx hb dX3_init_41 (by decide) ?_
  refine lv_iload_n hx hb dX3_init_42 rfl (lv_at hl 1 rfl) ?_
  refine lv_iconst (v := nI 4) hx hb dX3_init_43 (by decide) ?_
  refine cf_call hx hb (by rw [hml]; exact hl.1.symm) hown (hts (.methodLink RX3 30 yJ9_floorMod_7cf53) (by decide +kernel)) (hts (.static yJ9_floorMod_7cf53) (by decide +kernel)) (hts (.initialized RJ9) (by decide +kernel)) (hts _ (List.mem_of_getElem? (i := 24) rfl)) (Nat.le_of_ble_eq_true rfl) (Nat.le_of_ble_eq_true rfl) (Nat.le_of_ble_eq_true rfl) (Nat.le_of_ble_eq_true rfl) (by decide) dX3_init_44 rfl ?_
  refine lv_iadd hx hb dX3_init_47 ?_
  rw [hn]
  refine cg_put hx hb hts (by decide +kernel) tyX3 tyX3_ok nmX3 hown hin hK hI (ci := 3) (fs := [.int 0, .int 0, .null, .null, .ref (sz + 0), .ref (sz + 1), .int (nI 0), .int (-1), .int (nI 0), .int (nI 0)]) (v := .int (nI n)) rfl rfl 0 (by decide) (by decide +kernel) rfl rfl rfl (Nat.le_of_ble_eq_true rfl) dX3_init_48 rfl (fun H locs hI => ?_)
  refine lv_aload_n hx hb dX3_init_51 rfl (lv_at hl 0 rfl) ?_
  refine lv_aload_n hx hb dX3_init_52 rfl (lv_at hl 0 rfl) ?_
  refine cg_get hx hb hts (by decide +kernel) hown hK hI (ci := 3) (fs := [.int (nI n), .int 0, .null, .null, .ref (sz + 0), .ref (sz + 1), .int (nI 0), .int (-1), .int (nI 0), .int (nI 0)]) rfl rfl 0 (by decide) (by decide +kernel) rfl rfl dX3_init_53 rfl ?_
  refine lv_iconst (v := nI 1) hx hb dX3_init_56 (by decide) ?_
  refine lv_isub hx hb dX3_init_57 ?_
  rw [pk_sub (show 1 ≤ n by omega)]
  refine cg_put hx hb hts (by decide +kernel) tyX3 tyX3_ok nmX3 hown hin hK hI (ci := 3) (fs := [.int (nI n), .int 0, .null, .null, .ref (sz + 0), .ref (sz + 1), .int (nI 0), .int (-1), .int (nI 0), .int (nI 0)]) (v := .int (nI (n - 1))) rfl rfl 1 (by decide) (by decide +kernel) rfl rfl rfl (Nat.le_of_ble_eq_true rfl) dX3_init_58 rfl (fun H locs hI => ?_)
  refine lv_aload_n hx hb dX3_init_61 rfl (lv_at hl 0 rfl) ?_
  refine lv_aload_n hx hb dX3_init_62 rfl (lv_at hl 0 rfl) ?_
  refine cg_get hx hb hts (by decide +kernel) hown hK hI (ci := 3) (fs := [.int (nI n), .int (nI (n - 1)), .null, .null, .ref (sz + 0), .ref (sz + 1), .int (nI 0), .int (-1), .int (nI 0), .int (nI 0)]) rfl rfl 0 (by decide) (by decide +kernel) rfl rfl dX3_init_63 rfl ?_
  refine cg_newq (C := RX0) (cA := K 2) hx hb hown (hts (.classLink RX3 42 RX0) (by decide +kernel)) hK.2.1 2 rfl hK hI (n := nI n) (N' := n) (nI_pos (by omega)) (nI_clamp (by omega)) (by omega) (Nat.le_of_ble_eq_true rfl) (Nat.le_trans (show 0 + 13 + 8 + 0 + n ≤ 2092 by omega) (Nat.le_of_ble_eq_true rfl)) dX3_init_66 rfl (fun H hI => ?_)
  refine cg_put hx hb hts (by decide +kernel) tyX3 tyX3_ok nmX3 hown hin hK hI (ci := 3) (fs := [.int (nI n), .int (nI (n - 1)), .null, .null, .ref (sz + 0), .ref (sz + 1), .int (nI 0), .int (-1), .int (nI 0), .int (nI 0)]) (v := .ref (sz + 2)) rfl rfl 2 (by decide) (by decide +kernel) rfl rfl rfl (Nat.le_of_ble_eq_true rfl) dX3_init_69 rfl (fun H locs hI => ?_)
  refine lv_iconst (v := nI 0) hx hb dX3_init_72 (by decide) ?_
  refine lv_istore_n hx hb dX3_init_73 rfl hl (by decide) rfl (fun ls hl => ?_)
  refine W.widen (k := 3 + 4 * 0) (n := 27 + 246 * 0) (by omega) (by omega) ?_
  exact loop n 0 H locs ls (by omega) (hI.to rfl (fun k hk => by rcases (show k = 0 ∨ k = 1 ∨ k = 2 ∨ k = 3 by omega) with rfl | rfl | rfl | rfl <;> rfl)) hl
