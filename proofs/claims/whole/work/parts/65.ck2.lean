/-- the model's store at its start -/
def pm_0 : vv_S := fun k j => if k = 0 ∧ (j = 16 ∨ j = 17) then nI 1 else if k = 0 ∧ j = 19 then -1 else 0
def ct_X4 (K : Nat → ClassId) (n h0 sz : Nat) (k : Nat) : va_E := pm_ct n (cg_ad h0 sz) K k (pm_0 k)
set_option maxHeartbeats 4000000 in
set_option maxRecDepth 100000 in
theorem ck_X4 (l : Launch) (D : va_G) (K : Nat → ClassId) (n : Nat) (v : Int32) (hn : nI 3 + (v - v / nI 4 * nI 4 + nI 4 - (v - v / nI 4 * nI 4 + nI 4) / nI 4 * nI 4) = nI n) : cg_M l D K yX4_init wsX4_init { frames := 1, cells := 15, slots := 2375, locals := 12 } 15 2375 4 [.int 0, .int 0, .null, .null, .null, .null, .null, .null, .int 0, .null, .null, .null, .null, .null, .null, .int 0, .int 0, .int 0, .int 0, .int 0, .int 0, .int 0, .null, .null, .null] [.int v] 15 (ct_X4 K n) := by
  intro h0 sz hh
  refine Met.ofW (cc := cX4_init) (maxL := 2) (ret := none) (by decide) rfl ?_
  intro p e s m args below meth c s₁ B hml hv
  obtain ⟨rfl, hsz, hA0, hK⟩ := hv
  have hx := B.exec
  have hb := B.bytes
  have hr := B.returns
  have hts := atoms_spec (ws := wsX4_init) B.pre
  have hown : s.vm.findClass RX4 = some m.cls := findClass_of_methodNamed B.named
  have hlocks := B.notSynchronized
  have hin : meth.name = "<init>" := (name_of_methodNamed B.named B.method).1
  have hI := cg_start hsz hh hA0
  have hl := lv_entry ([.ref h0, .int v]) (n := 2) (Nat.le_of_ble_eq_true rfl)
  rw [lg_entry_eq]
  generalize (lg_sl ([.ref h0, .int v]) ++ List.replicate (2 - (lg_sl ([.ref h0, .int v])).length) Slot.unset).toArray = ls at hl ⊢
  have hl : lv_has ls 2 [(0, .ref h0), (1, .int v)] := hl
  refine lv_aload_n hx hb dX4_init_0 rfl (lv_at hl 0 rfl) ?_
  refine W.objInit hx hb hown (hts (.methodLink RX4 7 objectInit) (by decide +kernel)) (hts (.instanceMethod objectInit) (by decide +kernel)) (hts _ (List.mem_of_getElem? (i := 3) rfl)) rfl (by rw [hml]; exact hl.1) rfl dX4_init_1 (Nat.le_of_ble_eq_true rfl) (Nat.le_of_ble_eq_true rfl) ?_
  refine W.eq (g2 := F0 m 4 ls []) rfl ?_
  refine lv_aload_n hx hb dX4_init_4 rfl (lv_at hl 0 rfl) ?_
  refine lv_sipush (v := nI 1152) hx hb dX4_init_5 (by decide) ?_
  refine cg_newa (atype := .int) (ty := .int) (cA := K 0) hx hb (hts (.arrayClass .int) (by decide +kernel)) rfl 0 rfl (Or.inl rfl) hK hI (n := nI 1152) (N' := 1152) (nI_pos (by decide)) (nI_clamp (by decide)) (Nat.le_of_ble_eq_true rfl) (Nat.le_of_ble_eq_true rfl) (Nat.le_of_ble_eq_true rfl) dX4_init_8 rfl (fun H hI => ?_)
  refine cg_put hx hb hts (by decide +kernel) tyX4 tyX4_ok nmX4 hown hin hK hI (ci := 4) (fs := [.int 0, .int 0, .null, .null, .null, .null, .null, .null, .int 0, .null, .null, .null, .null, .null, .null, .int 0, .int 0, .int 0, .int 0, .int 0, .int 0, .int 0, .null, .null, .null]) (v := .ref (sz + 0)) rfl rfl 2 (by decide) (by decide +kernel) rfl rfl rfl (Nat.le_of_ble_eq_true rfl) dX4_init_10 rfl (fun H locs hI => ?_)
  refine lv_aload_n hx hb dX4_init_13 rfl (lv_at hl 0 rfl) ?_
  refine lv_sipush (v := nI 144) hx hb dX4_init_14 (by decide) ?_
  refine cg_newa (atype := .int) (ty := .int) (cA := K 0) hx hb (hts (.arrayClass .int) (by decide +kernel)) rfl 0 rfl (Or.inl rfl) hK hI (n := nI 144) (N' := 144) (nI_pos (by decide)) (nI_clamp (by decide)) (Nat.le_of_ble_eq_true rfl) (Nat.le_of_ble_eq_true rfl) (Nat.le_of_ble_eq_true rfl) dX4_init_17 rfl (fun H hI => ?_)
  refine cg_put hx hb hts (by decide +kernel) tyX4 tyX4_ok nmX4 hown hin hK hI (ci := 4) (fs := [.int 0, .int 0, .ref (sz + 0), .null, .null, .null, .null, .null, .int 0, .null, .null, .null, .null, .null, .null, .int 0, .int 0, .int 0, .int 0, .int 0, .int 0, .int 0, .null, .null, .null]) (v := .ref (sz + 1)) rfl rfl 3 (by decide) (by decide +kernel) rfl rfl rfl (Nat.le_of_ble_eq_true rfl) dX4_init_19 rfl (fun H locs hI => ?_)
  refine lv_aload_n hx hb dX4_init_22 rfl (lv_at hl 0 rfl) ?_
  refine lv_sipush (v := nI 144) hx hb dX4_init_23 (by decide) ?_
  refine cg_newa (atype := .boolean) (ty := .boolean) (cA := K 1) hx hb (hts (.arrayClass .boolean) (by decide +kernel)) rfl 1 rfl (Or.inr rfl) hK hI (n := nI 144) (N' := 144) (nI_pos (by decide)) (nI_clamp (by decide)) (Nat.le_of_ble_eq_true rfl) (Nat.le_of_ble_eq_true rfl) (Nat.le_of_ble_eq_true rfl) dX4_init_26 rfl (fun H hI => ?_)
  refine cg_put hx hb hts (by decide +kernel) tyX4 tyX4_ok nmX4 hown hin hK hI (ci := 4) (fs := [.int 0, .int 0, .ref (sz + 0), .ref (sz + 1), .null, .null, .null, .null, .int 0, .null, .null, .null, .null, .null, .null, .int 0, .int 0, .int 0, .int 0, .int 0, .int 0, .int 0, .null, .null, .null]) (v := .ref (sz + 2)) rfl rfl 4 (by decide) (by decide +kernel) rfl rfl rfl (Nat.le_of_ble_eq_true rfl) dX4_init_28 rfl (fun H locs hI => ?_)
  refine lv_aload_n hx hb dX4_init_31 rfl (lv_at hl 0 rfl) ?_
  refine lv_bipush (v := nI 6) hx hb dX4_init_32 (by decide) ?_
  refine cg_newa (atype := .int) (ty := .int) (cA := K 0) hx hb (hts (.arrayClass .int) (by decide +kernel)) rfl 0 rfl (Or.inl rfl) hK hI (n := nI 6) (N' := 6) (nI_pos (by decide)) (nI_clamp (by decide)) (Nat.le_of_ble_eq_true rfl) (Nat.le_of_ble_eq_true rfl) (Nat.le_of_ble_eq_true rfl) dX4_init_34 rfl (fun H hI => ?_)
  refine cg_put hx hb hts (by decide +kernel) tyX4 tyX4_ok nmX4 hown hin hK hI (ci := 4) (fs := [.int 0, .int 0, .ref (sz + 0), .ref (sz + 1), .ref (sz + 2), .null, .null, .null, .int 0, .null, .null, .null, .null, .null, .null, .int 0, .int 0, .int 0, .int 0, .int 0, .int 0, .int 0, .null, .null, .null]) (v := .ref (sz + 3)) rfl rfl 5 (by decide) (by decide +kernel) rfl rfl rfl (Nat.le_of_ble_eq_true rfl) dX4_init_36 rfl (fun H locs hI => ?_)
  refine lv_aload_n hx hb dX4_init_39 rfl (lv_at hl 0 rfl) ?_
  refine lv_bipush (v := nI 6) hx hb dX4_init_40 (by decide) ?_
  refine cg_newa (atype := .int) (ty := .int) (cA := K 0) hx hb (hts (.arrayClass .int) (by decide +kernel)) rfl 0 rfl (Or.inl rfl) hK hI (n := nI 6) (N' := 6) (nI_pos (by decide)) (nI_clamp (by decide)) (Nat.le_of_ble_eq_true rfl) (Nat.le_of_ble_eq_true rfl) (Nat.le_of_ble_eq_true rfl) dX4_init_42 rfl (fun H hI => ?_)
  refine cg_put hx hb hts (by decide +kernel) tyX4 tyX4_ok nmX4 hown hin hK hI (ci := 4) (fs := [.int 0, .int 0, .ref (sz + 0), .ref (sz + 1), .ref (sz + 2), .ref (sz + 3), .null, .null, .int 0, .null, .null, .null, .null, .null, .null, .int 0, .int 0, .int 0, .int 0, .int 0, .int 0, .int 0, .null, .null, .null]) (v := .ref (sz + 4)) rfl rfl 6 (by decide) (by decide +kernel) rfl rfl rfl (Nat.le_of_ble_eq_true rfl) dX4_init_44 rfl (fun H locs hI => ?_)
  refine lv_aload_n hx hb dX4_init_47 rfl (lv_at hl 0 rfl) ?_
  refine lv_bipush (v := nI 6) hx hb dX4_init_48 (by decide) ?_
  refine cg_newa (atype := .int) (ty := .int) (cA := K 0) hx hb (hts (.arrayClass .int) (by decide +kernel)) rfl 0 rfl (Or.inl rfl) hK hI (n := nI 6) (N' := 6) (nI_pos (by decide)) (nI_clamp (by decide)) (Nat.le_of_ble_eq_true rfl) (Nat.le_of_ble_eq_true rfl) (Nat.le_of_ble_eq_true rfl) dX4_init_50 rfl (fun H hI => ?_)
  refine cg_put hx hb hts (by decide +kernel) tyX4 tyX4_ok nmX4 hown hin hK hI (ci := 4) (fs := [.int 0, .int 0, .ref (sz + 0), .ref (sz + 1), .ref (sz + 2), .ref (sz + 3), .ref (sz + 4), .null, .int 0, .null, .null, .null, .null, .null, .null, .int 0, .int 0, .int 0, .int 0, .int 0, .int 0, .int 0, .null, .null, .null]) (v := .ref (sz + 5)) rfl rfl 7 (by decide) (by decide +kernel) rfl rfl rfl (Nat.le_of_ble_eq_true rfl) dX4_init_52 rfl (fun H locs hI => ?_)
  refine lv_aload_n hx hb dX4_init_55 rfl (lv_at hl 0 rfl) ?_
  refine lv_bipush (v := nI 16) hx hb dX4_init_56 (by decide) ?_
  refine cg_newa (atype := .int) (ty := .int) (cA := K 0) hx hb (hts (.arrayClass .int) (by decide +kernel)) rfl 0 rfl (Or.inl rfl) hK hI (n := nI 16) (N' := 16) (nI_pos (by decide)) (nI_clamp (by decide)) (Nat.le_of_ble_eq_true rfl) (Nat.le_of_ble_eq_true rfl) (Nat.le_of_ble_eq_true rfl) dX4_init_58 rfl (fun H hI => ?_)
  refine cg_put hx hb hts (by decide +kernel) tyX4 tyX4_ok nmX4 hown hin hK hI (ci := 4) (fs := [.int 0, .int 0, .ref (sz + 0), .ref (sz + 1), .ref (sz + 2), .ref (sz + 3), .ref (sz + 4), .ref (sz + 5), .int 0, .null, .null, .null, .null, .null, .null, .int 0, .int 0, .int 0, .int 0, .int 0, .int 0, .int 0, .null, .null, .null]) (v := .ref (sz + 6)) rfl rfl 9 (by decide) (by decide +kernel) rfl rfl rfl (Nat.le_of_ble_eq_true rfl) dX4_init_60 rfl (fun H locs hI => ?_)
  refine lv_aload_n hx hb dX4_init_63 rfl (lv_at hl 0 rfl) ?_
  refine lv_bipush (v := nI 16) hx hb dX4_init_64 (by decide) ?_
  refine cg_newa (atype := .int) (ty := .int) (cA := K 0) hx hb (hts (.arrayClass .int) (by decide +kernel)) rfl 0 rfl (Or.inl rfl) hK hI (n := nI 16) (N' := 16) (nI_pos (by decide)) (nI_clamp (by decide)) (Nat.le_of_ble_eq_true rfl) (Nat.le_of_ble_eq_true rfl) (Nat.le_of_ble_eq_true rfl) dX4_init_66 rfl (fun H hI => ?_)
  refine cg_put hx hb hts (by decide +kernel) tyX4 tyX4_ok nmX4 hown hin hK hI (ci := 4) (fs := [.int 0, .int 0, .ref (sz + 0), .ref (sz + 1), .ref (sz + 2), .ref (sz + 3), .ref (sz + 4), .ref (sz + 5), .int 0, .ref (sz + 6), .null, .null, .null, .null, .null, .int 0, .int 0, .int 0, .int 0, .int 0, .int 0, .int 0, .null, .null, .null]) (v := .ref (sz + 7)) rfl rfl 10 (by decide) (by decide +kernel) rfl rfl rfl (Nat.le_of_ble_eq_true rfl) dX4_init_68 rfl (fun H locs hI => ?_)
  refine lv_aload_n hx hb dX4_init_71 rfl (lv_at hl 0 rfl) ?_
  refine lv_bipush (v := nI 16) hx hb dX4_init_72 (by decide) ?_
  refine cg_newa (atype := .int) (ty := .int) (cA := K 0) hx hb (hts (.arrayClass .int) (by decide +kernel)) rfl 0 rfl (Or.inl rfl) hK hI (n := nI 16) (N' := 16) (nI_pos (by decide)) (nI_clamp (by decide)) (Nat.le_of_ble_eq_true rfl) (Nat.le_of_ble_eq_true rfl) (Nat.le_of_ble_eq_true rfl) dX4_init_74 rfl (fun H hI => ?_)
  refine cg_put hx hb hts (by decide +kernel) tyX4 tyX4_ok nmX4 hown hin hK hI (ci := 4) (fs := [.int 0, .int 0, .ref (sz + 0), .ref (sz + 1), .ref (sz + 2), .ref (sz + 3), .ref (sz + 4), .ref (sz + 5), .int 0, .ref (sz + 6), .ref (sz + 7), .null, .null, .null, .null, .int 0, .int 0, .int 0, .int 0, .int 0, .int 0, .int 0, .null, .null, .null]) (v := .ref (sz + 8)) rfl rfl 11 (by decide) (by decide +kernel) rfl rfl rfl (Nat.le_of_ble_eq_true rfl) dX4_init_76 rfl (fun H locs hI => ?_)
  refine lv_aload_n hx hb dX4_init_79 rfl (lv_at hl 0 rfl) ?_
  refine lv_bipush (v := nI 16) hx hb dX4_init_80 (by decide) ?_
  refine cg_newa (atype := .boolean) (ty := .boolean) (cA := K 1) hx hb (hts (.arrayClass .boolean) (by decide +kernel)) rfl 1 rfl (Or.inr rfl) hK hI (n := nI 16) (N' := 16) (nI_pos (by decide)) (nI_clamp (by decide)) (Nat.le_of_ble_eq_true rfl) (Nat.le_of_ble_eq_true rfl) (Nat.le_of_ble_eq_true rfl) dX4_init_82 rfl (fun H hI => ?_)
  refine cg_put hx hb hts (by decide +kernel) tyX4 tyX4_ok nmX4 hown hin hK hI (ci := 4) (fs := [.int 0, .int 0, .ref (sz + 0), .ref (sz + 1), .ref (sz + 2), .ref (sz + 3), .ref (sz + 4), .ref (sz + 5), .int 0, .ref (sz + 6), .ref (sz + 7), .ref (sz + 8), .null, .null, .null, .int 0, .int 0, .int 0, .int 0, .int 0, .int 0, .int 0, .null, .null, .null]) (v := .ref (sz + 9)) rfl rfl 12 (by decide) (by decide +kernel) rfl rfl rfl (Nat.le_of_ble_eq_true rfl) dX4_init_84 rfl (fun H locs hI => ?_)
  refine lv_aload_n hx hb dX4_init_87 rfl (lv_at hl 0 rfl) ?_
  refine lv_bipush (v := nI 16) hx hb dX4_init_88 (by decide) ?_
  refine cg_newa (atype := .int) (ty := .int) (cA := K 0) hx hb (hts (.arrayClass .int) (by decide +kernel)) rfl 0 rfl (Or.inl rfl) hK hI (n := nI 16) (N' := 16) (nI_pos (by decide)) (nI_clamp (by decide)) (Nat.le_of_ble_eq_true rfl) (Nat.le_of_ble_eq_true rfl) (Nat.le_of_ble_eq_true rfl) dX4_init_90 rfl (fun H hI => ?_)
  refine cg_put hx hb hts (by decide +kernel) tyX4 tyX4_ok nmX4 hown hin hK hI (ci := 4) (fs := [.int 0, .int 0, .ref (sz + 0), .ref (sz + 1), .ref (sz + 2), .ref (sz + 3), .ref (sz + 4), .ref (sz + 5), .int 0, .ref (sz + 6), .ref (sz + 7), .ref (sz + 8), .ref (sz + 9), .null, .null, .int 0, .int 0, .int 0, .int 0, .int 0, .int 0, .int 0, .null, .null, .null]) (v := .ref (sz + 10)) rfl rfl 13 (by decide) (by decide +kernel) rfl rfl rfl (Nat.le_of_ble_eq_true rfl) dX4_init_92 rfl (fun H locs hI => ?_)
  refine lv_aload_n hx hb dX4_init_95 rfl (lv_at hl 0 rfl) ?_
  refine lv_sipush (v := nI 768) hx hb dX4_init_96 (by decide) ?_
  refine cg_newa (atype := .int) (ty := .int) (cA := K 0) hx hb (hts (.arrayClass .int) (by decide +kernel)) rfl 0 rfl (Or.inl rfl) hK hI (n := nI 768) (N' := 768) (nI_pos (by decide)) (nI_clamp (by decide)) (Nat.le_of_ble_eq_true rfl) (Nat.le_of_ble_eq_true rfl) (Nat.le_of_ble_eq_true rfl) dX4_init_99 rfl (fun H hI => ?_)
  refine cg_put hx hb hts (by decide +kernel) tyX4 tyX4_ok nmX4 hown hin hK hI (ci := 4) (fs := [.int 0, .int 0, .ref (sz + 0), .ref (sz + 1), .ref (sz + 2), .ref (sz + 3), .ref (sz + 4), .ref (sz + 5), .int 0, .ref (sz + 6), .ref (sz + 7), .ref (sz + 8), .ref (sz + 9), .ref (sz + 10), .null, .int 0, .int 0, .int 0, .int 0, .int 0, .int 0, .int 0, .null, .null, .null]) (v := .ref (sz + 11)) rfl rfl 14 (by decide) (by decide +kernel) rfl rfl rfl (Nat.le_of_ble_eq_true rfl) dX4_init_101 rfl (fun H locs hI => ?_)
  refine lv_aload_n hx hb dX4_init_104 rfl (lv_at hl 0 rfl) ?_
  refine lv_iconst (v := nI 1) hx hb dX4_init_105 (by decide) ?_
  refine cg_put hx hb hts (by decide +kernel) tyX4 tyX4_ok nmX4 hown hin hK hI (ci := 4) (fs := [.int 0, .int 0, .ref (sz + 0), .ref (sz + 1), .ref (sz + 2), .ref (sz + 3), .ref (sz + 4), .ref (sz + 5), .int 0, .ref (sz + 6), .ref (sz + 7), .ref (sz + 8), .ref (sz + 9), .ref (sz + 10), .ref (sz + 11), .int 0, .int 0, .int 0, .int 0, .int 0, .int 0, .int 0, .null, .null, .null]) (v := .int (nI 1)) rfl rfl 16 (by decide) (by decide +kernel) rfl rfl rfl (Nat.le_of_ble_eq_true rfl) dX4_init_106 rfl (fun H locs hI => ?_)
  refine lv_aload_n hx hb dX4_init_109 rfl (lv_at hl 0 rfl) ?_
  refine lv_iconst (v := nI 1) hx hb dX4_init_110 (by decide) ?_
  refine cg_put hx hb hts (by decide +kernel) tyX4 tyX4_ok nmX4 hown hin hK hI (ci := 4) (fs := [.int 0, .int 0, .ref (sz + 0), .ref (sz + 1), .ref (sz + 2), .ref (sz + 3), .ref (sz + 4), .ref (sz + 5), .int 0, .ref (sz + 6), .ref (sz + 7), .ref (sz + 8), .ref (sz + 9), .ref (sz + 10), .ref (sz + 11), .int 0, .int (nI 1), .int 0, .int 0, .int 0, .int 0, .int 0, .null, .null, .null]) (v := .int (nI 1)) rfl rfl 17 (by decide) (by decide +kernel) rfl rfl rfl (Nat.le_of_ble_eq_true rfl) dX4_init_111 rfl (fun H locs hI => ?_)
  refine lv_aload_n hx hb dX4_init_114 rfl (lv_at hl 0 rfl) ?_
  refine lv_iconst (v := -1) hx hb dX4_init_115 (by decide) ?_
  refine cg_put hx hb hts (by decide +kernel) tyX4 tyX4_ok nmX4 hown hin hK hI (ci := 4) (fs := [.int 0, .int 0, .ref (sz + 0), .ref (sz + 1), .ref (sz + 2), .ref (sz + 3), .ref (sz + 4), .ref (sz + 5), .int 0, .ref (sz + 6), .ref (sz + 7), .ref (sz + 8), .ref (sz + 9), .ref (sz + 10), .ref (sz + 11), .int 0, .int (nI 1), .int (nI 1), .int 0, .int 0, .int 0, .int 0, .null, .null, .null]) (v := .int (-1)) rfl rfl 19 (by decide) (by decide +kernel) rfl rfl rfl (Nat.le_of_ble_eq_true rfl) dX4_init_116 rfl (fun H locs hI => ?_)
  refine lv_aload_n hx hb dX4_init_119 rfl (lv_at hl 0 rfl) ?_
  refine lv_bipush (v := nI 13) hx hb dX4_init_120 (by decide) ?_
  refine cg_newa (atype := .int) (ty := .int) (cA := K 0) hx hb (hts (.arrayClass .int) (by decide +kernel)) rfl 0 rfl (Or.inl rfl) hK hI (n := nI 13) (N' := 13) (nI_pos (by decide)) (nI_clamp (by decide)) (Nat.le_of_ble_eq_true rfl) (Nat.le_of_ble_eq_true rfl) (Nat.le_of_ble_eq_true rfl) dX4_init_122 rfl (fun H hI => ?_)
  refine cg_put hx hb hts (by decide +kernel) tyX4 tyX4_ok nmX4 hown hin hK hI (ci := 4) (fs := [.int 0, .int 0, .ref (sz + 0), .ref (sz + 1), .ref (sz + 2), .ref (sz + 3), .ref (sz + 4), .ref (sz + 5), .int 0, .ref (sz + 6), .ref (sz + 7), .ref (sz + 8), .ref (sz + 9), .ref (sz + 10), .ref (sz + 11), .int 0, .int (nI 1), .int (nI 1), .int 0, .int (-1), .int 0, .int 0, .null, .null, .null]) (v := .ref (sz + 12)) rfl rfl 22 (by decide) (by decide +kernel) rfl rfl rfl (Nat.le_of_ble_eq_true rfl) dX4_init_124 rfl (fun H locs hI => ?_)
  refine lv_aload_n hx hb dX4_init_127 rfl (lv_at hl 0 rfl) ?_
  refine lv_bipush (v := nI 8) hx hb dX4_init_128 (by decide) ?_
  refine cg_newa (atype := .int) (ty := .int) (cA := K 0) hx hb (hts (.arrayClass .int) (by decide +kernel)) rfl 0 rfl (Or.inl rfl) hK hI (n := nI 8) (N' := 8) (nI_pos (by decide)) (nI_clamp (by decide)) (Nat.le_of_ble_eq_true rfl) (Nat.le_of_ble_eq_true rfl) (Nat.le_of_ble_eq_true rfl) dX4_init_130 rfl (fun H hI => ?_)
  refine cg_put hx hb hts (by decide +kernel) tyX4 tyX4_ok nmX4 hown hin hK hI (ci := 4) (fs := [.int 0, .int 0, .ref (sz + 0), .ref (sz + 1), .ref (sz + 2), .ref (sz + 3), .ref (sz + 4), .ref (sz + 5), .int 0, .ref (sz + 6), .ref (sz + 7), .ref (sz + 8), .ref (sz + 9), .ref (sz + 10), .ref (sz + 11), .int 0, .int (nI 1), .int (nI 1), .int 0, .int (-1), .int 0, .int 0, .ref (sz + 12), .null, .null]) (v := .ref (sz + 13)) rfl rfl 23 (by decide) (by decide +kernel) rfl rfl rfl (Nat.le_of_ble_eq_true rfl) dX4_init_132 rfl (fun H locs hI => ?_)
  refine lv_aload_n hx hb dX4_init_135 rfl (lv_at hl 0 rfl) ?_
  refine lv_bipush (v := nI 48) hx hb dX4_init_136 (by decide) ?_
  refine cg_newa (atype := .int) (ty := .int) (cA := K 0) hx hb (hts (.arrayClass .int) (by decide +kernel)) rfl 0 rfl (Or.inl rfl) hK hI (n := nI 48) (N' := 48) (nI_pos (by decide)) (nI_clamp (by decide)) (Nat.le_of_ble_eq_true rfl) (Nat.le_of_ble_eq_true rfl) (Nat.le_of_ble_eq_true rfl) dX4_init_138 rfl (fun H hI => ?_)
  refine cg_put hx hb hts (by decide +kernel) tyX4 tyX4_ok nmX4 hown hin hK hI (ci := 4) (fs := [.int 0, .int 0, .ref (sz + 0), .ref (sz + 1), .ref (sz + 2), .ref (sz + 3), .ref (sz + 4), .ref (sz + 5), .int 0, .ref (sz + 6), .ref (sz + 7), .ref (sz + 8), .ref (sz + 9), .ref (sz + 10), .ref (sz + 11), .int 0, .int (nI 1), .int (nI 1), .int 0, .int (-1), .int 0, .int 0, .ref (sz + 12), .ref (sz + 13), .null]) (v := .ref (sz + 14)) rfl rfl 24 (by decide) (by decide +kernel) rfl rfl rfl (Nat.le_of_ble_eq_true rfl) dX4_init_140 rfl (fun H locs hI => ?_)
  refine lv_aload_n hx hb dX4_init_143 rfl (lv_at hl 0 rfl) ?_
  refine lv_iconst (v := nI 3) hx hb dX4_init_144 (by decide) ?_
  refine lv_iload_n hx hb dX4_init_145 rfl (lv_at hl 1 rfl) ?_
  refine lv_iconst (v := nI 4) hx hb dX4_init_146 (by decide) ?_
  refine lv_irem hx hb dX4_init_147 (by decide) ?_
  refine lv_iconst (v := nI 4) hx hb dX4_init_148 (by decide) ?_
  refine lv_iadd hx hb dX4_init_149 ?_
  refine lv_iconst (v := nI 4) hx hb dX4_init_150 (by decide) ?_
  refine lv_irem hx hb dX4_init_151 (by decide) ?_
  refine lv_iadd hx hb dX4_init_152 ?_
  rw [hn]
  refine cg_put hx hb hts (by decide +kernel) tyX4 tyX4_ok nmX4 hown hin hK hI (ci := 4) (fs := [.int 0, .int 0, .ref (sz + 0), .ref (sz + 1), .ref (sz + 2), .ref (sz + 3), .ref (sz + 4), .ref (sz + 5), .int 0, .ref (sz + 6), .ref (sz + 7), .ref (sz + 8), .ref (sz + 9), .ref (sz + 10), .ref (sz + 11), .int 0, .int (nI 1), .int (nI 1), .int 0, .int (-1), .int 0, .int 0, .ref (sz + 12), .ref (sz + 13), .ref (sz + 14)]) (v := .int (nI n)) rfl rfl 1 (by decide) (by decide +kernel) rfl rfl rfl (Nat.le_of_ble_eq_true rfl) dX4_init_153 rfl (fun H locs hI => ?_)
  refine W.widen (k := 15) (n := 2375) (by omega) (by omega) ?_
  exact W.vret hx hb hr (fun t ht hW => ⟨⟨(), rfl, trivial, by rw [ht]; exact hI.2.2.1, by rw [ht]; exact cg_P_to hI.2.2.2.1 (fun k hk => by rcases (show k = 0 ∨ k = 1 ∨ k = 2 ∨ k = 3 ∨ k = 4 ∨ k = 5 ∨ k = 6 ∨ k = 7 ∨ k = 8 ∨ k = 9 ∨ k = 10 ∨ k = 11 ∨ k = 12 ∨ k = 13 ∨ k = 14 ∨ k = 15 by omega) with rfl | rfl | rfl | rfl | rfl | rfl | rfl | rfl | rfl | rfl | rfl | rfl | rfl | rfl | rfl | rfl <;> rfl)⟩, hI.2.2.2.2.F ht⟩) hI.2.2.2.2.2.2 dX4_init_156
