/-! THE CONSTRUCTORS: Disk, Entry, the model (by program: wip/tools/ctors_1.py) -/
theorem cg_start {D : va_G} {h0 sz : Nat} {e : va_E} {s : State} (hsz : s.heap.size = sz) (hh : h0 < sz) (h : va_at D vwCl (h0, e) s.heap) : cg_I D h0 sz 0 (fun _ => e) s.heap s.heap [] :=
  ⟨hsz, hh, hsz, cg_P_of (fun k hk => by rcases (show k = 0 by omega) with rfl; exact h), va_S.rf⟩
theorem cg_P_to {D : va_G} {N : Nat} {ad : Nat → Nat} {ct ct' : Nat → va_E} {H : Heap} (h : va_P D vwCl (cg_w ad ct N) H) (he : ∀ k, k < N → ct k = ct' k) : va_P D vwCl (cg_w ad ct' N) H := cg_P_of (fun k hk => by rw [← he k hk]; exact h k _ (cg_w_at hk))
theorem cg_I.to {D : va_G} {h0 sz N N' : Nat} {ct ct' : Nat → va_E} {H0 H : Heap} {locs : List Loc} (h : cg_I D h0 sz N ct H0 H locs) (hN : N = N') (he : ∀ k, k < N + 1 → ct k = ct' k) : cg_I D h0 sz N' ct' H0 H locs := by
  subst hN
  exact ⟨h.1, h.2.1, h.2.2.1, cg_P_to h.2.2.2.1 he, h.2.2.2.2⟩
def ct_X0 (K : Nat → ClassId) (_ sz : Nat) (k : Nat) : va_E := match k with
  | 0 => .inr (0, [.ref sz, .ref (sz + 1), .ref (sz + 2), .int (nI 0), .int (nI 24), .int (nI 0)])
  | 1 => .inl (K 0, 192, .inl fun _ => 0)
  | 2 => .inl (K 0, 24, .inl fun _ => 0)
  | _ => .inl (K 1, 24, .inl fun _ => 0)
set_option maxHeartbeats 4000000 in
set_option maxRecDepth 100000 in
theorem ck_X0 (l : Launch) (D : va_G) (K : Nat → ClassId) : cg_M l D K yX0_init wsX0_init { frames := 1, cells := 3, slots := 240, locals := 12 } 3 240 0 [.null, .null, .null, .int 0, .int 0, .int 0] [] 3 (ct_X0 K) := by
  intro h0 sz hh
  refine Met.ofW (cc := cX0_init) (maxL := 1) (ret := none) (by decide) rfl ?_
  intro p e s m args below meth c s₁ B hml hv
  obtain ⟨rfl, hsz, hA0, hK⟩ := hv
  have hx := B.exec
  have hb := B.bytes
  have hr := B.returns
  have hts := atoms_spec (ws := wsX0_init) B.pre
  have hown : s.vm.findClass RX0 = some m.cls := findClass_of_methodNamed B.named
  have hlocks := B.notSynchronized
  have hin : meth.name = "<init>" := (name_of_methodNamed B.named B.method).1
  have hI := cg_start hsz hh hA0
  have hl := lv_entry ([.ref h0]) (n := 1) (Nat.le_of_ble_eq_true rfl)
  rw [lg_entry_eq]
  generalize (lg_sl ([.ref h0]) ++ List.replicate (1 - (lg_sl ([.ref h0])).length) Slot.unset).toArray = ls at hl ⊢
  have hl : lv_has ls 1 [(0, .ref h0)] := hl
  refine lv_aload_n hx hb dX0_init_0 rfl (lv_at hl 0 rfl) ?_
  refine W.objInit hx hb hown (hts (.methodLink RX0 3 objectInit) (by decide +kernel)) (hts (.instanceMethod objectInit) (by decide +kernel)) (hts _ (List.mem_of_getElem? (i := 3) rfl)) rfl (by rw [hml]; exact hl.1) rfl dX0_init_1 (Nat.le_of_ble_eq_true rfl) (Nat.le_of_ble_eq_true rfl) ?_
  refine W.eq (g2 := F0 m 4 ls []) rfl ?_
  refine lv_aload_n hx hb dX0_init_4 rfl (lv_at hl 0 rfl) ?_
  refine lv_sipush (v := nI 192) hx hb dX0_init_5 (by decide) ?_
  refine cg_newa (atype := .int) (ty := .int) (cA := K 0) hx hb (hts (.arrayClass .int) (by decide +kernel)) rfl 0 rfl (Or.inl rfl) hK hI (n := nI 192) (N' := 192) (nI_pos (by decide)) (nI_clamp (by decide)) (Nat.le_of_ble_eq_true rfl) (Nat.le_of_ble_eq_true rfl) (Nat.le_of_ble_eq_true rfl) dX0_init_8 rfl (fun H hI => ?_)
  refine cg_put hx hb hts (by decide +kernel) tyX0 tyX0_ok nmX0 hown hin hK hI (ci := 0) (fs := [.null, .null, .null, .int 0, .int 0, .int 0]) (v := .ref (sz + 0)) rfl rfl 0 (by decide) (by decide +kernel) rfl rfl rfl (Nat.le_of_ble_eq_true rfl) dX0_init_10 rfl (fun H locs hI => ?_)
  refine lv_aload_n hx hb dX0_init_13 rfl (lv_at hl 0 rfl) ?_
  refine lv_bipush (v := nI 24) hx hb dX0_init_14 (by decide) ?_
  refine cg_newa (atype := .int) (ty := .int) (cA := K 0) hx hb (hts (.arrayClass .int) (by decide +kernel)) rfl 0 rfl (Or.inl rfl) hK hI (n := nI 24) (N' := 24) (nI_pos (by decide)) (nI_clamp (by decide)) (Nat.le_of_ble_eq_true rfl) (Nat.le_of_ble_eq_true rfl) (Nat.le_of_ble_eq_true rfl) dX0_init_16 rfl (fun H hI => ?_)
  refine cg_put hx hb hts (by decide +kernel) tyX0 tyX0_ok nmX0 hown hin hK hI (ci := 0) (fs := [.ref (sz + 0), .null, .null, .int 0, .int 0, .int 0]) (v := .ref (sz + 1)) rfl rfl 1 (by decide) (by decide +kernel) rfl rfl rfl (Nat.le_of_ble_eq_true rfl) dX0_init_18 rfl (fun H locs hI => ?_)
  refine lv_aload_n hx hb dX0_init_21 rfl (lv_at hl 0 rfl) ?_
  refine lv_bipush (v := nI 24) hx hb dX0_init_22 (by decide) ?_
  refine cg_newa (atype := .boolean) (ty := .boolean) (cA := K 1) hx hb (hts (.arrayClass .boolean) (by decide +kernel)) rfl 1 rfl (Or.inr rfl) hK hI (n := nI 24) (N' := 24) (nI_pos (by decide)) (nI_clamp (by decide)) (Nat.le_of_ble_eq_true rfl) (Nat.le_of_ble_eq_true rfl) (Nat.le_of_ble_eq_true rfl) dX0_init_24 rfl (fun H hI => ?_)
  refine cg_put hx hb hts (by decide +kernel) tyX0 tyX0_ok nmX0 hown hin hK hI (ci := 0) (fs := [.ref (sz + 0), .ref (sz + 1), .null, .int 0, .int 0, .int 0]) (v := .ref (sz + 2)) rfl rfl 2 (by decide) (by decide +kernel) rfl rfl rfl (Nat.le_of_ble_eq_true rfl) dX0_init_26 rfl (fun H locs hI => ?_)
  refine lv_aload_n hx hb dX0_init_29 rfl (lv_at hl 0 rfl) ?_
  refine lv_iconst (v := nI 0) hx hb dX0_init_30 (by decide) ?_
  refine cg_put hx hb hts (by decide +kernel) tyX0 tyX0_ok nmX0 hown hin hK hI (ci := 0) (fs := [.ref (sz + 0), .ref (sz + 1), .ref (sz + 2), .int 0, .int 0, .int 0]) (v := .int (nI 0)) rfl rfl 3 (by decide) (by decide +kernel) rfl rfl rfl (Nat.le_of_ble_eq_true rfl) dX0_init_31 rfl (fun H locs hI => ?_)
  refine lv_aload_n hx hb dX0_init_34 rfl (lv_at hl 0 rfl) ?_
  refine lv_bipush (v := nI 24) hx hb dX0_init_35 (by decide) ?_
  refine cg_put hx hb hts (by decide +kernel) tyX0 tyX0_ok nmX0 hown hin hK hI (ci := 0) (fs := [.ref (sz + 0), .ref (sz + 1), .ref (sz + 2), .int (nI 0), .int 0, .int 0]) (v := .int (nI 24)) rfl rfl 4 (by decide) (by decide +kernel) rfl rfl rfl (Nat.le_of_ble_eq_true rfl) dX0_init_37 rfl (fun H locs hI => ?_)
  refine lv_aload_n hx hb dX0_init_40 rfl (lv_at hl 0 rfl) ?_
  refine lv_iconst (v := nI 0) hx hb dX0_init_41 (by decide) ?_
  refine cg_put hx hb hts (by decide +kernel) tyX0 tyX0_ok nmX0 hown hin hK hI (ci := 0) (fs := [.ref (sz + 0), .ref (sz + 1), .ref (sz + 2), .int (nI 0), .int (nI 24), .int 0]) (v := .int (nI 0)) rfl rfl 5 (by decide) (by decide +kernel) rfl rfl rfl (Nat.le_of_ble_eq_true rfl) dX0_init_42 rfl (fun H locs hI => ?_)
  refine W.widen (k := 3) (n := 240) (by omega) (by omega) ?_
  exact W.vret hx hb hr (fun t ht hW => ⟨⟨(), rfl, trivial, by rw [ht]; exact hI.2.2.1, by rw [ht]; exact cg_P_to hI.2.2.2.1 (fun k hk => by rcases (show k = 0 ∨ k = 1 ∨ k = 2 ∨ k = 3 by omega) with rfl | rfl | rfl | rfl <;> rfl)⟩, hI.2.2.2.2.F ht⟩) hI.2.2.2.2.2.2 dX0_init_45
def ct_X1 (K : Nat → ClassId) (n _ sz : Nat) (k : Nat) : va_E := match k with
  | 0 => .inr (1, [.ref sz, .int (nI 0), .int (nI 0), .int (nI 0)])
  | _ => .inl (K 0, 8 * n, .inl fun _ => 0)
theorem cg_n8 {n : Nat} (hn : n ≤ 6) : nI n * nI 8 = nI (8 * n) := by
  have : ∀ n, n < 7 → nI n * nI 8 = nI (8 * n) := by decide
  exact this n (by omega)
set_option maxHeartbeats 4000000 in
set_option maxRecDepth 100000 in
theorem ck_X1 (l : Launch) (D : va_G) (K : Nat → ClassId) (n : Nat) (hn : n ≤ 6) : cg_M l D K yX1_init wsX1_init { frames := 1, cells := 1, slots := 48, locals := 12 } 1 48 1 [.null, .int 0, .int 0, .int 0] [.int (nI n)] 1 (ct_X1 K n) := by
  intro h0 sz hh
  refine Met.ofW (cc := cX1_init) (maxL := 2) (ret := none) (by decide) rfl ?_
  intro p e s m args below meth c s₁ B hml hv
  obtain ⟨rfl, hsz, hA0, hK⟩ := hv
  have hx := B.exec
  have hb := B.bytes
  have hr := B.returns
  have hts := atoms_spec (ws := wsX1_init) B.pre
  have hown : s.vm.findClass RX1 = some m.cls := findClass_of_methodNamed B.named
  have hlocks := B.notSynchronized
  have hin : meth.name = "<init>" := (name_of_methodNamed B.named B.method).1
  have hI := cg_start hsz hh hA0
  have hl := lv_entry ([.ref h0, .int (nI n)]) (n := 2) (Nat.le_of_ble_eq_true rfl)
  rw [lg_entry_eq]
  generalize (lg_sl ([.ref h0, .int (nI n)]) ++ List.replicate (2 - (lg_sl ([.ref h0, .int (nI n)])).length) Slot.unset).toArray = ls at hl ⊢
  have hl : lv_has ls 2 [(0, .ref h0), (1, .int (nI n))] := hl
  refine lv_aload_n hx hb dX1_init_0 rfl (lv_at hl 0 rfl) ?_
  refine W.objInit hx hb hown (hts (.methodLink RX1 3 objectInit) (by decide +kernel)) (hts (.instanceMethod objectInit) (by decide +kernel)) (hts _ (List.mem_of_getElem? (i := 3) rfl)) rfl (by rw [hml]; exact hl.1) rfl dX1_init_1 (Nat.le_of_ble_eq_true rfl) (Nat.le_of_ble_eq_true rfl) ?_
  refine W.eq (g2 := F0 m 4 ls []) rfl ?_
  refine lv_aload_n hx hb dX1_init_4 rfl (lv_at hl 0 rfl) ?_
  refine lv_iconst (v := nI 0) hx hb dX1_init_5 (by decide) ?_
  refine cg_put hx hb hts (by decide +kernel) tyX1 tyX1_ok nmX1 hown hin hK hI (ci := 1) (fs := [.null, .int 0, .int 0, .int 0]) (v := .int (nI 0)) rfl rfl 1 (by decide) (by decide +kernel) rfl rfl rfl (Nat.le_of_ble_eq_true rfl) dX1_init_6 rfl (fun H locs hI => ?_)
  refine lv_aload_n hx hb dX1_init_9 rfl (lv_at hl 0 rfl) ?_
  refine lv_iconst (v := nI 0) hx hb dX1_init_10 (by decide) ?_
  refine cg_put hx hb hts (by decide +kernel) tyX1 tyX1_ok nmX1 hown hin hK hI (ci := 1) (fs := [.null, .int (nI 0), .int 0, .int 0]) (v := .int (nI 0)) rfl rfl 2 (by decide) (by decide +kernel) rfl rfl rfl (Nat.le_of_ble_eq_true rfl) dX1_init_11 rfl (fun H locs hI => ?_)
  refine lv_aload_n hx hb dX1_init_14 rfl (lv_at hl 0 rfl) ?_
  refine lv_iconst (v := nI 0) hx hb dX1_init_15 (by decide) ?_
  refine cg_put hx hb hts (by decide +kernel) tyX1 tyX1_ok nmX1 hown hin hK hI (ci := 1) (fs := [.null, .int (nI 0), .int (nI 0), .int 0]) (v := .int (nI 0)) rfl rfl 3 (by decide) (by decide +kernel) rfl rfl rfl (Nat.le_of_ble_eq_true rfl) dX1_init_16 rfl (fun H locs hI => ?_)
  refine lv_aload_n hx hb dX1_init_19 rfl (lv_at hl 0 rfl) ?_
  refine lv_iload_n hx hb dX1_init_20 rfl (lv_at hl 1 rfl) ?_
  refine lv_bipush (v := nI 8) hx hb dX1_init_21 (by decide) ?_
  refine lv_imul hx hb dX1_init_23 ?_
  rw [cg_n8 hn]
  have hbt : 8 * n * componentBytes .int ≤ 536870912 := Nat.le_trans (Nat.mul_le_mul_right _ (show 8 * n ≤ 48 by omega)) (by decide)
  have hsl : 0 + 8 * n ≤ (headSpec wsX1_init { frames := 1, cells := 1, slots := 48, locals := 12 }).room.slots := Nat.le_trans (show 0 + 8 * n ≤ 48 by omega) (Nat.le_of_ble_eq_true rfl)
  refine cg_newa (atype := .int) (ty := .int) (cA := K 0) hx hb (hts (.arrayClass .int) (by decide +kernel)) rfl 0 rfl (Or.inl rfl) hK hI (n := nI (8 * n)) (N' := 8 * n) (nI_pos (by omega)) (nI_clamp (by omega)) hbt (Nat.le_of_ble_eq_true rfl) hsl dX1_init_24 rfl (fun H hI => ?_)
  refine cg_put hx hb hts (by decide +kernel) tyX1 tyX1_ok nmX1 hown hin hK hI (ci := 1) (fs := [.null, .int (nI 0), .int (nI 0), .int (nI 0)]) (v := .ref (sz + 0)) rfl rfl 0 (by decide) (by decide +kernel) rfl rfl rfl (Nat.le_of_ble_eq_true rfl) dX1_init_26 rfl (fun H locs hI => ?_)
  refine W.widen (k := 1) (n := 48) (by omega) (by omega) ?_
  exact W.vret hx hb hr (fun t ht hW => ⟨⟨(), rfl, trivial, by rw [ht]; exact hI.2.2.1, by rw [ht]; exact cg_P_to hI.2.2.2.1 (fun k hk => by rcases (show k = 0 ∨ k = 1 by omega) with rfl | rfl <;> rfl)⟩, hI.2.2.2.2.F ht⟩) hI.2.2.2.2.2.2 dX1_init_29
