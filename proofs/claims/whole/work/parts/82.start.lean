/-! THE LAW'S START: what the tables give, the two objects, the row for a word -/
def lw_nf (w : Cond) : Bool := match w with
  | .fieldLinkNest _ _ _ _ _ _ => true
  | .methodLinkNest _ _ _ _ => true
  | _ => false
theorem lw_nf_ok {w : Cond} (h : lw_nf w = true) : vv_nf w ∧ w.onTables = true := by
  cases w <;> first | exact ⟨Or.inl ⟨_, _, _, _, _, _, rfl⟩, rfl⟩ | exact ⟨Or.inr ⟨_, _, _, _, rfl⟩, rfl⟩ | cases h
theorem lw_nest {s : State} {b : Nat} (htbl : ∀ w ∈ lw_tbl, w.before #[Value.ref b] s = true) : ∀ w ∈ pc_nw, vv_nf w ∧ va_Nw w s := by
  have h1 : ∀ w ∈ pc_nw, w ∈ lw_tbl := by decide +kernel
  have h2 : ∀ w ∈ pc_nw, lw_nf w = true := by decide +kernel
  exact fun w hw => ⟨(lw_nf_ok (h2 w hw)).1, va_Nw.of (lw_nf_ok (h2 w hw)).2 (htbl w (h1 w hw))⟩
theorem lw_arr {s : State} {A : Array Value} {ty : FieldType} (h : (Cond.arrayClass ty).before A s = true) : ∃ cA : ClassId, ArrOfT s cA ty ∧ s.vm.findClass ("[" ++ ty.toString) = some cA := by
  obtain ⟨cA, k, comp, h1, h2, h3⟩ := Cond.arrayClass_spec h
  exact ⟨cA, fun n z => ⟨fun k h => (by cases h), k, h2, comp, h3⟩, h1⟩
theorem lw_arq {s : State} {A : Array Value} {C : String} (h : (Cond.arrayOver (.object C)).before A s = true) : ∃ cA : ClassId, ArrOfT s cA (.object C) ∧ va_RA s cA (.object C) := by
  obtain ⟨comp, cA, k, h1, -, h2, h3, h4⟩ := Cond.arrayOver_spec h
  exact ⟨cA, fun n z => ⟨fun k h => (by cases h), k, h2, comp, h3⟩, k, comp, h2, h3, h1, h4⟩
theorem lw_known {s : State} {b : Nat} (htbl : ∀ w ∈ lw_tbl, w.before #[Value.ref b] s = true) : ∃ (D : va_G) (K : Nat → ClassId) (KL : ClassId), cg_K D K s ∧ ArrOfT s KL .long ∧ s.vm.findClass ("[" ++ FieldType.long.toString) = some KL := by
  have hts : ∀ w ∈ wsL_law, w.before #[Value.ref b] s = true := fun w h => htbl w (wsL_law_in w h)
  obtain ⟨c0, i0, k0⟩ := u_known hts inlX0 (htbl (.instantiable RX0 6) (by decide +kernel))
  obtain ⟨c1, i1, k1⟩ := u_known hts inlX1 (htbl (.instantiable RX1 4) (by decide +kernel))
  obtain ⟨c2, i2, k2⟩ := u_known hts inlX2 (htbl (.instantiable RX2 6) (by decide +kernel))
  obtain ⟨c3, i3, k3⟩ := u_known hts inlX3 (htbl (.instantiable RX3 10) (by decide +kernel))
  obtain ⟨c4, i4, k4⟩ := u_known hts inlX4 (htbl (.instantiable RX4 25) (by decide +kernel))
  obtain ⟨a0, r0, f0⟩ := lw_arr (htbl (.arrayClass .int) (by decide +kernel))
  obtain ⟨a1, r1, f1⟩ := lw_arr (htbl (.arrayClass .boolean) (by decide +kernel))
  obtain ⟨aL, rL, fL⟩ := lw_arr (htbl (.arrayClass .long) (by decide +kernel))
  have o2 := htbl (.arrayOver (.object RX0)) (by decide +kernel)
  have o3 := htbl (.arrayOver (.object RX1)) (by decide +kernel)
  obtain ⟨a2, r2, f2⟩ := lw_arq o2
  obtain ⟨a3, r3, f3⟩ := lw_arq o3
  refine ⟨(fun c => match c with | 0 => c0 | 1 => c1 | 2 => c2 | 3 => c3 | _ => c4, fun c => match c with | 0 => i0 | 1 => i1 | 2 => i2 | 3 => i3 | _ => i4), fun k => match k with | 0 => a0 | 1 => a1 | 2 => a2 | _ => a3, aL, ⟨⟨⟨fun c q hq => ?_, fun k q hk => ?_⟩, lw_nest htbl⟩, va_AO.of o2, va_AO.of o3⟩, rL, fL⟩
  · have hq : vwCl[c]? = some q := hq
    rcases (show c = 0 ∨ c = 1 ∨ c = 2 ∨ c = 3 ∨ c = 4 by
      have := (List.getElem?_eq_some_iff.mp hq).1
      have e : vwCl.length = 5 := rfl
      omega) with rfl | rfl | rfl | rfl | rfl
    · cases hq; exact k0
    · cases hq; exact k1
    · cases hq; exact k2
    · cases hq; exact k3
    · cases hq; exact k4
  · have hk : (cg_ty (fun k => match k with | 0 => a0 | 1 => a1 | 2 => a2 | _ => a3))[k]? = some q := hk
    rcases (show k = 0 ∨ k = 1 ∨ k = 2 ∨ k = 3 by
      have := (List.getElem?_eq_some_iff.mp hk).1
      have e : (cg_ty (fun k => match k with | 0 => a0 | 1 => a1 | 2 => a2 | _ => a3)).length = 4 := rfl
      omega) with rfl | rfl | rfl | rfl
    · cases hk; exact ⟨r0, f0⟩
    · cases hk; exact ⟨r1, f1⟩
    · cases hk; exact ⟨r2, f2⟩
    · cases hk; exact ⟨r3, f3⟩
theorem lw_str {s : State} {b k : Nat} {tx : String} (h1 : (Cond.stringRef RX3 k tx).before #[Value.ref b] s = true) (h2 : (Cond.exactly (.string RX3 k) "java/lang/String").before #[Value.ref b] s = true) : ∃ a, vk_R RX3 k tx a s := by
  obtain ⟨a, -, -, -, h3, -⟩ := Cond.exactly_spec h2
  exact ⟨a, vk_R.of h1 h3⟩
theorem lw_throws {s : State} {b : Nat} (htbl : ∀ w ∈ lw_tbl, w.before #[Value.ref b] s = true) (hgv : (Jvm.Cond.and given_1 narrow_1).before #[Value.ref b] s = true) : (∃ sa, cx_K sa s) ∧ cx_Z (lw_A s) s s.heap := by
  have hs := flat_of_before _ hgv
  obtain ⟨a0, e0⟩ := lw_str (tx := "no such block or word") (htbl (.stringRef RX3 84 "no such block or word") (by decide +kernel)) (hs (.exactly (.string RX3 84) "java/lang/String") (by decide +kernel))
  obtain ⟨a1, e1⟩ := lw_str (tx := "the power is gone") (htbl (.stringRef RX3 91 "the power is gone") (by decide +kernel)) (hs (.exactly (.string RX3 91) "java/lang/String") (by decide +kernel))
  obtain ⟨a2, e2⟩ := lw_str (tx := "the block comes from nothing") (htbl (.stringRef RX3 94 "the block comes from nothing") (by decide +kernel)) (hs (.exactly (.string RX3 94) "java/lang/String") (by decide +kernel))
  refine ⟨⟨fun k => match k with | 0 => a0 | 1 => a1 | _ => a2, ⟨va_Nw.of rfl (htbl _ ?_), va_Nw.of rfl (htbl _ ?_), va_Nw.of rfl (htbl _ ?_)⟩, ⟨va_Nw.of rfl (htbl _ ?_), va_Nw.of rfl (htbl _ ?_)⟩, va_Nc.of (hs (.not (.castable xIS xIO)) ?_), e0, e1, e2⟩, vx_Zqof (htbl _ ?_) (htbl _ ?_) (hs _ ?_) (fun a h1 h2 => ?_), vx_Zqof (htbl _ ?_) (htbl _ ?_) (hs _ ?_) (fun a h1 h2 => ?_)⟩
  all_goals first | decide +kernel | exact absurd h1 (Nat.not_lt.mpr h2)
set_option maxHeartbeats 4000000 in
set_option maxRecDepth 100000 in
/-- from the entry, for every script of at most 2561 ints, the law comes to its end with true -/
theorem whole_start {p : Program} {e : Env} {s : State} {m : MethodId} {below : List Frame} {meth : Method} {c : Code} (l : Launch) (hlt : l.stackTraces = false) {b L : Nat} {xs : Nat → Int32} (hL : L ≤ 2561) (C0 : lw_At p s m meth c b L xs) : W p l e room_1 s m #[Value.ref b] below meth c s.heap [] 0 0 (lw_Z below #[Value.ref b] s) (entryFrame m ([Value.ref b] : List Value).toArray 7) := by
  obtain ⟨hx, hb, hr, hml, hown, htbl, hX, hbl, hlk, hgv⟩ := C0
  have hts : ∀ w ∈ wsL_law, w.before #[Value.ref b] s = true := fun w h => htbl w (wsL_law_in w h)
  obtain ⟨D, K, KL, hK, hAr, hfL⟩ := lw_known htbl
  obtain ⟨⟨sa, hXk⟩, hZ⟩ := lw_throws htbl hgv
  obtain ⟨hn3, hn6, hnc, hnm⟩ := pr_n_ok (lw_c0 L xs)
  generalize hnv : pr_n (lw_c0 L xs) = n at hn3 hn6 hnc hnm
  have C : lw_C p l s m meth c b L xs n D K KL sa := ⟨⟨hx, hb, hml, hown, hts⟩, ⟨hX, hbl, hL⟩, ⟨hK, hXk, hZ, hAr⟩, ⟨hn3, hn6⟩, hlt⟩
  have hl := lv_entry ([.ref b]) (n := 7) (Nat.le_of_ble_eq_true rfl)
  rw [lg_entry_eq]
  generalize (lg_sl ([.ref b]) ++ List.replicate (7 - (lg_sl ([.ref b])).length) Slot.unset).toArray = ls at hl ⊢
  have hl : lv_has ls 7 [(0, .ref b)] := hl
  have hblind : ∀ Hf, FrameBlind (lc_Pc b L xs Hf) := fun Hf a U g mk h => ⟨h.1, h.2.1.moved (u := U) (U := U.calling g mk a) (Vm.Alike.refl U.vm), h.2.2⟩
  -- the class's object
  refine W.newcK hx hb hown (hts (.classLink RL 8 RX3) (by decide +kernel)) (hts (.instantiable RX3 10) (by decide +kernel)) (hts (.initialized RX3) (by decide +kernel)) rfl dL_law_0 (Nat.le_of_ble_eq_true rfl) (Nat.le_of_ble_eq_true rfl) (hK.va.1 3 _ rfl).2.1 rfl (fun H1 kC hkC e1 z1 o1 => ?_)
  have at1 : va_at D vwCl (s.heap.size, .inr (3, [.int 0, .int 0, .null, .null, .null, .null, .int 0, .int 0, .int 0, .int 0])) H1 := ⟨_, rfl, (u_born tyX3 hts inlX3 (hK.va.1 3 _ rfl) hkC e1 tyX3_ok).to (fun j hj => by rcases (show j = 0 ∨ j = 1 ∨ j = 2 ∨ j = 3 ∨ j = 4 ∨ j = 5 ∨ j = 6 ∨ j = 7 ∨ j = 8 ∨ j = 9 by omega) with rfl | rfl | rfl | rfl | rfl | rfl | rfl | rfl | rfl | rfl <;> rfl)⟩
  have hS1 : va_S (lw_A s) s.heap H1 [] := ⟨by omega, fun q h1 _ => o1 q h1, fun _ h => by cases h⟩
  refine W.eq (g2 := F0 m 3 ls [.ref s.heap.size]) rfl ?_
  refine lv_dup hx hb dL_law_3 rfl ?_
  refine lv_aload_n hx hb dL_law_4 rfl (lv_at hl 0 rfl) ?_
  refine lv_iconst (v := nI 0) hx hb dL_law_5 (by decide) ?_
  refine va_calli (va_runS (As := [.ref b, .int (nI 0)]) (rest := [.ref s.heap.size, .ref s.heap.size]) ⟨hx, hb, hml, hown, hts⟩ (ck_cell l b L xs H1 hL) (va_cwS 2 hts gL_law_L_cell rfl rfl rfl (by decide +kernel) ⟨Nat.le_of_ble_eq_true rfl, Nat.le_of_ble_eq_true rfl⟩) ⟨hblind H1, fun U hU hW => ⟨rfl, by rw [hU]; exact (hX.moved hW.alike).kept (o1 b hbl), hU⟩⟩ rfl rfl hl.1 rfl (lv_room (Nat.le_of_ble_eq_true rfl)) dL_law_6 ⟨Nat.le_of_ble_eq_true rfl, Nat.le_of_ble_eq_true rfl⟩) hS1 (fun _ _ h => h.elim) (fun _ h => h.elim) (fun r u t H1' locs1 ht _ hp hB _ _ hS1' => ?_)
  have hp : r = lw_c0 L xs := hp
  have hB : t.heap = H1 := hB
  rw [ht] at hB
  subst hB
  subst hp
  refine va_callv (va_runI (As := [.int (lw_c0 L xs)]) (rest := [.ref s.heap.size]) ⟨hx, hb, hml, hown, hts⟩ (ck_X3 l D K n (lw_c0 L xs) hn3 hn6 hnc s.heap.size (s.heap.size + 1) (by omega)) (cwI 1 hts gL_law_X3_init rfl rfl rfl (hts (.initialized RX3) (by decide +kernel)) (hts (.methodLink RL 23 yX3_init) (by decide +kernel)) (hts (.instanceMethod yX3_init) (by decide +kernel)) rfl (by decide +kernel) ⟨Nat.le_of_ble_eq_true rfl, Nat.le_of_ble_eq_true rfl⟩) ⟨cg_blind, fun U hU hW => ⟨rfl, by rw [hU]; exact z1, by rw [hU]; exact at1, hK.warm hW⟩⟩ rfl rfl hl.1 rfl (lv_room (Nat.le_of_ble_eq_true rfl)) dL_law_9 ⟨Nat.le_of_ble_eq_true rfl, Nat.le_of_ble_eq_true rfl⟩) hS1' (fun q _ h => ?_) (fun q h => ?_) (fun u t H2 locs2 ht _ _ hB hz2 hk2 hS2 => ?_)
  · rcases h with h | h
    · show s.heap.size ≤ q; omega
    · show s.heap.size ≤ q; omega
  · rcases h with h | h
    · show s.heap.size ≤ q; omega
    · show s.heap.size ≤ q; omega
  rw [ht] at hB
  obtain ⟨z2, hP2⟩ := hB
  have hPc2 : vv_P (lw_yc s n D K) pc_0 H2 := pc_made hn3 (by rw [show 28 + 4 * n = 27 + 4 * n + 1 by omega]; exact hP2)
  have z2' : H2.size = lw_m0 s n := by unfold lw_m0; omega
  refine lv_astore_n hx hb dL_law_12 rfl hl (by decide) rfl (fun ls hl => ?_)
  -- the model's
  refine W.newcK hx hb hown (hts (.classLink RL 26 RX4) (by decide +kernel)) (hts (.instantiable RX4 25) (by decide +kernel)) (hts (.initialized RX4) (by decide +kernel)) rfl dL_law_13 (Nat.le_of_ble_eq_true rfl) (Nat.le_of_ble_eq_true rfl) (hK.va.1 4 _ rfl).2.1 z2' (fun H3 kM hkM e3 z3 o3 => ?_)
  have at3 : va_at D vwCl (lw_m0 s n, .inr (4, [.int 0, .int 0, .null, .null, .null, .null, .null, .null, .int 0, .null, .null, .null, .null, .null, .null, .int 0, .int 0, .int 0, .int 0, .int 0, .int 0, .int 0, .null, .null, .null])) H3 := ⟨_, rfl, (u_born tyX4 hts inlX4 (hK.va.1 4 _ rfl) hkM e3 tyX4_ok).to (fun j hj => by rcases (show j = 0 ∨ j = 1 ∨ j = 2 ∨ j = 3 ∨ j = 4 ∨ j = 5 ∨ j = 6 ∨ j = 7 ∨ j = 8 ∨ j = 9 ∨ j = 10 ∨ j = 11 ∨ j = 12 ∨ j = 13 ∨ j = 14 ∨ j = 15 ∨ j = 16 ∨ j = 17 ∨ j = 18 ∨ j = 19 ∨ j = 20 ∨ j = 21 ∨ j = 22 ∨ j = 23 ∨ j = 24 by omega) with rfl | rfl | rfl | rfl | rfl | rfl | rfl | rfl | rfl | rfl | rfl | rfl | rfl | rfl | rfl | rfl | rfl | rfl | rfl | rfl | rfl | rfl | rfl | rfl | rfl <;> rfl)⟩
  have hm0 : s.heap.size ≤ lw_m0 s n := Nat.le_add_right _ _
  have hS3 : va_S (lw_A s) s.heap H3 locs2 := ⟨by omega, fun q h1 h2 => by rw [o3 q (by omega)]; exact hS2.2.1 q h1 h2, hS2.2.2⟩
  have hPc3 : vv_P (lw_yc s n D K) pc_0 H3 := hPc2.kept (fun k q hq => o3 q.1 (by have := (hPc2 k q hq).lt; omega))
  refine W.eq (g2 := F0 m 16 ls [.ref (lw_m0 s n)]) rfl ?_
  refine lv_dup hx hb dL_law_16 rfl ?_
  refine lv_aload_n hx hb dL_law_17 rfl (lv_at hl 1 rfl) ?_
  refine lv_iconst (v := nI 0) hx hb dL_law_18 (by decide) ?_
  refine va_calli (va_runS (As := [.ref b, .int (nI 0)]) (rest := [.ref (lw_m0 s n), .ref (lw_m0 s n)]) ⟨hx, hb, hml, hown, hts⟩ (ck_cell l b L xs H3 hL) (va_cwS 2 hts gL_law_L_cell rfl rfl rfl (by decide +kernel) ⟨Nat.le_of_ble_eq_true rfl, Nat.le_of_ble_eq_true rfl⟩) ⟨hblind H3, fun U hU hW => ⟨rfl, by rw [hU]; exact (hX.moved hW.alike).kept (hS3.2.1 b hbl (fun z => by have z : s.heap.size ≤ b := z; omega)), hU⟩⟩ rfl rfl hl.1 rfl (lv_room (Nat.le_of_ble_eq_true rfl)) dL_law_19 ⟨Nat.le_of_ble_eq_true rfl, Nat.le_of_ble_eq_true rfl⟩) hS3 (fun _ _ h => h.elim) (fun _ h => h.elim) (fun r u t H3' locs3 ht _ hp hB _ _ hS3' => ?_)
  have hp : r = lw_c0 L xs := hp
  have hB : t.heap = H3 := hB
  rw [ht] at hB
  subst hB
  subst hp
  refine va_callv (va_runI (As := [.int (lw_c0 L xs)]) (rest := [.ref (lw_m0 s n)]) ⟨hx, hb, hml, hown, hts⟩ (ck_X4 l D K n (lw_c0 L xs) hnm (lw_m0 s n) (lw_m0 s n + 1) (by omega)) (cwI 1 hts gL_law_X4_init rfl rfl rfl (hts (.initialized RX4) (by decide +kernel)) (hts (.methodLink RL 28 yX4_init) (by decide +kernel)) (hts (.instanceMethod yX4_init) (by decide +kernel)) rfl (by decide +kernel) ⟨Nat.le_of_ble_eq_true rfl, Nat.le_of_ble_eq_true rfl⟩) ⟨cg_blind, fun U hU hW => ⟨rfl, by rw [hU]; exact z3, by rw [hU]; exact at3, hK.warm hW⟩⟩ rfl rfl hl.1 rfl (lv_room (Nat.le_of_ble_eq_true rfl)) dL_law_22 ⟨Nat.le_of_ble_eq_true rfl, Nat.le_of_ble_eq_true rfl⟩) hS3' (fun q _ h => ?_) (fun q h => ?_) (fun u t H4 locs4 ht _ _ hB hz4 hk4 hS4 => ?_)
  · rcases h with h | h
    · show s.heap.size ≤ q; omega
    · show s.heap.size ≤ q; omega
  · rcases h with h | h
    · show s.heap.size ≤ q; omega
    · show s.heap.size ≤ q; omega
  rw [ht] at hB
  obtain ⟨z4, hP4⟩ := hB
  have hPm4 : vv_P (lw_ym s n D K) pm_0 H4 := pm_made hP4
  have hPc4 : vv_P (lw_yc s n D K) pc_0 H4 := hPc3.kept (fun k q hq => by
    obtain ⟨k1, rfl⟩ := vv_inv hq
    have a1 := (lw_yc_in (s := s) (D := D) (K := K) k1).2
    refine hk4 _ ((hPc3 k _ hq).lt) (fun z => ?_)
    rcases z with z | z
    · have z : (lw_yc s n D K).2.1 k = lw_m0 s n := z
      omega
    · have z : lw_m0 s n + 1 ≤ (lw_yc s n D K).2.1 k := z
      omega)
  have z4' : H4.size = lw_oa s n := by unfold lw_oa; omega
  refine lv_astore_n hx hb dL_law_25 rfl hl (by decide) rfl (fun ls hl => ?_)
  -- the row for a word
  refine lv_iconst (v := nI 1) hx hb dL_law_26 (by decide) ?_
  refine va_newaK (atype := .long) hx hb (hts (.arrayClass .long) (by decide +kernel)) rfl dL_law_27 rfl (nI_pos (by decide)) (N := 1) (nI_clamp (by decide)) (Nat.le_of_ble_eq_true rfl) (Nat.le_of_ble_eq_true rfl) (Nat.le_of_ble_eq_true rfl) z4' (fun H5 cA e5 z5 o5 _ hNm => ?_)
  have hcA : cA = KL := Option.some.inj (hNm.symm.trans hfL)
  subst hcA
  have hoa : s.heap.size ≤ lw_oa s n := Nat.le_trans hm0 (Nat.le_add_right _ _)
  have hI : lw_I s n D K cA pc_0 pm_0 0 H5 locs4 := ⟨hPc4.kept (fun k q hq => o5 q.1 (by have := (hPc4 k q hq).lt; omega)), hPm4.kept (fun k q hq => o5 q.1 (by have := (hPm4 k q hq).lt; omega)), e5, by omega, fun q h1 h2 => by rw [o5 q (by omega)]; exact hS4.2.1 q h1 h2, hS4.2.2⟩
  refine W.eq (g2 := F0 m 29 ls [.ref (lw_oa s n)]) rfl ?_
  refine lv_astore_n hx hb dL_law_29 rfl hl (by decide) rfl (fun ls hl => ?_)
  refine lv_iconst (v := nI 1) hx hb dL_law_30 (by decide) ?_
  refine lv_istore hx hb dL_law_31 hl (by decide) rfl (fun ls hl => ?_)
  refine W.widen (k := 70 + 0) (n := 4600 + 6 * 0) (by omega) (by omega) ?_
  exact lw_loop C hr hlk 513 0 pc_0 pm_0 0 rfl (pr_0 hn3) H5 locs4 ls hI hl
