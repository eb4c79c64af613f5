/-! the law's cell, the law's word -/
def lw_c0 (L : Nat) (xs : Nat → Int32) : Int32 := if 0 < L then xs 0 else 0
def lc_Pc (b L : Nat) (xs : Nat → Int32) (Hf : Heap) : Array Value → State → Prop := fun v U => v = [Value.ref b, Value.int (nI 0)].toArray ∧ va_X b L xs U U.heap ∧ U.heap = Hf
def lc_Qc (r : Int32) (Hf : Heap) : Array Value → State → Outcome → State → Prop := va_Qi (S := Unit) (fun a _ => a = r) (fun _ t => t.heap = Hf) (fun _ => False)
set_option maxHeartbeats 4000000 in
set_option maxRecDepth 100000 in
theorem ck_cell (l : Launch) (b L : Nat) (xs : Nat → Int32) (Hf : Heap) (hL : L ≤ 2561) : Met l yL_cell wsL_cell { frames := 0, cells := 0, slots := 0, locals := 0 } (lc_Pc b L xs Hf) (lc_Qc (lw_c0 L xs) Hf) 0 0 (fun _ => False) := by
  refine Met.ofW (cc := cL_cell) (maxL := 2) (ret := some .int) (by decide) rfl ?_
  intro p e s m args below meth c s₁ B hml hv
  obtain ⟨rfl, hX, hH⟩ := hv
  have hx := B.exec
  have hb := B.bytes
  have hr := B.returns
  have hlocks := B.notSynchronized
  have hl := lv_entry ([.ref b, .int (nI 0)]) (n := 2) (Nat.le_of_ble_eq_true rfl)
  rw [lg_entry_eq]
  generalize (lg_sl ([.ref b, .int (nI 0)]) ++ List.replicate (2 - (lg_sl ([.ref b, .int (nI 0)])).length) Slot.unset).toArray = ls at hl ⊢
  have hl : lv_has ls 2 [(0, .ref b), (1, .int (nI 0))] := hl
  have hS : va_S (fun _ => False) s.heap s.heap [] := va_S.rf
  have hbl : b < s.heap.size := by
    obtain ⟨scr, h1, -⟩ := hX
    exact (Array.getElem?_eq_some_iff.mp h1).1
  have fin : ∀ t : State, t.heap = s.heap → ∀ r, r = lw_c0 L xs → lc_Qc (lw_c0 L xs) Hf #[Value.ref b, Value.int (nI 0)] s (.returned (some (.int r))) t := fun t ht r hr2 => ⟨⟨r, (), rfl, hr2, ht.trans hH⟩, by rw [ht]; exact Nat.le_refl _, fun q _ _ => by rw [ht]⟩
  refine lv_iload_n hx hb dL_cell_0 rfl (lv_at hl 1 rfl) ?_
  refine lv_aload_n hx hb dL_cell_1 rfl (lv_at hl 0 rfl) ?_
  refine va_slen hx hb hX hbl (fun z => z) hS dL_cell_2 ?_
  refine lv_icmp_ge hx hb dL_cell_3 (tgt := 12) rfl (fun h => ?_) (fun h => ?_)
  · have hz : L = 0 := by
      have := (nI_leI (by omega) (by omega)).mp (show nI L ≤ nI 0 from h)
      omega
    refine lv_iconst (v := nI 0) hx hb dL_cell_12 (by decide) ?_
    exact W.iret hx hb hr (fun t ht _ => fin t ht _ (by unfold lw_c0; rw [if_neg (by omega)]; rfl)) (fun _ hq => by cases hq) dL_cell_13
  · have hz : 0 < L := by
      rcases Nat.eq_zero_or_pos L with z | z
      · exact absurd (show nI L ≤ nI 0 by rw [z]; exact Int32.le_refl _) h
      · exact z
    refine lv_aload_n hx hb dL_cell_6 rfl (lv_at hl 0 rfl) ?_
    refine lv_iload_n hx hb dL_cell_7 rfl (lv_at hl 1 rfl) ?_
    refine va_sld hx hb hX hbl (fun z => z) hS (i := nI 0) (fun z => by
      rcases z with z | z
      · exact absurd z (by decide)
      · exact absurd hz (Nat.not_lt.mpr z)) dL_cell_8 ?_
    refine lv_goto hx hb dL_cell_9 (tgt := 13) rfl ?_
    exact W.iret hx hb hr (fun t ht _ => fin t ht _ (by unfold lw_c0; rw [if_pos hz]; rfl)) (fun _ hq => by cases hq) dL_cell_13
/-- the law's word: what it gives, and where -/
def cv_A (Y : vv_Y) (sz oa : Nat) : Nat → Prop := fun q => q = oa ∨ vv_A Y sz q
def cv_o (KL : ClassId) (w : Int64) : Cell := vp_cell KL (1, .inr (.inl fun _ => w))
def cv_Pc (Y : vv_Y) (b i : Int32) (σ : vv_S) (sz oa : Nat) (KL : ClassId) (w : Int64) (sa : Nat → Nat) : Array Value → State → Prop := fun v U => v = [Value.ref (Y.2.1 0), Value.int b, Value.int i, Value.ref oa].toArray ∧ U.heap.size = sz ∧ vv_P Y σ U.heap ∧ vv_K Y U ∧ cx_K sa U ∧ cx_Z (vv_A Y sz) U U.heap ∧ U.heap[oa]? = some (cv_o KL w) ∧ ArrOfT U KL .long
def cv_Qc (Y : vv_Y) (σ : vv_S) (n : Nat) (b i : Int32) (sz oa : Nat) (KL : ClassId) (w : Int64) : Array Value → State → Outcome → State → Prop := va_Qi (S := vv_S × Int64) (fun r u => r = nI (pc_th σ n b i) ∧ u = if pc_th σ n b i = 0 then (pc_wds σ n b, (pc_wds σ n b 5 i.toNatClampNeg).toInt64) else (σ, w)) (fun u t => vv_P Y u.1 t.heap ∧ t.heap[oa]? = some (cv_o KL u.2)) (cv_A Y sz oa)
theorem cv_blind {Y : vv_Y} {b i : Int32} {σ : vv_S} {sz oa : Nat} {KL : ClassId} {w : Int64} {sa : Nat → Nat} : FrameBlind (cv_Pc Y b i σ sz oa KL w sa) := by
  intro a U g mk h
  obtain ⟨h1, h2, h3, h4, h5, h6, h7, h8⟩ := h
  exact ⟨h1, h2, h3, vv_K.same (s := U) (U := U.calling g mk a) rfl h4, cx_K.same (s := U) (U := U.calling g mk a) rfl h5, h6.moved (u := U) (U := U.calling g mk a) (Vm.Alike.refl U.vm), h7, arrOfT_moved (u := U) (E := U.calling g mk a) (Vm.Alike.refl U.vm) h8⟩
set_option maxHeartbeats 4000000 in
set_option maxRecDepth 100000 in
theorem ck_lword (l : Launch) (hlt : l.stackTraces = false) (Y : vv_Y) (n : Nat) (hY : pc_sys Y n) (σ : vv_S) (b i : Int32) (hJ : pc_J σ) (sa : Nat → Nat) (sz oa : Nat) (KL : ClassId) (w : Int64) (hoa : oa < sz) (hoY : ∀ k, k < Y.1 → Y.2.1 k ≠ oa) : Met l yL_word wsL_word { frames := 7, cells := 1, slots := 6, locals := 137 } (cv_Pc Y b i σ sz oa KL w sa) (cv_Qc Y σ n b i sz oa KL w) 1 6 (cv_A Y sz oa) := by
  refine va_MetW (cc := cL_word) (maxL := 5) (ret := some .int) (hh := [(0, 10, 13, 13), (0, 10, 17, 15)]) (by decide) rfl ?_
  intro p e s m args below meth c s₁ B hml hv
  obtain ⟨rfl, hsz, hP, hK, hX, hZ, hO, hAr⟩ := hv
  subst hsz
  have hx := B.exec
  have hb := B.bytes
  have hr := B.returns
  have hts := atoms_spec (ws := wsL_word) B.pre
  have hown : s.vm.findClass RL = some m.cls := findClass_of_methodNamed B.named
  have hlocks := B.notSynchronized
  have htab : c.exceptionTable.toList = tableOf [(0, 10, 13, 13), (0, 10, 17, 15)] := vx_table (x := yL_word) B (hts _ List.mem_cons_self)
  have hS : va_S (cv_A Y s.heap.size oa) s.heap s.heap [] := va_S.rf
  have hnA : ¬ vv_A Y s.heap.size oa := fun z => by
    rcases z with ⟨k, h1, h2⟩ | z
    · exact hoY k h1 h2
    · omega
  have hl := lv_entry ([.ref (Y.2.1 0), .int b, .int i, .ref oa]) (n := 5) (Nat.le_of_ble_eq_true rfl)
  rw [lg_entry_eq]
  generalize (lg_sl ([.ref (Y.2.1 0), .int b, .int i, .ref oa]) ++ List.replicate (5 - (lg_sl ([.ref (Y.2.1 0), .int b, .int i, .ref oa])).length) Slot.unset).toArray = ls at hl ⊢
  have hl : lv_has ls 5 [(0, .ref (Y.2.1 0)), (1, .int b), (2, .int i), (3, .ref oa)] := hl
  refine lv_aload_n hx hb dL_word_0 rfl (lv_at hl 3 rfl) ?_
  refine lv_iconst (v := nI 0) hx hb dL_word_1 (by decide) ?_
  refine lv_aload_n hx hb dL_word_2 rfl (lv_at hl 0 rfl) ?_
  refine lv_iload_n hx hb dL_word_3 rfl (lv_at hl 1 rfl) ?_
  refine lv_iload_n hx hb dL_word_4 rfl (lv_at hl 2 rfl) ?_
  have hrecv : ∃ cellB : Cell, s.heap[Y.2.1 0]? = some cellB ∧ cellB.vm.isStatics = false ∧ s.vm.findClass RX3 = some cellB.cls := va_recv hK.1 hP (by rw [hY.cl]; rfl) (vv_atc (hY.k (by decide)) (hY.P _))
  refine vx_calli (vx_runV (As := [.int b, .int i]) (rest := [.int (nI 0), .ref oa]) ⟨hx, hb, hml, hown, hts⟩ (ck_word l hlt Y n hY σ b i hJ sa s.heap.size) (cwV 2 hts gL_word_X3_word rfl rfl rfl (by decide +kernel) ⟨Nat.le_of_ble_eq_true rfl, Nat.le_of_ble_eq_true rfl⟩) ⟨cw_blind, hrecv, fun U hU hW => ⟨⟨rfl, by rw [hU], by rw [hU]; exact hP, hK.warm hW⟩, hX.warm hW, by rw [hU]; exact hZ.moved hW.alike⟩⟩ rfl rfl hl.1 rfl (lv_room (Nat.le_of_ble_eq_true rfl)) dL_word_5 ⟨Nat.le_of_ble_eq_true rfl, Nat.le_of_ble_eq_true rfl⟩) hS (fun q _ h => Or.inr h) (fun q h => Or.inr h) (fun q _ h => Or.inr h) (fun E ce q9 u t H1 locs1 ht hal _ hB hz hk hS hc9 hv9 hcl9 => ?_) (fun r u t H1 locs1 ht hal hp hB hz hk hS => ?_)
  · obtain ⟨hE, hP1⟩ := hB
    rw [ht] at hP1
    have hO1 : H1[oa]? = some (cv_o KL w) := by rw [hk oa hoa hnA]; exact hO
    have fin : ∀ (t : State) (r : Int32), t.heap = H1 → r = nI (pc_th σ n b i) → ¬ pc_th σ n b i = 0 → cv_Qc Y σ n b i s.heap.size oa KL w #[Value.ref (Y.2.1 0), Value.int b, Value.int i, Value.ref oa] s (.returned (some (.int r))) t := fun t r ht hr h0 => ⟨⟨r, (σ, w), rfl, ⟨hr, by rw [if_neg h0]⟩, by rw [ht]; exact hP1, by rw [ht]; exact hO1⟩, hS.F ht⟩
    rcases hE with ⟨h1, rfl⟩ | ⟨h1, rfl⟩
    · refine vx_catch (own := RL) (name := xIO) hown [] ⟨0, 10, 13, 13⟩ [⟨0, 10, 17, 15⟩] (by rw [htab]; rfl) (fun z hz => by cases hz) rfl (by decide) (hts (.classLink RL 13 xIO) (by decide +kernel)) (va_Nw.use rfl hX.2.1.1) hc9 hv9 hcl9 ?_
      refine lv_astore hx hb dL_word_13 hl (by decide) rfl (fun ls hl => ?_)
      refine lv_iconst (v := nI 1) hx hb dL_word_15 (by decide) ?_
      exact W.iret hx hb hr (fun t ht _ => fin t _ ht (by rw [h1]) (by rw [h1]; decide)) hS.2.2 dL_word_16
    · refine vx_catch (own := RL) (name := xIS) hown [⟨0, 10, 13, 13⟩] ⟨0, 10, 17, 15⟩ [] (by rw [htab]; rfl) (fun z hz => by
        have hz := List.mem_singleton.mp hz
        subst hz
        exact Or.inr ⟨by decide, xIO, hts (.classLink RL 13 xIO) (by decide +kernel), hX.2.2.1⟩) rfl (by decide) (hts (.classLink RL 15 xIS) (by decide +kernel)) (va_Nw.use rfl hX.2.1.2) hc9 hv9 hcl9 ?_
      refine lv_astore hx hb dL_word_17 hl (by decide) rfl (fun ls hl => ?_)
      refine lv_iconst (v := nI 2) hx hb dL_word_19 (by decide) ?_
      exact W.iret hx hb hr (fun t ht _ => fin t _ ht (by rw [h1]) (by rw [h1]; decide)) hS.2.2 dL_word_20
  · obtain ⟨h1, rfl, rfl⟩ := hp
    rw [ht] at hB
    have hB : vv_P Y (pc_wds σ n b) H1 := hB
    have hO1 : H1[oa]? = some (arrV KL 1 (fun _ => .long w)) := by rw [hk oa hoa hnA]; exact hO
    refine lv_i2l (v := (pc_wds σ n b 5 i.toNatClampNeg).toInt64) hx hb dL_word_8 rfl ?_
    refine W.last hx hb hO1 (hAr 1 (fun _ => .long w)) (fun q => by cases q) (by show ¬ ((nI 0 : Int32) < 0 ∨ (arrV _ _ _).slots.size ≤ _); rw [arrV_size]; decide) rfl rfl dL_word_9 (fun H2 e2 z2 o2 => ?_)
    have hP2 : vv_P Y (pc_wds σ n b) H2 := hB.kept (fun k q hq => by
      obtain ⟨hk9, rfl⟩ := vv_inv hq
      exact o2 _ (hoY k hk9))
    have hS2 := hS.put (k := (nI 0).toNatClampNeg) z2 o2 (show cv_A Y s.heap.size oa oa from Or.inl rfl)
    have hO2 : H2[oa]? = some (cv_o KL (pc_wds σ n b 5 i.toNatClampNeg).toInt64) := by
      rw [e2]
      congr 1
    refine lv_goto hx hb dL_word_10 (tgt := 21) rfl ?_
    refine lv_iconst (v := nI 0) hx hb dL_word_21 (by decide) ?_
    exact W.iret hx hb hr (fun t ht _ => ⟨⟨_, (pc_wds σ n b, (pc_wds σ n b 5 i.toNatClampNeg).toInt64), rfl, ⟨by rw [h1], by rw [if_pos h1]⟩, by rw [ht]; exact hP2, by rw [ht]; exact hO2⟩, hS2.F ht⟩) hS2.2.2 dL_word_22
