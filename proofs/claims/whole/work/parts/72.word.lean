/-! ParityRow.word: it returns, or it throws -/
abbrev xIO : String := "java/lang/IndexOutOfBoundsException"
abbrev xIS : String := "java/lang/IllegalStateException"
abbrev xNm : List String := ["java/lang/RuntimeException", "java/lang/Exception"]
def pc_th (σ : vv_S) (n : Nat) (b i : Int32) : Nat := if pc_isb n b ∧ ¬ i < 0 ∧ i < nI 8 then (if σ 0 6 = 0 ∧ ¬ pc_src σ n (pc_o σ) (pc_r σ) (b.toNatClampNeg / (n - 1)) (b.toNatClampNeg % (n - 1)) = 3 then 0 else 2) else 1
def pc_wds (σ : vv_S) (n : Nat) (b : Int32) : vv_S := if pc_src σ n (pc_o σ) (pc_r σ) (b.toNatClampNeg / (n - 1)) (b.toNatClampNeg % (n - 1)) = 2 then vv_row (pc_clr σ) 5 (pc_mxo (pc_clr σ) (nI (pc_mo n (b.toNatClampNeg / (n - 1)) (b.toNatClampNeg % (n - 1)))) (b.toNatClampNeg / (n - 1)) n) else vv_row (pc_clr σ) 5 (pc_mxn (pc_clr σ) n (pc_o σ) (pc_r σ) (b.toNatClampNeg / (n - 1)) (b.toNatClampNeg % (n - 1)))
/-- what a throw needs of the tables, beside the good words -/
def cx_K (sa : Nat → Nat) (U : State) : Prop := (va_Nw (.declares (Bundle.initS "java/lang/RuntimeException")) U ∧ va_Nw (.declares (Bundle.initS "java/lang/Exception")) U ∧ va_Nw (.declares (Bundle.initS Bundle.tN)) U) ∧ (va_Nw (.castable xIO xIO) U ∧ va_Nw (.castable xIS xIS) U) ∧ va_Nc xIS xIO U ∧ vk_R RX3 84 "no such block or word" (sa 0) U ∧ vk_R RX3 91 "the power is gone" (sa 1) U ∧ vk_R RX3 94 "the block comes from nothing" (sa 2) U
theorem va_Nc.moved' {C T : String} {u U : State} (hvm : u.vm.Alike U.vm) (h : va_Nc C T u) : va_Nc C T U := va_Nc.moved hvm h
theorem cx_K.warm {sa : Nat → Nat} {s U : State} (hW : s.WarmedH U.vm) (h : cx_K sa s) : cx_K sa U := by
  obtain ⟨⟨a1, a2, a3⟩, ⟨b1, b2⟩, c1, d1, d2, d3⟩ := h
  exact ⟨⟨a1.warmD hW, a2.warmD hW, a3.warmD hW⟩, ⟨b1.warmC hW, b2.warmC hW⟩, c1.moved hW.alike, d1.warm hW, d2.warm hW, d3.warm hW⟩
theorem cx_K.same {sa : Nat → Nat} {s U : State} (hv : s.vm = U.vm) (h : cx_K sa s) : cx_K sa U := by
  obtain ⟨⟨a1, a2, a3⟩, ⟨b1, b2⟩, c1, d1, d2, d3⟩ := h
  exact ⟨⟨a1.same rfl hv, a2.same rfl hv, a3.same rfl hv⟩, ⟨b1.same rfl hv, b2.same rfl hv⟩, c1.moved (by rw [hv]; exact Vm.Alike.refl _), d1.same hv.symm, d2.same hv.symm, d3.same hv.symm⟩
def cx_Z (A : Nat → Prop) (U : State) (H : Heap) : Prop := vx_Zq Bundle.tN "UNASSIGNED_STACK" Bundle.steD A U H ∧ vx_Zq Bundle.tN "SUPPRESSED_SENTINEL" Bundle.listD A U H
theorem cx_Z.moved {A : Nat → Prop} {u U : State} {H : Heap} (hvm : u.vm.Alike U.vm) (h : cx_Z A u H) : cx_Z A U H := ⟨h.1.moved hvm, h.2.moved hvm⟩
def cw_Pc (Y : vv_Y) (av : List Value) (σ : vv_S) (sz : Nat) (sa : Nat → Nat) (A : Nat → Prop) : Array Value → State → Prop := fun v U => vv_Pc Y av σ sz v U ∧ cx_K sa U ∧ cx_Z A U U.heap
theorem cw_blind {Y : vv_Y} {av : List Value} {σ : vv_S} {sz : Nat} {sa : Nat → Nat} {A : Nat → Prop} : FrameBlind (cw_Pc Y av σ sz sa A) := by
  intro a U g mk h
  exact ⟨vv_blind a U g mk h.1, cx_K.same (s := U) (U := U.calling g mk a) rfl h.2.1, h.2.2.moved (u := U) (U := U.calling g mk a) (Vm.Alike.refl U.vm)⟩
section WV
variable {p : Program} {l : Launch} {e : Env} {R : Room} {s : State} {m : MethodId} {args : Array Value} {below : List Frame} {meth : Method} {c : Code} {H : Heap} {locs : List Loc} {Q : State → Prop}
variable {cc : ByteArray} {pc q nL : Nat} {ls : Array Slot} {st : List Value} {Y : vv_Y} {σ : vv_S} {Ts : List Cond} {own : String}
/-- a call of a method of the system, seen from the machine -/
theorem wv_call (S : CallFix p m c cc nL s args Ts own) (hK : vv_K Y s) (hP : vv_P Y σ H) (hS : va_S (vv_A Y s.heap.size) s.heap H locs) {y : MethodName} {bytes : ByteArray} {maxL n index : Nat} {rt : Option FieldType} {ws ws' : List Cond} {rm1 : Room} {As : List Value} {post : Option Value → vv_S → Prop} {k ci N : Nat} {C : String} {T : u_T} {fs : List Value}
    (hk : k < Y.1) (he : Y.2.2.1 k (σ k) = .inr (ci, fs)) (hc : Y.2.2.2.2.1[ci]? = some (C, T, N)) (hM : vv_M l Y y ws rm1 (.ref (Y.2.1 k) :: As) σ post) (hG : GoodIn Ts (wsV own index C y ws)) (hw : ws = Cond.code y bytes maxL rt :: ws') (hdd : y.cls = C ∧ y.cls ≠ "java/lang/invoke/MethodHandle" ∧ y.cls ≠ "java/lang/invoke/VarHandle" ∧ (parseMethodDescriptor y.desc).map (fun d => d.parameters.length) = some n)
    (hd : decode cc pc = .ok (.invokevirtual index, 3)) (hR1 : rm1.frames + 1 ≤ R.frames) (hR2 : 8 + (maxL + 11) + rm1.locals ≤ R.locals) (hR3 : rm1.cells = 0) (hR4 : rm1.slots = 0) (hst : (st.map fun v => v.category).sum ≤ 8) (hn : As.length = n) (hls : ls.size = nL) (hq : pc + 3 = q)
    (kk : ∀ (v : Option Value) (σ1 : vv_S) (H1 : Heap) (locs1 : List Loc), post v σ1 → vv_P Y σ1 H1 → va_S (vv_A Y s.heap.size) s.heap H1 locs1 → W p l e R s m args below meth c H1 locs1 0 0 Q (F0 m q ls (v.toList ++ st))) : W p l e R s m args below meth c H locs 0 0 Q (F0 m pc ls (As.reverse ++ .ref (Y.2.1 k) :: st)) := by
  subst hq
  have hrecv : ∃ cellB : Cell, H[Y.2.1 k]? = some cellB ∧ cellB.vm.isStatics = false ∧ s.vm.findClass C = some cellB.cls := va_recv hK.1 hP hc (vv_atc hk he)
  exact vv_back (rest := st) (va_runV (As := As) (rest := st) S (hM H.size) (cwV n S.2.2.2.2 hG hw hR3 hR4 hdd ⟨hR1, hR2⟩) ⟨vv_blind, hrecv, fun U hU hW => ⟨rfl, by rw [hU], by rw [hU]; exact hP, hK.warm hW⟩⟩ rfl hn hls rfl (vv_room hst) hd ⟨Nat.zero_le _, Nat.zero_le _⟩) hS kk
theorem wv_get (hx : p.tables.exec = Jvm.exec) (hb : c.code = cc) (hts : ∀ w ∈ Ts, w.before args s = true) (hown : s.vm.findClass RX3 = some m.cls) (hin : ∀ w ∈ u_ws RX3 TX3 10, w ∈ Ts) {n : Nat} (hY : pc_sys Y n) (hK : vv_K Y s) (hP : vv_P Y σ H) (j : Nat) {index : Nat} (hlink : Cond.fieldLink RX3 index "ParityRow" (TX3 j).2.1 (TX3 j).2.2.1 ∈ Ts) (hj : j < 10) (hsame : (TX3 j).1 = "ParityRow") {v : Value} (hv : (pc_fP n Y.2.1 (σ 0))[j]? = some v) {cells slots : Nat}
    (hd : decode cc pc = .ok (.getfield index, 3)) (hq : pc + 3 = q) (kk : W p l e R s m args below meth c H locs cells slots Q (F0 m q ls (v :: st))) : W p l e R s m args below meth c H locs cells slots Q (F0 m pc ls (.ref (Y.2.1 0) :: st)) := by
  subst hq
  exact va_get hx hb hts hin hown hK.1 hP 0 (vv_atc (hY.k (by decide)) (hY.P _)) (by rw [hY.cl]; rfl) j hj (hts _ hlink) (fun x hh => by rw [hsame] at hh; exact hh) hv hd kk
end WV
def cw_Q (Y : vv_Y) (σ : vv_S) (n : Nat) (b i : Int32) (sz : Nat) : Array Value → State → Outcome → State → Prop := va_Qi (S := vv_S) (fun r u => pc_th σ n b i = 0 ∧ r = pc_wds σ n b 5 i.toNatClampNeg ∧ u = pc_wds σ n b) (fun u t => vv_P Y u t.heap) (vv_A Y sz)
def cw_X (Y : vv_Y) (σ : vv_S) (n : Nat) (b i : Int32) (sz : Nat) : String → State → State → Prop := vx_X (S := Unit) (fun _ => True) (fun E _ t => ((pc_th σ n b i = 1 ∧ E = xIO) ∨ (pc_th σ n b i = 2 ∧ E = xIS)) ∧ vv_P Y σ t.heap) (vv_A Y sz)
set_option maxHeartbeats 4000000 in
set_option maxRecDepth 100000 in
theorem ck_word (l : Launch) (hlt : l.stackTraces = false) (Y : vv_Y) (n : Nat) (hY : pc_sys Y n) (σ : vv_S) (b i : Int32) (hJ : pc_J σ) (sa : Nat → Nat) (sz : Nat) : vx_Met l yX3_word wsX3_word { frames := 6, cells := 1, slots := 6, locals := 112 } (cw_Pc Y [.ref (Y.2.1 0), .int b, .int i] σ sz sa (vv_A Y sz)) (cw_Q Y σ n b i sz) (cw_X Y σ n b i sz) 1 6 (vv_A Y sz) := by
  refine vx_ofW (cc := cX3_word) (maxL := 6) (ret := some .int) (by decide) rfl ?_
  intro p e s m args below meth c s₁ B hml htab hv
  obtain ⟨⟨rfl, hsz, hP, hK⟩, hX, hZ⟩ := hv
  subst hsz
  have hx := B.exec
  have hb := B.bytes
  have hr := B.returns
  have hts := atoms_spec (ws := wsX3_word) B.pre
  have hown : s.vm.findClass RX3 = some m.cls := findClass_of_methodNamed B.named
  have hlocks := B.notSynchronized
  have hlo := hY.lo
  have hhi := hY.hi
  have hi_X3 : ∀ w ∈ u_ws RX3 TX3 10, w ∈ wsX3_word := by decide +kernel
  have hf_down : Cond.fieldLink RX3 16 "ParityRow" (TX3 6).2.1 (TX3 6).2.2.1 ∈ wsX3_word := by decide +kernel
  have hf_data : Cond.fieldLink RX3 39 "ParityRow" (TX3 1).2.1 (TX3 1).2.2.1 ∈ wsX3_word := by decide +kernel
  have hf_mixed : Cond.fieldLink RX3 13 "ParityRow" (TX3 5).2.1 (TX3 5).2.2.1 ∈ wsX3_word := by decide +kernel
  have hS : va_S (vv_A Y s.heap.size) s.heap s.heap [] := va_S.rf
  have hat1 : ∀ w ∈ vx_atS RX3 86 xIO xNm, w.before #[Value.ref (Y.2.1 0), Value.int b, Value.int i] s = true := vx_hat (B := [.declares (Bundle.initS "java/lang/RuntimeException"), .declares (Bundle.initS "java/lang/Exception"), .declares (Bundle.initS Bundle.tN), .castable xIO xIO]) (fun w h => hts w (List.mem_cons_of_mem _ (List.mem_append_left _ (List.mem_append_right _ h)))) (by decide +kernel)
    (vx_c (va_Nw.use rfl hX.1.1) (vx_c (va_Nw.use rfl hX.1.2.1) (vx_c (va_Nw.use rfl hX.1.2.2) (vx_c (va_Nw.use rfl hX.2.1.1) vx_n))))
  have hat2 : ∀ w ∈ vx_atS RX3 93 xIS xNm, w.before #[Value.ref (Y.2.1 0), Value.int b, Value.int i] s = true := vx_hat (B := [.declares (Bundle.initS "java/lang/RuntimeException"), .declares (Bundle.initS "java/lang/Exception"), .declares (Bundle.initS Bundle.tN), .castable xIS xIS]) (fun w h => hts w (List.mem_cons_of_mem _ (List.mem_append_right _ h))) (by decide +kernel)
    (vx_c (va_Nw.use rfl hX.1.1) (vx_c (va_Nw.use rfl hX.1.2.1) (vx_c (va_Nw.use rfl hX.1.2.2) (vx_c (va_Nw.use rfl hX.2.1.2) vx_n))))
  have hgood1 : ∀ w ∈ Cond.classLink RX3 82 xIO :: Cond.initialized xIO :: vx_atS RX3 86 xIO xNm, vx_ot w = true := by decide +kernel
  have hgood2 : ∀ w ∈ Cond.classLink RX3 89 xIS :: Cond.initialized xIS :: vx_atS RX3 93 xIS xNm, vx_ot w = true := by decide +kernel
  have hxc : ∀ (H : Heap) (locs : List Loc) (E : String), vv_P Y σ H → va_S (vv_A Y s.heap.size) s.heap H locs → ((pc_th σ n b i = 1 ∧ E = xIO) ∨ (pc_th σ n b i = 2 ∧ E = xIS)) → ∀ t : State, s.vm.Alike t.vm → H.size ≤ t.heap.size → (∀ q : Nat, q < H.size → t.heap[q]? = H[q]?) → cw_X Y σ n b i s.heap.size E s t := by
    intro H locs E hP hS hE t _ hz hk
    exact ⟨(), trivial, ⟨hE, hP.kept (fun k q hq => hk q.1 ((hP k q hq).lt))⟩, Nat.le_trans hS.1 hz, fun q h1 h2 => by rw [hk q (Nat.lt_of_lt_of_le h1 hS.1)]; exact hS.2.1 q h1 h2⟩
  have hl := lv_entry ([.ref (Y.2.1 0), .int b, .int i]) (n := 6) (Nat.le_of_ble_eq_true rfl)
  rw [lg_entry_eq]
  generalize (lg_sl ([.ref (Y.2.1 0), .int b, .int i]) ++ List.replicate (6 - (lg_sl ([.ref (Y.2.1 0), .int b, .int i])).length) Slot.unset).toArray = ls at hl ⊢
  have hl : lv_has ls 6 [(0, .ref (Y.2.1 0)), (1, .int b), (2, .int i)] := hl
  refine lv_aload_n hx hb dX3_word_0 rfl (lv_at hl 0 rfl) ?_
  refine lv_iload_n hx hb dX3_word_1 rfl (lv_at hl 1 rfl) ?_
  refine wv_call (n := 1) (k := 0) (As := [.int b]) (st := []) (q := 5) ⟨hx, hb, hml, hown, hts⟩ hK hP hS (hY.k (by decide)) (hY.P _) (by rw [hY.cl]; rfl) (cm_X3_isBlock _ Y n hY σ b) gX3_word_X3_isBlock rfl (by decide +kernel) dX3_word_2 (Nat.le_of_ble_eq_true rfl) (Nat.le_of_ble_eq_true rfl) rfl rfl (Nat.le_of_ble_eq_true rfl) rfl hl.1 rfl (fun v σ1 H locs hv hP hS => ?_)
  obtain ⟨rfl, e9⟩ := hv
  have e9 := e9.symm
  subst e9
  have T1 : ¬ (pc_isb n b ∧ ¬ i < 0 ∧ i < nI 8) → W p l e (headSpec wsX3_word { frames := 6, cells := 1, slots := 6, locals := 112 }).room s m #[Value.ref (Y.2.1 0), Value.int b, Value.int i] below meth c H locs 0 0 (vx_MQ below (cw_Q Y σ n b i s.heap.size) (cw_X Y σ n b i s.heap.size) #[Value.ref (Y.2.1 0), Value.int b, Value.int i] s 1 6 (vv_A Y s.heap.size)) (F0 m 18 ls []) := fun hn =>
    vx_throwS (text := "no such block or word") (sa := sa 0) hx hb hlt hown (by decide +kernel) (by decide +kernel) (hts (.classLink RX3 82 xIO) (by decide +kernel)) (hts (.initialized xIO) (by decide +kernel)) hX.2.2.2.1 hat1 hgood1 hZ.1 hZ.2 hS (by rw [hml]; exact hl.1) dX3_word_18 dX3_word_21 dX3_word_22 dX3_word_24 dX3_word_27 (fun x hx9 => (htab x hx9).elim) (Nat.le_of_ble_eq_true rfl) (Nat.le_of_ble_eq_true rfl) (Nat.le_of_ble_eq_true rfl) (Nat.le_of_ble_eq_true rfl) hlocks (hxc H locs xIO hP hS (Or.inl ⟨by unfold pc_th; rw [if_neg hn], rfl⟩)) hS.2.2 (by omega) (by omega)
  refine lv_if_eq hx hb dX3_word_5 (tgt := 18) rfl (fun h5 => ?_) (fun h5 => ?_)
  · refine T1 (fun z => ?_)
    have : vv_B (¬ b < 0 ∧ b < nI (24 * (n - 1))) = nI 1 := vv_B1 z.1
    rw [this] at h5
    exact absurd h5 (by decide)
  · have hb5 : pc_isb n b := by
      by_cases z : ¬ b < 0 ∧ b < nI (24 * (n - 1))
      · exact z
      · exact absurd (show vv_B (¬ b < 0 ∧ b < nI (24 * (n - 1))) = 0 by unfold vv_B; rw [if_neg z]) h5
    refine lv_iload_n hx hb dX3_word_8 rfl (lv_at hl 2 rfl) ?_
    refine lv_if_lt hx hb dX3_word_9 (tgt := 18) rfl (fun h9 => T1 (fun z => z.2.1 h9)) (fun h9 => ?_)
    refine lv_iload_n hx hb dX3_word_12 rfl (lv_at hl 2 rfl) ?_
    refine lv_bipush (v := nI 8) hx hb dX3_word_13 (by decide) ?_
    refine lv_icmp_lt hx hb dX3_word_15 (tgt := 28) rfl (fun h15 => ?_) (fun h15 => T1 (fun z => h15 z.2.2))
    have hok : pc_isb n b ∧ ¬ i < 0 ∧ i < nI 8 := ⟨hb5, h9, h15⟩
    have hn_b := pc_nat (b := b) (N := 24 * (n - 1)) hb5 (by omega)
    have hn_i := pc_nat (b := i) (N := 8) ⟨h9, h15⟩ (by omega)
    have hdm := pc_dm hlo hn_b.2
    have hth : ∀ {x : Nat}, (if σ 0 6 = 0 ∧ ¬ pc_src σ n (pc_o σ) (pc_r σ) (b.toNatClampNeg / (n - 1)) (b.toNatClampNeg % (n - 1)) = 3 then 0 else 2) = x → pc_th σ n b i = x := fun h => by unfold pc_th; rw [if_pos hok]; exact h
    refine lv_aload_n hx hb dX3_word_28 rfl (lv_at hl 0 rfl) ?_
    refine wv_get (q := 32) hx hb hts hown hi_X3 hY hK hP 6 hf_down (by decide) rfl (v := .int (σ 0 6)) rfl dX3_word_29 rfl ?_
    refine lv_if_eq hx hb dX3_word_32 (tgt := 45) rfl (fun h32 => ?_) (fun h32 => ?_)
    · refine lv_iload_n hx hb dX3_word_45 rfl (lv_at hl 1 rfl) ?_
      refine lv_aload_n hx hb dX3_word_46 rfl (lv_at hl 0 rfl) ?_
      refine wv_get (q := 50) hx hb hts hown hi_X3 hY hK hP 1 hf_data (by decide) rfl (v := .int (nI (n - 1))) rfl dX3_word_47 rfl ?_
      refine lv_idiv hx hb dX3_word_50 (nI_ne0 (by omega) (by omega)) ?_
      have e1 : b / nI (n - 1) = nI (b.toNatClampNeg / (n - 1)) := by conv => lhs; rw [hn_b.1]
                                                                      exact pk_div (by omega) (by omega) (by omega)
      rw [e1]
      refine lv_istore_n hx hb dX3_word_51 rfl hl (by decide) rfl (fun ls hl => ?_)
      refine lv_iload_n hx hb dX3_word_52 rfl (lv_at hl 2 rfl) ?_
      refine lv_aload_n hx hb dX3_word_53 rfl (lv_at hl 1 rfl) ?_
      refine wv_get (q := 57) hx hb hts hown hi_X3 hY hK hP 1 hf_data (by decide) rfl (v := .int (nI (n - 1))) rfl dX3_word_54 rfl ?_
      refine lv_irem hx hb dX3_word_57 (nI_ne0 (by omega) (by omega)) ?_
      have e2 : b - b / nI (n - 1) * nI (n - 1) = nI (b.toNatClampNeg % (n - 1)) := by conv => lhs; rw [hn_b.1]
                                                                                       exact pk_rem (by omega) (by omega) (by omega)
      rw [e2]
      refine lv_istore hx hb dX3_word_58 hl (by decide) rfl (fun ls hl => ?_)
      refine lv_aload_n hx hb dX3_word_60 rfl (lv_at hl 2 rfl) ?_
      refine lv_iload_n hx hb dX3_word_61 rfl (lv_at hl 1 rfl) ?_
      refine lv_iload hx hb dX3_word_62 (lv_at hl 0 rfl) ?_
      refine wv_call (n := 2) (k := 0) (As := [.int (nI (b.toNatClampNeg / (n - 1))), .int (nI (b.toNatClampNeg % (n - 1)))]) (st := []) (q := 67) ⟨hx, hb, hml, hown, hts⟩ hK hP hS (hY.k (by decide)) (hY.P _) (by rw [hY.cl]; rfl) (cm_X3_sourceOf _ Y n hY σ (pc_o σ) (pc_r σ) (b.toNatClampNeg / (n - 1)) (b.toNatClampNeg % (n - 1)) hJ.1 hJ.2.1 hJ.2.2.1 hJ.2.2.2.1 hdm.1 hdm.2) gX3_word_X3_sourceOf rfl (by decide +kernel) dX3_word_64 (Nat.le_of_ble_eq_true rfl) (Nat.le_of_ble_eq_true rfl) rfl rfl (Nat.le_of_ble_eq_true rfl) rfl hl.1 rfl (fun v σ2 H locs hv hP hS => ?_)
      obtain ⟨rfl, e9⟩ := hv
      have e9 := e9.symm
      subst e9
      have hsrc : pc_src σ n (pc_o σ) (pc_r σ) (b.toNatClampNeg / (n - 1)) (b.toNatClampNeg % (n - 1)) ≤ 3 := by
        unfold pc_src
        repeat' split
        all_goals omega
      refine lv_istore hx hb dX3_word_67 hl (by decide) rfl (fun ls hl => ?_)
      refine lv_iload hx hb dX3_word_69 (lv_at hl 0 rfl) ?_
      refine lv_iconst (v := nI 3) hx hb dX3_word_71 (by decide) ?_
      refine lv_icmp_ne hx hb dX3_word_72 (tgt := 85) rfl (fun h72 => ?_) (fun h72 => ?_)
      · have hs3 : ¬ pc_src σ n (pc_o σ) (pc_r σ) (b.toNatClampNeg / (n - 1)) (b.toNatClampNeg % (n - 1)) = 3 := fun z => h72 (by rw [z])
        refine lv_aload_n hx hb dX3_word_85 rfl (lv_at hl 3 rfl) ?_
        refine wv_call (n := 0) (k := 0) (As := []) (st := []) (q := 89) ⟨hx, hb, hml, hown, hts⟩ hK hP hS (hY.k (by decide)) (hY.P _) (by rw [hY.cl]; rfl) (cm_X3_clearMixed _ Y n hY σ) gX3_word_X3_clearMixed rfl (by decide +kernel) dX3_word_86 (Nat.le_of_ble_eq_true rfl) (Nat.le_of_ble_eq_true rfl) rfl rfl (Nat.le_of_ble_eq_true rfl) rfl hl.1 rfl (fun v σ3 H locs hv hP hS => ?_)
        obtain ⟨rfl, rfl⟩ := hv
        have fin : ∀ (H : Heap) (locs : List Loc), vv_P Y (pc_wds σ n b) H → va_S (vv_A Y s.heap.size) s.heap H locs → W p l e (headSpec wsX3_word { frames := 6, cells := 1, slots := 6, locals := 112 }).room s m #[Value.ref (Y.2.1 0), Value.int b, Value.int i] below meth c H locs 0 0 (vx_MQ below (cw_Q Y σ n b i s.heap.size) (cw_X Y σ n b i s.heap.size) #[Value.ref (Y.2.1 0), Value.int b, Value.int i] s 1 6 (vv_A Y s.heap.size)) (F0 m 118 ls []) := by
          intro H locs hP hS
          refine lv_aload_n hx hb dX3_word_118 rfl (lv_at hl 3 rfl) ?_
          refine wv_get (q := 122) hx hb hts hown hi_X3 hY hK hP 5 hf_mixed (by decide) rfl (v := .ref (Y.2.1 5)) rfl dX3_word_119 rfl ?_
          refine lv_iload_n hx hb dX3_word_122 rfl (lv_at hl 5 rfl) ?_
          obtain ⟨KM, hKM, hT⟩ := hY.row (k := 5) (Or.inr (Or.inl rfl))
          have hlen : pc_len n 5 = 8 := rfl
          rw [hlen] at hKM
          refine va_iald hx hb hK.1 hP 5 0 (vv_atc (hY.k (by decide)) (hKM _)) hT (i := i) (fun z => by
            rcases z with z | z
            · exact h9 z
            · exact absurd hn_i.2 (Nat.not_lt.mpr z)) dX3_word_123 ?_
          refine W.widen (k := 1) (n := 6) (by omega) (by omega) (vx_ret ?_)
          exact W.iret hx hb hr (fun t ht hW => ⟨⟨_, _, rfl, ⟨hth (if_pos ⟨h32, hs3⟩), rfl, rfl⟩, show vv_P Y (pc_wds σ n b) t.heap by rw [ht]; exact hP⟩, hS.F ht⟩) hS.2.2 dX3_word_124
        refine lv_iload hx hb dX3_word_89 (lv_at hl 0 rfl) ?_
        refine lv_iconst (v := nI 2) hx hb dX3_word_91 (by decide) ?_
        refine lv_icmp_ne hx hb dX3_word_92 (tgt := 110) rfl (fun h92 => ?_) (fun h92 => ?_)
        · have hs2 : ¬ pc_src σ n (pc_o σ) (pc_r σ) (b.toNatClampNeg / (n - 1)) (b.toNatClampNeg % (n - 1)) = 2 := fun z => h92 (by rw [z])
          refine lv_aload_n hx hb dX3_word_110 rfl (lv_at hl 3 rfl) ?_
          refine lv_iload_n hx hb dX3_word_111 rfl (lv_at hl 2 rfl) ?_
          refine lv_iload hx hb dX3_word_112 (lv_at hl 1 rfl) ?_
          refine wv_call (n := 2) (k := 0) (As := [.int (nI (b.toNatClampNeg / (n - 1))), .int (nI (b.toNatClampNeg % (n - 1)))]) (st := []) (q := 117) ⟨hx, hb, hml, hown, hts⟩ hK hP hS (hY.k (by decide)) (hY.P _) (by rw [hY.cl]; rfl) (cm_X3_mixNewest _ Y n hY (pc_clr σ) (pc_o σ) (pc_r σ) (b.toNatClampNeg / (n - 1)) (b.toNatClampNeg % (n - 1)) hJ.1 hJ.2.1 hJ.2.2.1 hJ.2.2.2.1 hdm.1 hdm.2) gX3_word_X3_mixNewest rfl (by decide +kernel) dX3_word_114 (Nat.le_of_ble_eq_true rfl) (Nat.le_of_ble_eq_true rfl) rfl rfl (Nat.le_of_ble_eq_true rfl) rfl hl.1 rfl (fun v σ3 H locs hv hP hS => ?_)
          obtain ⟨rfl, rfl⟩ := hv
          refine lv_pop hx hb dX3_word_117 rfl ?_
          exact fin H locs (by unfold pc_wds; rw [if_neg hs2]; exact hP) hS
        · have hs2 : pc_src σ n (pc_o σ) (pc_r σ) (b.toNatClampNeg / (n - 1)) (b.toNatClampNeg % (n - 1)) = 2 := by
            have := congrArg Int32.toNatClampNeg h92
            rw [nI_clamp (by omega), nI_clamp (by omega)] at this
            exact this
          refine lv_aload_n hx hb dX3_word_95 rfl (lv_at hl 3 rfl) ?_
          refine lv_aload_n hx hb dX3_word_96 rfl (lv_at hl 3 rfl) ?_
          refine lv_iload_n hx hb dX3_word_97 rfl (lv_at hl 2 rfl) ?_
          refine lv_iload hx hb dX3_word_98 (lv_at hl 1 rfl) ?_
          refine wv_call (n := 2) (k := 0) (As := [.int (nI (b.toNatClampNeg / (n - 1))), .int (nI (b.toNatClampNeg % (n - 1)))]) (st := [.ref (Y.2.1 0)]) (q := 103) ⟨hx, hb, hml, hown, hts⟩ hK hP hS (hY.k (by decide)) (hY.P _) (by rw [hY.cl]; rfl) (cm_X3_memberOf _ Y n hY (pc_clr σ) (b.toNatClampNeg / (n - 1)) (b.toNatClampNeg % (n - 1)) hdm.1 hdm.2) gX3_word_X3_memberOf rfl (by decide +kernel) dX3_word_100 (Nat.le_of_ble_eq_true rfl) (Nat.le_of_ble_eq_true rfl) rfl rfl (Nat.le_of_ble_eq_true rfl) rfl hl.1 rfl (fun v σ3 H locs hv hP hS => ?_)
          obtain ⟨rfl, rfl⟩ := hv
          refine lv_iload_n hx hb dX3_word_103 rfl (lv_at hl 2 rfl) ?_
          refine wv_call (n := 2) (k := 0) (As := [.int (nI (pc_mo n (b.toNatClampNeg / (n - 1)) (b.toNatClampNeg % (n - 1)))), .int (nI (b.toNatClampNeg / (n - 1)))]) (st := []) (q := 107) ⟨hx, hb, hml, hown, hts⟩ hK hP hS (hY.k (by decide)) (hY.P _) (by rw [hY.cl]; rfl) (cm_X3_mixOthers _ Y n hY (pc_clr σ) (nI (pc_mo n (b.toNatClampNeg / (n - 1)) (b.toNatClampNeg % (n - 1)))) (b.toNatClampNeg / (n - 1)) hdm.1) gX3_word_X3_mixOthers rfl (by decide +kernel) dX3_word_104 (Nat.le_of_ble_eq_true rfl) (Nat.le_of_ble_eq_true rfl) rfl rfl (Nat.le_of_ble_eq_true rfl) rfl hl.1 rfl (fun v σ3 H locs hv hP hS => ?_)
          obtain ⟨rfl, rfl⟩ := hv
          refine lv_goto hx hb dX3_word_107 (tgt := 118) rfl ?_
          exact fin H locs (by unfold pc_wds; rw [if_pos hs2]; exact hP) hS
      · have hs3 : pc_src σ n (pc_o σ) (pc_r σ) (b.toNatClampNeg / (n - 1)) (b.toNatClampNeg % (n - 1)) = 3 := by
          have := congrArg Int32.toNatClampNeg h72
          rw [nI_clamp (by omega), nI_clamp (by omega)] at this
          exact this
        exact vx_throwS (text := "the block comes from nothing") (sa := sa 2) hx hb hlt hown (by decide +kernel) (by decide +kernel) (hts (.classLink RX3 89 xIS) (by decide +kernel)) (hts (.initialized xIS) (by decide +kernel)) hX.2.2.2.2.2 hat2 hgood2 hZ.1 hZ.2 hS (by rw [hml]; exact hl.1) dX3_word_75 dX3_word_78 dX3_word_79 dX3_word_81 dX3_word_84 (fun x hx9 => (htab x hx9).elim) (Nat.le_of_ble_eq_true rfl) (Nat.le_of_ble_eq_true rfl) (Nat.le_of_ble_eq_true rfl) (Nat.le_of_ble_eq_true rfl) hlocks (hxc H locs xIS hP hS (Or.inr ⟨hth (if_neg (fun z => z.2 hs3)), rfl⟩)) hS.2.2 (by omega) (by omega)
    · exact vx_throwS (text := "the power is gone") (sa := sa 1) hx hb hlt hown (by decide +kernel) (by decide +kernel) (hts (.classLink RX3 89 xIS) (by decide +kernel)) (hts (.initialized xIS) (by decide +kernel)) hX.2.2.2.2.1 hat2 hgood2 hZ.1 hZ.2 hS (by rw [hml]; exact hl.1) dX3_word_35 dX3_word_38 dX3_word_39 dX3_word_41 dX3_word_44 (fun x hx9 => (htab x hx9).elim) (Nat.le_of_ble_eq_true rfl) (Nat.le_of_ble_eq_true rfl) (Nat.le_of_ble_eq_true rfl) (Nat.le_of_ble_eq_true rfl) hlocks (hxc H locs xIS hP hS (Or.inr ⟨hth (if_neg (fun z => h32 z.1)), rfl⟩)) hS.2.2 (by omega) (by omega)
