/-! THE CLAIM OUT OF ONE WALK OF THE LAW'S BODY. Your part is whole_start (and what it stands on); all else here is the same for every law, but numbers. -/
def R_law : String := "ParityRowLaw"
def lw_P (b : Addr) (xs : List Int32) (args : Array Value) (s : State) : Prop := args = #[.ref b] ∧ s.IntsAt b xs ∧ xs.length ≤ 2561 ∧ (Jvm.Cond.and given_1 narrow_1).before args s = true
def lw_Q (_ : Array Value) (s : State) (o : Outcome) (t : State) : Prop := o = .returned (some (.int 1)) ∧ Framed s o t [] 601024 7293000
def lw_Z (below : List Frame) (a : Array Value) (s : State) : State → Prop := fun t => ∃ o, t.status = .running ∧ Ended t below o ∧ lw_Q a s o t
/-- the law's own end, with 1 on the stack, nothing written that was there before, its room as the claim has it -/
theorem lw_ret {p : Program} {l : Launch} {e : Env} {s : State} {m : MethodId} {below : List Frame} {meth : Method} {c : Code} {b : Nat} (hx : p.tables.exec = Jvm.exec) (hb : c.code = code) (hr : meth.sig.returnType = ret) (hlocks : meth.locks = false) {pc : Nat} {H : Heap} {ls : Array Slot} (hdg : decode code pc = .ok (.ireturn, 1)) : W p l e room_1 s m #[Value.ref b] below meth c H [] 601024 7293000 (lw_Z below #[Value.ref b] s) (F0 m pc ls [.int 1]) := by
  intro T hT X
  obtain ⟨fs, hret, hrun, hended, hW, hframe⟩ := X.leave (v := some (.int 1)) (hlocks := hlocks) (fun h => by rw [hr] at h; cases h)
  have hmeth' : T.vm.method? m = some meth := X.method'
  refine ⟨T.setFrames fs, ?_, .returned (some (.int 1)), hrun, hended, rfl, ⟨_, rfl⟩, hW, hframe⟩
  jvm_step X.here [X.here.top, hx, hb, hdg, hmeth', hr, ret, narrow_b1]
  (try refine ⟨rfl, ?_⟩); (try refine ⟨rfl, ?_⟩)
  first | (intro acts; rw [hret _ acts rfl rfl rfl]) | rw [hret _ _ rfl rfl rfl]
  exact Steps.refl _
/-- what holds at the law's entry: the machine, the code, the tables' words (any of lw_tbl by 'hts w (by decide +kernel)'), the script of L ints xs at the cell b, what the Statement gives of the start (any of its parts by flat_of_before) -/
def lw_At (p : Program) (s : State) (m : MethodId) (meth : Method) (c : Code) (b L : Nat) (xs : Nat → Int32) : Prop :=
  p.tables.exec = Jvm.exec ∧ c.code = code ∧ meth.sig.returnType = ret ∧ c.maxLocals = 7 ∧ s.vm.findClass R_law = some m.cls ∧ (∀ w ∈ lw_tbl, w.before #[Value.ref b] s = true) ∧ va_X b L xs s s.heap ∧ b < s.heap.size ∧ meth.locks = false ∧ (Jvm.Cond.and given_1 narrow_1).before #[Value.ref b] s = true
/-! THE LAW'S BODY: two systems side by side, the script, the row for a word -/
abbrev lw_yc (s : State) (n : Nat) (D : va_G) (K : Nat → ClassId) : vv_Y := pc_Y n s.heap.size (s.heap.size + 1) D K
abbrev lw_m0 (s : State) (n : Nat) : Nat := s.heap.size + (28 + 4 * n)
abbrev lw_ym (s : State) (n : Nat) (D : va_G) (K : Nat → ClassId) : vv_Y := pm_Y n (lw_m0 s n) (lw_m0 s n + 1) D K
abbrev lw_oa (s : State) (n : Nat) : Nat := lw_m0 s n + 16
abbrev lw_A (s : State) : Nat → Prop := fun q => s.heap.size ≤ q
def lw_C (p : Program) (l : Launch) (s : State) (m : MethodId) (meth : Method) (c : Code) (b L : Nat) (xs : Nat → Int32) (n : Nat) (D : va_G) (K : Nat → ClassId) (KL : ClassId) (sa : Nat → Nat) : Prop :=
  (p.tables.exec = Jvm.exec ∧ c.code = cL_law ∧ c.maxLocals = 7 ∧ s.vm.findClass RL = some m.cls ∧ ∀ w ∈ wsL_law, w.before #[Value.ref b] s = true) ∧ (va_X b L xs s s.heap ∧ b < s.heap.size ∧ L ≤ 2561) ∧ (cg_K D K s ∧ cx_K sa s ∧ cx_Z (lw_A s) s s.heap ∧ ArrOfT s KL .long) ∧ (3 ≤ n ∧ n ≤ 6) ∧ l.stackTraces = false
def lw_I (s : State) (n : Nat) (D : va_G) (K : Nat → ClassId) (KL : ClassId) (σ ρ : vv_S) (w : Int64) (H : Heap) (locs : List Loc) : Prop := vv_P (lw_yc s n D K) σ H ∧ vv_P (lw_ym s n D K) ρ H ∧ H[lw_oa s n]? = some (cv_o KL w) ∧ va_S (lw_A s) s.heap H locs
def lw_V (p : Program) (l : Launch) (e : Env) (s : State) (m : MethodId) (below : List Frame) (meth : Method) (c : Code) (b n : Nat) (D : va_G) (K : Nat → ClassId) (KL : ClassId) (σ ρ : vv_S) (w : Int64) (pc : Nat) (Lv : List (Nat × Value)) (st : List Value) (cells slots : Nat) : Prop :=
  ∀ (H : Heap) (locs : List Loc) (ls : Array Slot), lw_I s n D K KL σ ρ w H locs → lv_has ls 7 Lv → W p l e room_1 s m #[Value.ref b] below meth c H locs cells slots (lw_Z below #[Value.ref b] s) (F0 m pc ls st)
theorem lw_yc_in {s : State} {n k : Nat} {D : va_G} {K : Nat → ClassId} (hk : k < 28 + 4 * n) : s.heap.size ≤ (lw_yc s n D K).2.1 k ∧ (lw_yc s n D K).2.1 k < lw_m0 s n := by
  have h := pc_pi_lt hk
  show s.heap.size ≤ cg_ad s.heap.size (s.heap.size + 1) (pc_pi n k) ∧ cg_ad s.heap.size (s.heap.size + 1) (pc_pi n k) < _
  unfold cg_ad lw_m0
  split <;> omega
theorem lw_ym_in {s : State} {n k : Nat} {D : va_G} {K : Nat → ClassId} (hk : k < 16) : lw_m0 s n ≤ (lw_ym s n D K).2.1 k ∧ (lw_ym s n D K).2.1 k < lw_oa s n := by
  show lw_m0 s n ≤ cg_ad (lw_m0 s n) (lw_m0 s n + 1) k ∧ cg_ad (lw_m0 s n) (lw_m0 s n + 1) k < _
  unfold cg_ad lw_oa
  split <;> omega
section LW
variable {p : Program} {l : Launch} {e : Env} {s : State} {m : MethodId} {below : List Frame} {meth : Method} {c : Code} {b L n : Nat} {xs : Nat → Int32} {D : va_G} {K : Nat → ClassId} {KL : ClassId} {sa : Nat → Nat}
variable {σ ρ : vv_S} {w : Int64} {pc q cells slots : Nat} {Lv : List (Nat × Value)} {st : List Value}
theorem lw_widen {k j : Nat} (h1 : cells ≤ k) (h2 : slots ≤ j) (h : lw_V p l e s m below meth c b n D K KL σ ρ w pc Lv st k j) : lw_V p l e s m below meth c b n D K KL σ ρ w pc Lv st cells slots := fun H locs ls hI hl => W.widen h1 h2 (h H locs ls hI hl)
theorem lw_aload (C : lw_C p l s m meth c b L xs n D K KL sa) {k : Fin 4} {i x : Nat} (hd : decode cL_law pc = .ok (.aload_n k, 1)) (hi : (k : Nat) = i) (j : Nat) (hj : Lv[j]? = some (i, .ref x)) (hq : pc + 1 = q) (h : lw_V p l e s m below meth c b n D K KL σ ρ w q Lv (.ref x :: st) cells slots) : lw_V p l e s m below meth c b n D K KL σ ρ w pc Lv st cells slots := by
  subst hq
  exact fun H locs ls hI hl => lv_aload_n C.1.1 C.1.2.1 hd hi (lv_at hl j hj) (h H locs ls hI hl)
/-- one int of the script: aload_0, iload 4, iconst k, iadd, iaload -/
theorem lw_arg (C : lw_C p l s m meth c b L xs n D K KL sa) (i k : Nat) (j0 j4 : Nat) (h0 : Lv[j0]? = some (0, .ref b)) (h4 : Lv[j4]? = some (4, .int (nI i))) (hk : i + k < L) {kk : Int} (hkk : Int32.ofInt kk = nI k) (d0 : decode cL_law pc = .ok (.aload_n 0, 1)) (d1 : decode cL_law (pc + 1) = .ok (.iload 4, 2)) (d3 : decode cL_law (pc + 1 + 2) = .ok (.iconst kk, 1)) (d4 : decode cL_law (pc + 1 + 2 + 1) = .ok (.iadd, 1)) (d5 : decode cL_law (pc + 1 + 2 + 1 + 1) = .ok (.iaload, 1)) (hq : pc + 6 = q)
    (h : lw_V p l e s m below meth c b n D K KL σ ρ w q Lv (.int (xs (i + k)) :: st) cells slots) : lw_V p l e s m below meth c b n D K KL σ ρ w pc Lv st cells slots := by
  subst hq
  intro H locs ls hI hl
  obtain ⟨⟨hx, hb, -⟩, ⟨hX, hbl, hL⟩, -⟩ := C
  refine lv_aload_n hx hb d0 rfl (lv_at hl j0 h0) ?_
  refine lv_iload hx hb d1 (lv_at hl j4 h4) ?_
  refine lv_iconst (v := nI k) hx hb d3 hkk ?_
  refine lv_iadd hx hb d4 ?_
  rw [nI_add]
  have hcl : (nI (i + k)).toNatClampNeg = i + k := nI_clamp (by omega)
  refine va_sld hx hb hX hbl (fun z => by have z : s.heap.size ≤ b := z; omega) hI.2.2.2 (fun z => by
    rcases z with z | z
    · exact absurd z (nI_pos (by omega))
    · rw [hcl] at z; omega) d5 ?_
  rw [hcl]
  exact h H locs ls hI hl
theorem lw_back {Y : vv_Y} {args a : Array Value} {H : Heap} {locs : List Loc} {R : Room} {Q : State → Prop} {ls : Array Slot} {st0 rest : List Value} {post : Option Value → vv_S → Prop}
    (hr : va_Run p l e R s m args below meth c H locs cells slots 0 0 (F0 m pc ls st0) rest (vv_Qc Y H.size post a) (vv_A Y H.size)) (hS : va_S (lw_A s) s.heap H locs) (hY : ∀ k, k < Y.1 → s.heap.size ≤ Y.2.1 k)
    (kk : ∀ (v : Option Value) (σ1 : vv_S) (H1 : Heap) (locs1 : List Loc), post v σ1 → vv_P Y σ1 H1 → (∀ q, q < H.size → (∀ k, k < Y.1 → Y.2.1 k ≠ q) → H1[q]? = H[q]?) → va_S (lw_A s) s.heap H1 locs1 → W p l e R s m args below meth c H1 locs1 cells slots Q (F0 m (pc + 3) ls (v.toList ++ rest))) : W p l e R s m args below meth c H locs cells slots Q (F0 m pc ls st0) := by
  intro T hT X
  obtain ⟨v, st₀, t, T', Lc, h0, X', hL, e1, e2, ⟨⟨v', σ1, hv, hp, hb⟩, hz, hk⟩, st9⟩ := hr T hT X
  cases hv
  rw [h0] at hz hk
  have up : ∀ z, vv_A Y H.size z → lw_A s z := fun z hz => by
    rcases hz with ⟨k, k1, k2⟩ | z1
    · rw [← k2]; exact hY k k1
    · exact Nat.le_trans hS.1 z1
  have hk2 : ∀ q, q < H.size → (∀ k, k < Y.1 → Y.2.1 k ≠ q) → T'.heap[q]? = H[q]? := fun q h1 h2 => by
    rw [e1]
    refine hk q h1 (fun z => ?_)
    rcases z with ⟨k, k1, k3⟩ | z1
    · exact h2 k k1 k3
    · omega
  obtain ⟨t2, a1, b1⟩ := kk v σ1 T'.heap (locs ++ Lc) hp (by rw [e1]; exact hb) hk2
    ⟨Nat.le_trans hS.1 (by rw [e1]; exact hz), fun z h1 h2 => by rw [e1, hk z (Nat.lt_of_lt_of_le h1 hS.1) (fun w => h2 (up z w))]; exact hS.2.1 z h1 h2, fun z hz => by
      rcases List.mem_append.mp hz with h | h
      · exact hS.2.2 z h
      · exact up _ (hL z h)⟩ T' rfl X'
  exact ⟨t2, st9 t2 a1, b1⟩
theorem lw_callC (C : lw_C p l s m meth c b L xs n D K KL sa) {y : MethodName} {bytes : ByteArray} {maxL na index : Nat} {rt : Option FieldType} {ws ws' : List Cond} {rm1 : Room} {As : List Value} {r : Int32} {σ1 : vv_S} (hM : vv_M l (lw_yc s n D K) y ws rm1 (.ref ((lw_yc s n D K).2.1 0) :: As) σ (vv_R (.int r) σ1)) (hG : GoodIn wsL_law (wsV RL index RX3 y ws)) (hw : ws = Cond.code y bytes maxL rt :: ws')
    (hdd : y.cls = RX3 ∧ y.cls ≠ "java/lang/invoke/MethodHandle" ∧ y.cls ≠ "java/lang/invoke/VarHandle" ∧ (parseMethodDescriptor y.desc).map (fun d => d.parameters.length) = some na) (hd : decode cL_law pc = .ok (.invokevirtual index, 3)) (hRb : (Nat.ble (rm1.frames + 1) room_1.frames && Nat.ble (8 + (maxL + 11) + rm1.locals) room_1.locals && Nat.beq rm1.cells 0 && Nat.beq rm1.slots 0 && Nat.ble ((st.map fun v => v.category).sum) 8) = true) (hn : As.length = na) (hcs : cells ≤ room_1.cells ∧ slots ≤ room_1.slots) (hq : pc + 3 = q)
    (h : lw_V p l e s m below meth c b n D K KL σ1 ρ w q Lv (.int r :: st) cells slots) : lw_V p l e s m below meth c b n D K KL σ ρ w pc Lv (As.reverse ++ .ref s.heap.size :: st) cells slots := by
  subst hq
  intro H locs ls hI hl
  obtain ⟨⟨hx, hb, hml, hown, hts⟩, -, ⟨hK, -⟩, ⟨hn3, hn6⟩, -⟩ := C
  simp only [Bool.and_eq_true] at hRb
  obtain ⟨⟨⟨⟨hR1, hR2⟩, hR3⟩, hR4⟩, hR5⟩ := hRb
  have hY : pc_sys (lw_yc s n D K) n := pc_Y_sys hn3 hn6 (by omega)
  have hrecv : ∃ cellB : Cell, H[s.heap.size]? = some cellB ∧ cellB.vm.isStatics = false ∧ s.vm.findClass RX3 = some cellB.cls := va_recv hK.1.1 hI.1 (show vwCl[3]? = some (RX3, TX3, 10) from rfl) (vv_atc (hY.k (show 0 < 28 by decide)) (hY.P _))
  refine lw_back (Y := lw_yc s n D K) (va_runV (As := As) (rest := st) ⟨hx, hb, hml, hown, hts⟩ (hM H.size) (cwV na hts hG hw (Nat.eq_of_beq_eq_true hR3) (Nat.eq_of_beq_eq_true hR4) hdd ⟨Nat.le_of_ble_eq_true hR1, Nat.le_of_ble_eq_true hR2⟩) ⟨vv_blind, hrecv, fun U hU hW => ⟨rfl, by rw [hU], by rw [hU]; exact hI.1, vv_K.warm (Y := lw_yc s n D K) hW hK.1⟩⟩ rfl hn hl.1 rfl (vv_room (Nat.le_of_ble_eq_true hR5)) hd ⟨hcs.1, hcs.2⟩) hI.2.2.2 (fun k hk => (lw_yc_in hk).1) (fun v σ2 H1 locs1 hv hP1 hk hS1 => ?_)
  obtain ⟨rfl, rfl⟩ := hv
  refine h H1 locs1 ls ⟨hP1, hI.2.1.kept (fun k x hx => ?_), ?_, hS1⟩ hl
  · obtain ⟨k1, rfl⟩ := vv_inv hx
    refine hk _ ((hI.2.1 k _ hx).lt) (fun k' h' => ?_)
    have a1 := (lw_yc_in (s := s) (D := D) (K := K) h').2
    have a2 := (lw_ym_in (s := s) (n := n) (D := D) (K := K) k1).1
    omega
  · rw [hk _ (Array.getElem?_eq_some_iff.mp hI.2.2.1).1 (fun k' h' => ?_)]
    · exact hI.2.2.1
    · have a1 := (lw_yc_in (s := s) (D := D) (K := K) h').2
      unfold lw_oa
      omega
theorem lw_callM (C : lw_C p l s m meth c b L xs n D K KL sa) {y : MethodName} {bytes : ByteArray} {maxL na index : Nat} {rt : Option FieldType} {ws ws' : List Cond} {rm1 : Room} {As : List Value} {r : Int32} {ρ1 : vv_S} (hM : vv_M l (lw_ym s n D K) y ws rm1 (.ref ((lw_ym s n D K).2.1 0) :: As) ρ (vv_R (.int r) ρ1)) (hG : GoodIn wsL_law (wsV RL index RX4 y ws)) (hw : ws = Cond.code y bytes maxL rt :: ws')
    (hdd : y.cls = RX4 ∧ y.cls ≠ "java/lang/invoke/MethodHandle" ∧ y.cls ≠ "java/lang/invoke/VarHandle" ∧ (parseMethodDescriptor y.desc).map (fun d => d.parameters.length) = some na) (hd : decode cL_law pc = .ok (.invokevirtual index, 3)) (hRb : (Nat.ble (rm1.frames + 1) room_1.frames && Nat.ble (8 + (maxL + 11) + rm1.locals) room_1.locals && Nat.beq rm1.cells 0 && Nat.beq rm1.slots 0 && Nat.ble ((st.map fun v => v.category).sum) 8) = true) (hn : As.length = na) (hcs : cells ≤ room_1.cells ∧ slots ≤ room_1.slots) (hq : pc + 3 = q)
    (h : lw_V p l e s m below meth c b n D K KL σ ρ1 w q Lv (.int r :: st) cells slots) : lw_V p l e s m below meth c b n D K KL σ ρ w pc Lv (As.reverse ++ .ref (lw_m0 s n) :: st) cells slots := by
  subst hq
  intro H locs ls hI hl
  obtain ⟨⟨hx, hb, hml, hown, hts⟩, -, ⟨hK, -⟩, ⟨hn3, hn6⟩, -⟩ := C
  simp only [Bool.and_eq_true] at hRb
  obtain ⟨⟨⟨⟨hR1, hR2⟩, hR3⟩, hR4⟩, hR5⟩ := hRb
  have hY : pm_sys (lw_ym s n D K) n := pm_Y_sys hn3 hn6 (by omega)
  have hrecv : ∃ cellB : Cell, H[lw_m0 s n]? = some cellB ∧ cellB.vm.isStatics = false ∧ s.vm.findClass RX4 = some cellB.cls := va_recv hK.1.1 hI.2.1 (show vwCl[4]? = some (RX4, TX4, 25) from rfl) (vv_atc (hY.k (show 0 < 16 by decide)) (hY.M _))
  refine lw_back (Y := lw_ym s n D K) (va_runV (As := As) (rest := st) ⟨hx, hb, hml, hown, hts⟩ (hM H.size) (cwV na hts hG hw (Nat.eq_of_beq_eq_true hR3) (Nat.eq_of_beq_eq_true hR4) hdd ⟨Nat.le_of_ble_eq_true hR1, Nat.le_of_ble_eq_true hR2⟩) ⟨vv_blind, hrecv, fun U hU hW => ⟨rfl, by rw [hU], by rw [hU]; exact hI.2.1, vv_K.warm (Y := lw_ym s n D K) hW hK.1⟩⟩ rfl hn hl.1 rfl (vv_room (Nat.le_of_ble_eq_true hR5)) hd ⟨hcs.1, hcs.2⟩) hI.2.2.2 (fun k hk => Nat.le_trans (Nat.le_add_right _ _) (lw_ym_in hk).1) (fun v σ2 H1 locs1 hv hP1 hk hS1 => ?_)
  obtain ⟨rfl, rfl⟩ := hv
  refine h H1 locs1 ls ⟨hI.1.kept (fun k x hx => ?_), hP1, ?_, hS1⟩ hl
  · obtain ⟨k1, rfl⟩ := vv_inv hx
    refine hk _ ((hI.1 k _ hx).lt) (fun k' h' => ?_)
    have a1 := (lw_yc_in (s := s) (D := D) (K := K) k1).2
    have a2 := (lw_ym_in (s := s) (n := n) (D := D) (K := K) h').1
    omega
  · rw [hk _ (Array.getElem?_eq_some_iff.mp hI.2.2.1).1 (fun k' h' => ?_)]
    · exact hI.2.2.1
    · have a1 := (lw_ym_in (s := s) (n := n) (D := D) (K := K) h').2
      omega
theorem lw_icmpeq (C : lw_C p l s m meth c b L xs n D K KL sa) {x y : Int32} {off : Int} {tgt : Nat} (hd : decode cL_law pc = .ok (.if_icmp .eq off, 3)) (ht : (pc : Int) + off = (tgt : Int)) (he : x = y) (h : lw_V p l e s m below meth c b n D K KL σ ρ w tgt Lv st cells slots) : lw_V p l e s m below meth c b n D K KL σ ρ w pc Lv (.int y :: .int x :: st) cells slots :=
  fun H locs ls hI hl => lv_icmp_eq C.1.1 C.1.2.1 hd ht (fun _ => h H locs ls hI hl) (fun z => absurd he z)
end LW
