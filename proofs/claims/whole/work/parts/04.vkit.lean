/-! THE WALK OVER A STORE. A system Y: its cells by number, the store says what ints they hold; V: the machine, at pc with these locals and this stack, over the store, comes to its end with the post. -/
abbrev vv_S : Type := Nat → Nat → Int32
abbrev vv_Y : Type := Nat × (Nat → Nat) × (Nat → (Nat → Int32) → va_E) × va_G × List vw_C × List (ClassId × FieldType) × List Cond
abbrev vv_Z : Type := Program × Launch × Env × Room × State × MethodId × Array Value × List Frame × Method × Code × (Option Value → vv_S → Prop)
def vv_wd (Y : vv_Y) (σ : vv_S) : va_W := (List.range Y.1).map (fun k => (Y.2.1 k, Y.2.2.1 k (σ k)))
def vv_A (Y : vv_Y) (sz : Nat) : Nat → Prop := fun q => (∃ k : Nat, k < Y.1 ∧ Y.2.1 k = q) ∨ sz ≤ q
def vv_ok (Y : vv_Y) : Prop := ∀ i j : Nat, i < Y.1 → j < Y.1 → Y.2.1 i = Y.2.1 j → i = j
def vv_P (Y : vv_Y) (σ : vv_S) (H : Heap) : Prop := va_P Y.2.2.2.1 Y.2.2.2.2.1 (vv_wd Y σ) H
def vv_nf (w : Cond) : Prop := (∃ (a : String) (i : Nat) (b n d h : String), w = .fieldLinkNest a i b n d h) ∨ ∃ (a : String) (i : Nat) (x : MethodName) (h : String), w = .methodLinkNest a i x h
def vv_K (Y : vv_Y) (U : State) : Prop := va_K Y.2.2.2.1 Y.2.2.2.2.1 Y.2.2.2.2.2.1 U ∧ ∀ w ∈ Y.2.2.2.2.2.2, vv_nf w ∧ va_Nw w U
def vv_Pc (Y : vv_Y) (av : List Value) (σ : vv_S) (sz : Nat) : Array Value → State → Prop := fun v U => v = av.toArray ∧ U.heap.size = sz ∧ vv_P Y σ U.heap ∧ vv_K Y U
def vv_Qc (Y : vv_Y) (sz : Nat) (post : Option Value → vv_S → Prop) : Array Value → State → Outcome → State → Prop := fun _ st oc t => (∃ (v : Option Value) (σ : vv_S), oc = .returned v ∧ post v σ ∧ vv_P Y σ t.heap) ∧ va_F (vv_A Y sz) st t
/-- a method's contract over the whole system: from the store σ it returns, and answer and store are as the post says -/
def vv_M (l : Launch) (Y : vv_Y) (y : MethodName) (ws : List Cond) (rm : Room) (av : List Value) (σ : vv_S) (post : Option Value → vv_S → Prop) : Prop :=
  ∀ sz : Nat, Met l y ws rm (vv_Pc Y av σ sz) (vv_Qc Y sz post) 0 0 (vv_A Y sz)
def vv_V (Y : vv_Y) (nL : Nat) (Z : vv_Z) (σ : vv_S) (pc : Nat) (L : List (Nat × Value)) (st : List Value) : Prop := match Z with
  | (p, l, e, R, s, m, args, below, meth, c, post) => ∀ (H : Heap) (locs : List Loc) (ls : Array Slot), vv_P Y σ H → va_S (vv_A Y s.heap.size) s.heap H locs → lv_has ls nL L →
    W p l e R s m args below meth c H locs 0 0 (MQ below (vv_Qc Y s.heap.size post) args s 0 0 (vv_A Y s.heap.size)) (F0 m pc ls st)
def vv_C (Y : vv_Y) (nL : Nat) (Z : vv_Z) (cc : ByteArray) (ret : Option FieldType) (Ts : List Cond) (own : String) (rm : Room) : Prop := match Z with
  | (p, _, _, R, s, m, args, _, meth, c, _) => vv_ok Y ∧ p.tables.exec = Jvm.exec ∧ c.code = cc ∧ c.maxLocals = nL ∧ meth.sig.returnType = ret ∧ s.vm.findClass own = some m.cls ∧ meth.locks = false ∧ (∀ w ∈ Ts, w.before args s = true) ∧ vv_K Y s ∧ R = rm
def vv_post (Z : vv_Z) : Option Value → vv_S → Prop := Z.2.2.2.2.2.2.2.2.2.2
def vv_l (Z : vv_Z) : Launch := Z.2.1
theorem vv_at {Y : vv_Y} {σ : vv_S} {k : Nat} (h : k < Y.1) : (vv_wd Y σ)[k]? = some (Y.2.1 k, Y.2.2.1 k (σ k)) := by
  unfold vv_wd
  rw [List.getElem?_map, List.getElem?_range h]
  rfl
theorem vv_atc {Y : vv_Y} {σ : vv_S} {k : Nat} {e : va_E} (h : k < Y.1) (he : Y.2.2.1 k (σ k) = e) : (vv_wd Y σ)[k]? = some (Y.2.1 k, e) := by
  rw [vv_at h, he]
theorem vv_set {Y : vv_Y} {σ σ' : vv_S} {k : Nat} {e : va_E} (h : k < Y.1) (he : Y.2.2.1 k (σ' k) = e) (ho : ∀ j : Nat, j ≠ k → σ' j = σ j) : (vv_wd Y σ).set k (Y.2.1 k, e) = vv_wd Y σ' := by
  apply List.ext_getElem?
  intro j
  rw [List.getElem?_set]
  by_cases hj : k = j
  · subst hj
    rw [if_pos rfl, if_pos (by unfold vv_wd; rw [List.length_map, List.length_range]; exact h), vv_at h, he]
  · rw [if_neg hj]
    by_cases hl : j < Y.1
    · rw [vv_at hl, vv_at hl, ho j (fun q => hj q.symm)]
    · unfold vv_wd
      rw [List.getElem?_eq_none (by rw [List.length_map, List.length_range]; omega), List.getElem?_eq_none (by rw [List.length_map, List.length_range]; omega)]
/-- the store with one place changed -/
def vv_up (σ : vv_S) (k j : Nat) (v : Int32) : vv_S := fun i => if i = k then upd (σ k) j v else σ i
theorem vv_up_s {σ : vv_S} {k j : Nat} {v : Int32} : vv_up σ k j v k = upd (σ k) j v := if_pos rfl
theorem vv_up_n {σ : vv_S} {k j i : Nat} {v : Int32} (h : i ≠ k) : vv_up σ k j v i = σ i := if_neg h
theorem vv_inv {Y : vv_Y} {σ : vv_S} {k : Nat} {q : Nat × va_E} (h : (vv_wd Y σ)[k]? = some q) : k < Y.1 ∧ q = (Y.2.1 k, Y.2.2.1 k (σ k)) := by
  have hk : k < Y.1 := by
    rcases Nat.lt_or_ge k Y.1 with a | a
    · exact a
    · unfold vv_wd at h
      rw [List.getElem?_eq_none (by rw [List.length_map, List.length_range]; exact a)] at h
      cases h
  rw [vv_at hk] at h
  exact ⟨hk, (Option.some.inj h).symm⟩
theorem vv_D {Y : vv_Y} (ok : vv_ok Y) (σ : vv_S) (sz : Nat) : va_D (vv_A Y sz) (vv_wd Y σ) := by
  refine ⟨fun i j p q hi hj e => ?_, fun k q h => ?_⟩
  · obtain ⟨a1, rfl⟩ := vv_inv hi
    obtain ⟨b1, rfl⟩ := vv_inv hj
    exact ok i j a1 b1 e
  · obtain ⟨a1, rfl⟩ := vv_inv h
    exact Or.inl ⟨k, a1, rfl⟩
theorem vv_K.warm {Y : vv_Y} {s U : State} (hW : s.WarmedH U.vm) (h : vv_K Y s) : vv_K Y U := by
  refine ⟨va_K.moved hW.alike h.1, fun w hw => ?_⟩
  obtain ⟨h1, h2⟩ := h.2 w hw
  refine ⟨h1, ?_⟩
  rcases h1 with ⟨a, i, b, n, d, hh, rfl⟩ | ⟨a, i, x, hh, rfl⟩
  · exact va_Nw.warmF hW h2
  · exact va_Nw.warmM hW h2
theorem vv_K.same {Y : vv_Y} {s U : State} (hv : s.vm = U.vm) (h : vv_K Y s) : vv_K Y U := by
  refine ⟨?_, fun w hw => ?_⟩
  · have h1 := h.1
    exact va_K.moved (by rw [hv]; exact Vm.Alike.refl _) h1
  · obtain ⟨h1, h2⟩ := h.2 w hw
    refine ⟨h1, ?_⟩
    rcases h1 with ⟨a, i, b, n, d, hh, rfl⟩ | ⟨a, i, x, hh, rfl⟩
    · exact va_Nw.same rfl hv h2
    · exact va_Nw.same rfl hv h2
theorem vv_blind {Y : vv_Y} {av : List Value} {σ : vv_S} {sz : Nat} : FrameBlind (vv_Pc Y av σ sz) := by
  intro a U g mk h
  obtain ⟨h1, h2, h3, h4⟩ := h
  exact ⟨h1, h2, h3, vv_K.same (s := U) (U := U.calling g mk a) rfl h4⟩
/-- a contract out of the walk of its body -/
theorem vv_M.of {l : Launch} {Y : vv_Y} {y : MethodName} {ws ws' : List Cond} {rm : Room} {av : List Value} {σ : vv_S} {post : Option Value → vv_S → Prop} {cc : ByteArray} {maxL : Nat} {ret : Option FieldType}
    (ok : vv_ok Y) (hy : plainName y.cls = true) (hw : ws = Cond.code y cc maxL ret :: ws') (hn : (lg_sl av).length ≤ maxL)
    (body : ∀ Z : vv_Z, vv_l Z = l → vv_post Z = post → vv_C Y maxL Z cc ret ws y.cls (headSpec ws rm).room → vv_V Y maxL Z σ 0 (lv_args 0 av) []) : vv_M l Y y ws rm av σ post := by
  intro sz
  refine Met.ofW (cc := cc) (maxL := maxL) (ret := ret) hy hw ?_
  intro p e s m args below meth c s₁ B hml hv
  obtain ⟨rfl, hsz, hP, hK⟩ := hv
  subst hsz
  have hts := atoms_spec (ws := ws) B.pre
  have hown : s.vm.findClass y.cls = some m.cls := findClass_of_methodNamed B.named
  have hb := body (p, l, e, (headSpec ws rm).room, s, m, av.toArray, below, meth, c, post) rfl rfl ⟨ok, B.exec, B.bytes, hml, B.returns, hown, B.notSynchronized, hts, hK, rfl⟩
  have hl := lv_entry av (n := maxL) hn
  rw [lg_entry_eq]
  exact hb s.heap [] _ hP va_S.rf hl
