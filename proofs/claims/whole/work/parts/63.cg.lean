/-! CONSTRUCTORS: worlds that grow, cell behind cell, at addresses that are known -/
def cg_w (ad : Nat → Nat) (ct : Nat → va_E) (N : Nat) : va_W := (List.range N).map fun k => (ad k, ct k)
theorem cg_w_at {ad : Nat → Nat} {ct : Nat → va_E} {N k : Nat} (h : k < N) : (cg_w ad ct N)[k]? = some (ad k, ct k) := by
  unfold cg_w
  rw [List.getElem?_map, List.getElem?_range h]
  rfl
theorem cg_w_inv {ad : Nat → Nat} {ct : Nat → va_E} {N k : Nat} {q : Nat × va_E} (h : (cg_w ad ct N)[k]? = some q) : k < N ∧ q = (ad k, ct k) := by
  have hk : k < N := by
    rcases Nat.lt_or_ge k N with a | a
    · exact a
    · unfold cg_w at h
      rw [List.getElem?_eq_none (by rw [List.length_map, List.length_range]; exact a)] at h
      cases h
  rw [cg_w_at hk] at h
  exact ⟨hk, (Option.some.inj h).symm⟩
def cg_ad (h0 sz k : Nat) : Nat := if k = 0 then h0 else sz + k - 1
theorem cg_ad_s {h0 sz k : Nat} (h : k ≠ 0) : cg_ad h0 sz k = sz + k - 1 := if_neg h
def cg_A (h0 sz : Nat) : Nat → Prop := fun q => q = h0 ∨ sz ≤ q
def cg_ty (K : Nat → ClassId) : List (ClassId × FieldType) := [(K 0, .int), (K 1, .boolean), (K 2, .object RX0), (K 3, .object RX1)]
def cg_K (D : va_G) (K : Nat → ClassId) (U : State) : Prop := vv_K (0, (fun k => k), (fun _ _ => .inr (0, [])), D, vwCl, cg_ty K, pc_nw) U ∧ va_AO RX0 U ∧ va_AO RX1 U
theorem cg_K.warm {D : va_G} {K : Nat → ClassId} {s U : State} (hW : s.WarmedH U.vm) (h : cg_K D K s) : cg_K D K U := ⟨h.1.warm hW, h.2.1.moved hW.alike, h.2.2.moved hW.alike⟩
theorem cg_K.same {D : va_G} {K : Nat → ClassId} {s U : State} (hv : s.vm = U.vm) (h : cg_K D K s) : cg_K D K U := ⟨h.1.same hv, h.2.1.moved (by rw [hv]; exact Vm.Alike.refl _), h.2.2.moved (by rw [hv]; exact Vm.Alike.refl _)⟩
theorem cg_K.va {D : va_G} {K : Nat → ClassId} {s : State} (h : cg_K D K s) : va_K D vwCl (cg_ty K) s := h.1.1
/-- the object h0 and N cells made since the heap had sz of them -/
def cg_I (D : va_G) (h0 sz N : Nat) (ct : Nat → va_E) (H0 H : Heap) (locs : List Loc) : Prop := H0.size = sz ∧ h0 < sz ∧ H.size = sz + N ∧ va_P D vwCl (cg_w (cg_ad h0 sz) ct (N + 1)) H ∧ va_S (cg_A h0 sz) H0 H locs
section CG
variable {D : va_G} {h0 sz N : Nat} {ct : Nat → va_E} {H0 H H1 : Heap} {locs : List Loc}
theorem cg_I.at (h : cg_I D h0 sz N ct H0 H locs) {k : Nat} (hk : k < N + 1) : va_at D vwCl (cg_ad h0 sz k, ct k) H := h.2.2.2.1 k _ (cg_w_at hk)
theorem cg_P_of {ad : Nat → Nat} (h : ∀ k, k < N → va_at D vwCl (ad k, ct k) H) : va_P D vwCl (cg_w ad ct N) H := fun k q hq => by
  obtain ⟨h1, rfl⟩ := cg_w_inv hq
  exact h k h1
theorem cg_grow (h : cg_I D h0 sz N ct H0 H locs) {e : va_E} (z1 : H1.size = sz + N + 1) (o1 : ∀ q, q < sz + N → H1[q]? = H[q]?) (he : va_at D vwCl (sz + N, e) H1) : cg_I D h0 sz (N + 1) (va_up ct (N + 1) e) H0 H1 locs := by
  obtain ⟨i1, i2, i3, i4, i5⟩ := h
  refine ⟨i1, i2, by omega, cg_P_of (fun k hk => ?_), by have := i5.1; omega, fun q a b => ?_, i5.2.2⟩
  · by_cases e1 : k = N + 1
    · subst e1
      unfold va_up
      rw [if_pos rfl, cg_ad_s (by omega)]
      exact he
    · have : va_up ct (N + 1) e k = ct k := if_neg e1
      rw [this]
      have hk' : k < N + 1 := by omega
      refine (i4 k _ (cg_w_at hk')).kept (o1 _ ?_)
      show cg_ad h0 sz k < sz + N
      unfold cg_ad
      split <;> omega
  · rw [o1 q (by omega)]
    exact i5.2.1 q a b
theorem cg_set (h : cg_I D h0 sz N ct H0 H locs) {k : Nat} {e : va_E} (hk : k < N + 1) (z : H1.size = H.size) (oq : ∀ q, q ≠ cg_ad h0 sz k → H1[q]? = H[q]?) (he : va_at D vwCl (cg_ad h0 sz k, e) H1) {j : Nat} : cg_I D h0 sz N (va_up ct k e) H0 H1 (locs ++ [⟨cg_ad h0 sz k, j⟩]) := by
  obtain ⟨i1, i2, i3, i4, i5⟩ := h
  refine ⟨i1, i2, by omega, cg_P_of (fun i hi => ?_), i5.put z oq ?_⟩
  · by_cases e1 : i = k
    · subst e1
      unfold va_up
      rw [if_pos rfl]
      exact he
    · have : va_up ct k e i = ct i := if_neg e1
      rw [this]
      refine (i4 i _ (cg_w_at hi)).kept (oq _ ?_)
      show cg_ad h0 sz i ≠ cg_ad h0 sz k
      unfold cg_ad
      split <;> split <;> omega
  · show cg_ad h0 sz k = h0 ∨ sz ≤ cg_ad h0 sz k
    unfold cg_ad
    split
    · exact Or.inl rfl
    · exact Or.inr (by omega)
end CG
section CGW
variable {p : Program} {l : Launch} {e : Env} {R : Room} {s : State} {m : MethodId} {args : Array Value} {below : List Frame} {meth : Method} {c : Code} {H : Heap} {locs : List Loc} {cells slots : Nat} {Q : State → Prop}
variable {cc : ByteArray} {pc q : Nat} {ls : Array Slot} {rest : List Value} {D : va_G} {K : Nat → ClassId} {h0 sz N : Nat} {ct : Nat → va_E}
theorem cg_newa (hx : p.tables.exec = Jvm.exec) (hb : c.code = cc) {atype : ArrayType} (harr : (Cond.arrayClass (newarray.typeOf atype)).before args s = true) {ty : FieldType} (hty : newarray.typeOf atype = ty) (t0 : Nat) {cA : ClassId} (ht : (cg_ty K)[t0]? = some (cA, ty)) (hti : ty = .int ∨ ty = .boolean)
    (hK : cg_K D K s) (hI : cg_I D h0 sz N ct s.heap H locs) {n : Int32} {N' : Nat} (hn : ¬ n < 0) (hN : n.toNatClampNeg = N') (hbytes : N' * componentBytes ty ≤ 536870912) (hcells : cells + 1 ≤ R.cells) (hslots : slots + N' ≤ R.slots) (hdg : decode cc pc = .ok (.newarray atype, 2)) (hq : pc + 2 = q)
    (kk : ∀ H1 : Heap, cg_I D h0 sz (N + 1) (va_up ct (N + 1) (.inl (cA, N', .inl fun _ => 0))) s.heap H1 locs → W p l e R s m args below meth c H1 locs (cells + 1) (slots + N') Q (F0 m q ls (.ref (sz + N) :: rest))) : W p l e R s m args below meth c H locs cells slots Q (F0 m pc ls (.int n :: rest)) := by
  subst hty
  subst hq
  refine va_newaK hx hb harr rfl hdg rfl hn hN hbytes hcells hslots hI.2.2.1 fun H1 cA' e1 z1 o1 hAr hNm => ?_
  have hra := (hK.va.2 t0 _ ht).2
  have hc : cA' = cA := by
    rcases hti with z | z
    · rw [z] at hNm hra
      exact Option.some.inj (hNm.symm.trans hra)
    · rw [z] at hNm hra
      exact Option.some.inj (hNm.symm.trans hra)
  subst hc
  refine kk H1 (cg_grow hI z1 o1 ?_)
  show H1[sz + N]? = some (vp_cell cA' (N', .inl fun _ => 0))
  rw [e1]
  rcases hti with z | z
  · rw [z]; rfl
  · rw [z]; rfl
theorem cg_newq (hx : p.tables.exec = Jvm.exec) (hb : c.code = cc) {own C : String} {index : Nat} (hown : s.vm.findClass own = some m.cls) (hcl : (Cond.classLink own index C).before args s = true) (hover : va_AO C s) (t0 : Nat) {cA : ClassId} (ht : (cg_ty K)[t0]? = some (cA, .object C))
    (hK : cg_K D K s) (hI : cg_I D h0 sz N ct s.heap H locs) {n : Int32} {N' : Nat} (hn : ¬ n < 0) (hN : n.toNatClampNeg = N') (hbytes : N' * 4 ≤ 536870912) (hcells : cells + 1 ≤ R.cells) (hslots : slots + N' ≤ R.slots) (hdg : decode cc pc = .ok (.anewarray index, 3)) (hq : pc + 3 = q)
    (kk : ∀ H1 : Heap, cg_I D h0 sz (N + 1) (va_up ct (N + 1) (.inl (cA, N', .inr (.inr (.inr (.inr fun _ => none)))))) s.heap H1 locs → W p l e R s m args below meth c H1 locs (cells + 1) (slots + N') Q (F0 m q ls (.ref (sz + N) :: rest))) : W p l e R s m args below meth c H locs cells slots Q (F0 m pc ls (.int n :: rest)) := by
  subst hN
  subst hq
  refine W.anew hx hb hown hcl (va_AO.use hover) rfl hdg rfl hn hbytes hcells hslots fun cA' kA comp f1 f2 f3 f4 => ?_
  obtain ⟨kA', comp', -, -, -, g4⟩ := (hK.va.2 t0 _ ht).2
  have hc : cA' = cA := Option.some.inj (f1.symm.trans g4)
  subst hc
  rw [hI.2.2.1]
  refine kk _ (cg_grow hI (by rw [Array.size_push, hI.2.2.1]) (fun q hq => by rw [Array.getElem?_push, if_neg (by rw [hI.2.2.1]; omega)]) ?_)
  show (H.push _)[sz + N]? = some (vp_cell cA' _)
  rw [← hI.2.2.1, Array.getElem?_push_size, vp_cell_q]
  exact congrArg some (arrV_new ..)
theorem cg_new (hx : p.tables.exec = Jvm.exec) (hb : c.code = cc) {own C : String} {T : u_T} {Nf ci index : Nat} {Ts : List Cond} (hts : ∀ w ∈ Ts, w.before args s = true) (hin : ∀ w ∈ u_ws C T Nf, w ∈ Ts) (ty : Nat → FieldType) (hty : ∀ k, k < Nf → parseFieldDescriptor (T k).2.2.1 = some (ty k)) (hown : s.vm.findClass own = some m.cls) (hcl : Cond.classLink own index C ∈ Ts) (hinst : Cond.instantiable C Nf ∈ Ts) (hini : Cond.initialized C ∈ Ts)
    (hK : cg_K D K s) (hI : cg_I D h0 sz N ct s.heap H locs) (hc : vwCl[ci]? = some (C, T, Nf)) {fs : List Value} (hfs : ∀ j, j < Nf → defaultValue (ty j) = vp_V fs j) (hcells : cells + 1 ≤ R.cells) (hslots : slots + Nf ≤ R.slots) (hdg : decode cc pc = .ok (.new index, 3)) (hq : pc + 3 = q)
    (kk : ∀ H1 : Heap, cg_I D h0 sz (N + 1) (va_up ct (N + 1) (.inr (ci, fs))) s.heap H1 locs → W p l e R s m args below meth c H1 locs (cells + 1) (slots + Nf) Q (F0 m q ls (.ref (sz + N) :: rest))) : W p l e R s m args below meth c H locs cells slots Q (F0 m pc ls rest) := by
  subst hq
  have hKn := hK.va.1 ci _ hc
  refine W.newcK hx hb hown (hts _ hcl) (hts _ hinst) (hts _ hini) rfl hdg hcells hslots hKn.2.1 hI.2.2.1 fun H1 kC hkC e1 z1 o1 => ?_
  exact kk H1 (cg_grow hI z1 o1 ⟨_, hc, (u_born ty hts hin hKn hkC e1 hty).to hfs⟩)
theorem cg_put (hx : p.tables.exec = Jvm.exec) (hb : c.code = cc) {C : String} {T : u_T} {Nf ci index : Nat} {Ts : List Cond} (hts : ∀ w ∈ Ts, w.before args s = true) (hin : ∀ w ∈ u_ws C T Nf, w ∈ Ts) (ty0 : Nat → FieldType) (hty : ∀ k, k < Nf → parseFieldDescriptor (T k).2.2.1 = some (ty0 k)) (hnm : ∀ a, a < Nf → ∀ b, b < Nf → a ≠ b → (T a).2.1 ≠ (T b).2.1) (hown : s.vm.findClass C = some m.cls) (hinit : meth.name = "<init>")
    (hK : cg_K D K s) (hI : cg_I D h0 sz N ct s.heap H locs) {fs : List Value} (he : ct 0 = .inr (ci, fs)) (hc : vwCl[ci]? = some (C, T, Nf)) (k : Nat) (hk : k < Nf) (hlink : Cond.fieldLink C index C (T k).2.1 (T k).2.2.1 ∈ Ts) (hdecl : (T k).1 = C) {v : Value} (hn : narrow (ty0 k) v = v) (hfit : fits (ty0 k) v = true) (hl : k < fs.length)
    (hdg : decode cc pc = .ok (.putfield index, 3)) (hq : pc + 3 = q) (kk : ∀ (H1 : Heap) (locs1 : List Loc), cg_I D h0 sz N (va_up ct 0 (.inr (ci, fs.set k v))) s.heap H1 locs1 → W p l e R s m args below meth c H1 locs1 cells slots Q (F0 m q ls rest)) : W p l e R s m args below meth c H locs cells slots Q (F0 m pc ls (v :: .ref h0 :: rest)) := by
  subst hq
  have hap := va_apart (own := C) hts hin ty0 hty hnm hK.va hc
  have h0a := hI.at (k := 0) (by omega)
  rw [he] at h0a
  obtain ⟨r, h1, cell, q1, q2, q3, q4⟩ := h0a
  have hr : r = (C, T, Nf) := Option.some.inj (h1.symm.trans hc)
  subst hr
  obtain ⟨hS, hfc, kC, hkC, hkind⟩ := hK.va.1 ci _ hc
  obtain ⟨cf, kf, fi, f, hi, hsl⟩ := hS k hk
  have hlay := hts _ (hin _ (u_in_lay hk))
  have hst := (u_facts hfc hkC (u_lays hts hin hk) hi).1
  have hi' : s.fieldFound? C (T k).2.1 (T k).2.2.1 = some (cf, kf, fi, f) := by rw [← hdecl]; exact hi
  have fin : ∀ H' : Heap, H'[h0]? = some (cell.setSlot f.slot v) → H'.size = H.size → (∀ q, q ≠ h0 → H'[q]? = H[q]?) → W p l e R s m args below meth c H' (locs ++ [⟨h0, f.slot⟩]) cells slots Q (F0 m (pc + 3) ls rest) := by
    intro H' e1 e2 e3
    rw [hsl] at e1 ⊢
    exact kk H' _ (cg_set hI (k := 0) (e := .inr (ci, fs.set k v)) (by omega) e2 e3 ⟨_, hc, t_OB.to (V := updV (vp_V fs) k v) ⟨_, e1, q2, q3, t_set q4 hap hk v⟩ (fun j _ => vp_updV_set hl v j)⟩)
  unfold u_lay at hlay
  by_cases hfin : (T k).2.2.2 = true
  · rw [if_pos hfin] at hlay
    have hcf : m.cls = cf := by
      obtain ⟨_, _, c', _, _, _, -, -, hf', -, -, -, hown2, -⟩ := Cond.laysFinal_spec hlay
      have e1 : c' = cf := by have := hi.symm.trans hf'; simp at this; exact this.1.symm
      rw [hdecl] at hown2
      rw [← e1]
      exact Option.some.inj (hown.symm.trans hown2)
    have h6 := u_fits hfc hkC hkind (Or.inr hlay) hi (hty k hk) hn hfit
    exact W.putFinK hx hb hown (hts _ hlink) hi' hst hcf hinit (by rw [q2]; exact h6) q1 q3 (by rw [hsl]; exact k2_hasslot (q4 k hk)) rfl rfl hdg fin
  · rw [if_neg hfin] at hlay
    have h6 := u_store hfc hkC hkind hlay hi (hty k hk) hn hfit
    exact W.putK hx hb (f := f) ⟨hown, hts _ hlink, ⟨_, _, _, hi'⟩, hst⟩ (by rw [q2]; exact h6) q1 q3 (by rw [hsl]; exact k2_hasslot (q4 k hk)) rfl rfl hdg fin
theorem cg_get (hx : p.tables.exec = Jvm.exec) (hb : c.code = cc) {C : String} {T : u_T} {Nf ci index : Nat} {Ts : List Cond} (hts : ∀ w ∈ Ts, w.before args s = true) (hin : ∀ w ∈ u_ws C T Nf, w ∈ Ts) (hown : s.vm.findClass C = some m.cls)
    (hK : cg_K D K s) (hI : cg_I D h0 sz N ct s.heap H locs) {fs : List Value} (he : ct 0 = .inr (ci, fs)) (hc : vwCl[ci]? = some (C, T, Nf)) (k : Nat) (hk : k < Nf) (hlink : Cond.fieldLink C index C (T k).2.1 (T k).2.2.1 ∈ Ts) (hdecl : (T k).1 = C) {v : Value} (hv : fs[k]? = some v)
    (hdg : decode cc pc = .ok (.getfield index, 3)) (hq : pc + 3 = q) (kk : W p l e R s m args below meth c H locs cells slots Q (F0 m q ls (v :: rest))) : W p l e R s m args below meth c H locs cells slots Q (F0 m pc ls (.ref h0 :: rest)) := by
  subst hq
  exact va_get hx hb hts hin hown hK.va hI.2.2.2.1 0 (by rw [cg_w_at (by omega), he]; rfl) hc k hk (hts _ hlink) (fun x hh => by rw [hdecl] at hh; exact hh) hv hdg kk
theorem cg_ast (hx : p.tables.exec = Jvm.exec) (hb : c.code = cc) (hK : cg_K D K s) (hI : cg_I D h0 sz N ct s.heap H locs) (q0 t0 qk ci : Nat) {cA : ClassId} {r : vw_C} {n : Nat} {vs : List Value} {f : Nat → Option Nat} (hq0 : q0 < N + 1) (ha : ct q0 = .inl (cA, n, .inr (.inr (.inr (.inr f))))) (ht : (cg_ty K)[t0]? = some (cA, .object r.1)) (hqk : qk < N + 1) (hv : ct qk = .inr (ci, vs)) (hc : vwCl[ci]? = some r) {i : Int32} {j : Nat} (hi : i = nI j) (hj : j < n) (hn : n < 2 ^ 31) {v a : Nat} (hv' : v = cg_ad h0 sz qk) (ha' : a = cg_ad h0 sz q0)
    (hdg : decode cc pc = .ok (.aastore, 1)) (hq : pc + 1 = q) (kk : ∀ (H1 : Heap) (locs1 : List Loc), cg_I D h0 sz N (va_up ct q0 (.inl (cA, n, .inr (.inr (.inr (.inr (va_up f j (some (cg_ad h0 sz qk))))))))) s.heap H1 locs1 → W p l e R s m args below meth c H1 locs1 cells slots Q (F0 m q ls rest)) : W p l e R s m args below meth c H locs cells slots Q (F0 m pc ls (.ref v :: .int i :: .ref a :: rest)) := by
  subst hq
  subst hi
  subst hv'
  subst ha'
  have hcl : (nI j).toNatClampNeg = j := nI_clamp (by omega)
  have h0n : ¬ nI j < 0 := nI_pos (by omega)
  have hAa := hI.at hq0
  have hVa := hI.at hqk
  rw [ha] at hAa
  rw [hv] at hVa
  obtain ⟨r', hr', cellV, g1, g2, g3, -⟩ := hVa
  have hcls := (hK.va.1 ci r hc).2
  obtain ⟨kA, comp, k1, k2, k3, -⟩ := (hK.va.2 t0 _ ht).2
  have hcomp : comp = D.1 ci := Option.some.inj (k3.symm.trans hcls.1)
  subst hcomp
  obtain ⟨kC, hkC, -⟩ := hcls.2
  refine W.aast hx hb hAa (fun q h => by cases h) (fun h => by cases h) k1 k2 rfl hkC ⟨h0n, by show _ < (arrV _ _ _).slots.size; rw [arrV_size, hcl]; exact hj⟩ g1 (fun q h => by rw [g3] at h; cases h) (by rw [g2]; exact hkC) (by rw [g2]; exact va_assign hcls) rfl rfl hdg fun H1 e1 z oq => ?_
  refine kk H1 _ (cg_set hI hq0 z oq ?_)
  show H1[cg_ad h0 sz q0]? = some (vp_cell _ _)
  rw [e1, hcl, vp_cell_q, vp_cell_q, arrV_store]
  congr 2
  funext w
  by_cases hw : w = j
  · subst hw
    simp [updV, va_up, va_rf]
  · simp [updV, va_up, hw]
end CGW
/-! a constructor's contract, its call -/
def cg_Pc (D : va_G) (K : Nat → ClassId) (ci : Nat) (fs av : List Value) (h0 sz : Nat) : Array Value → State → Prop := fun v U => v = (Value.ref h0 :: av).toArray ∧ U.heap.size = sz ∧ va_at D vwCl (h0, .inr (ci, fs)) U.heap ∧ cg_K D K U
def cg_Qc (D : va_G) (M : Nat) (ctf : Nat → Nat → Nat → va_E) (h0 sz : Nat) : Array Value → State → Outcome → State → Prop := va_Qv (S := Unit) (fun _ => True) (fun _ t => t.heap.size = sz + M ∧ va_P D vwCl (cg_w (cg_ad h0 sz) (ctf h0 sz) (M + 1)) t.heap) (cg_A h0 sz)
def cg_M (l : Launch) (D : va_G) (K : Nat → ClassId) (y : MethodName) (ws : List Cond) (rm : Room) (mc ms ci : Nat) (fs av : List Value) (M : Nat) (ctf : Nat → Nat → Nat → va_E) : Prop := ∀ h0 sz : Nat, h0 < sz → Met l y ws rm (cg_Pc D K ci fs av h0 sz) (cg_Qc D M ctf h0 sz) mc ms (cg_A h0 sz)
theorem cg_blind {D : va_G} {K : Nat → ClassId} {ci h0 sz : Nat} {fs av : List Value} : FrameBlind (cg_Pc D K ci fs av h0 sz) := by
  intro a U g mk h
  obtain ⟨h1, h2, h3, h4⟩ := h
  exact ⟨h1, h2, h3, cg_K.same (s := U) (U := U.calling g mk a) rfl h4⟩
theorem cg_join {D : va_G} {h0 sz N M : Nat} {ct ctf : Nat → va_E} {H0 H H1 : Heap} {locs locs1 : List Loc} (hI : cg_I D h0 sz N ct H0 H locs) (hN : 0 < N) (hB : H1.size = sz + N + M) (hP : va_P D vwCl (cg_w (cg_ad (sz + N - 1) (sz + N)) ctf (M + 1)) H1) (hk : ∀ q, q < H.size → ¬ cg_A (sz + N - 1) (sz + N) q → H1[q]? = H[q]?) (hS : va_S (cg_A h0 sz) H0 H1 locs1) : cg_I D h0 sz (N + M) (fun j => if j < N then ct j else ctf (j - N)) H0 H1 locs1 := by
  obtain ⟨i1, i2, i3, i4, i5⟩ := hI
  refine ⟨i1, i2, by omega, cg_P_of (fun k h => ?_), hS⟩
  by_cases hkN : k < N
  · rw [if_pos hkN]
    refine (i4 k _ (cg_w_at (by omega))).kept (hk _ ?_ ?_)
    · show cg_ad h0 sz k < H.size
      unfold cg_ad
      split <;> omega
    · rintro (z | z)
      · change cg_ad h0 sz k = sz + N - 1 at z
        unfold cg_ad at z
        split at z <;> omega
      · change sz + N ≤ cg_ad h0 sz k at z
        unfold cg_ad at z
        split at z <;> omega
  · rw [if_neg hkN]
    have e1 : cg_ad h0 sz k = cg_ad (sz + N - 1) (sz + N) (k - N) := by
      unfold cg_ad
      split <;> split <;> omega
    rw [e1]
    exact hP (k - N) _ (cg_w_at (by omega))
section CGC
variable {p : Program} {l : Launch} {e : Env} {R : Room} {s : State} {m : MethodId} {args : Array Value} {below : List Frame} {meth : Method} {c : Code} {H : Heap} {locs : List Loc} {cells slots : Nat} {Q : State → Prop}
variable {cc : ByteArray} {pc q : Nat} {ls : Array Slot} {rest : List Value} {D : va_G} {K : Nat → ClassId} {h0 sz N : Nat} {ct : Nat → va_E}
theorem cg_callN {y : MethodName} {bytes : ByteArray} {maxL nL mc ms n index ci M : Nat} {ws Ts : List Cond} {rm : Room} {own host : String} {fs As st0 : List Value} {ctf : Nat → Nat → Nat → va_E} (S : CallFix p m c cc nL s args Ts own) (hM : cg_M l D K y ws rm mc ms ci fs As M ctf)
    (cw : va_CN R s args own index y host bytes maxL none ws rm mc ms n ∧ y.name = "<init>" ∧ (Cond.instanceMethod y).before args s = true) (hK : cg_K D K s) (hI : cg_I D h0 sz N ct s.heap H locs) (hN : 0 < N) (he : ct N = .inr (ci, fs)) (hn : As.length = n) (hsz : ls.size = nL) (hst : st0 = As.reverse ++ .ref (sz + N - 1) :: rest) (hW : 2 * (F0 m pc ls st0).monitorRoom + (rest.map fun v => v.category).sum ≤ 8)
    (hdg : decode cc pc = .ok (.invokespecial index, 3)) (hf : cells + mc ≤ R.cells ∧ slots + ms ≤ R.slots) (hq : pc + 3 = q) (kk : ∀ (H1 : Heap) (locs1 : List Loc), cg_I D h0 sz (N + M) (fun j => if j < N then ct j else ctf (sz + N - 1) (sz + N) (j - N)) s.heap H1 locs1 → W p l e R s m args below meth c H1 locs1 (cells + mc) (slots + ms) Q (F0 m q ls rest)) : W p l e R s m args below meth c H locs cells slots Q (F0 m pc ls st0) := by
  subst hq
  have hsz3 := hI.2.2.1
  have hfree : ∀ q, cg_A (sz + N - 1) (sz + N) q → cg_A h0 sz q := fun q hq => by
    rcases hq with z | z
    · exact Or.inr (by omega)
    · exact Or.inr (by omega)
  have hat := hI.at (k := N) (by omega)
  rw [he, cg_ad_s (by omega)] at hat
  refine va_callv (va_runIN S (hM (sz + N - 1) (sz + N) (by omega)) cw ⟨cg_blind, fun U hU hWm => ⟨rfl, by rw [hU]; exact hsz3, by rw [hU]; exact hat, hK.warm hWm⟩⟩ rfl hn hsz hst hW hdg hf) hI.2.2.2.2 (fun q _ h => hfree q h) hfree (fun u t H1 locs1 ht _ _ hB _ hk1 hS => ?_)
  rw [ht] at hB
  exact kk H1 locs1 (cg_join hI hN (by have := hB.1; omega) hB.2 hk1 hS)
theorem cg_callI {y : MethodName} {bytes : ByteArray} {maxL nL mc ms n index ci M : Nat} {ws Ts : List Cond} {rm : Room} {own : String} {fs As st0 : List Value} {ctf : Nat → Nat → Nat → va_E} (S : CallFix p m c cc nL s args Ts own) (hM : cg_M l D K y ws rm mc ms ci fs As M ctf)
    (cw : CallB R s args own index y bytes maxL none ws rm mc ms n ∧ y.name = "<init>" ∧ (Cond.instanceMethod y).before args s = true) (hK : cg_K D K s) (hI : cg_I D h0 sz N ct s.heap H locs) (hN : 0 < N) (he : ct N = .inr (ci, fs)) (hn : As.length = n) (hsz : ls.size = nL) (hst : st0 = As.reverse ++ .ref (sz + N - 1) :: rest) (hW : 2 * (F0 m pc ls st0).monitorRoom + (rest.map fun v => v.category).sum ≤ 8)
    (hdg : decode cc pc = .ok (.invokespecial index, 3)) (hf : cells + mc ≤ R.cells ∧ slots + ms ≤ R.slots) (hq : pc + 3 = q) (kk : ∀ (H1 : Heap) (locs1 : List Loc), cg_I D h0 sz (N + M) (fun j => if j < N then ct j else ctf (sz + N - 1) (sz + N) (j - N)) s.heap H1 locs1 → W p l e R s m args below meth c H1 locs1 (cells + mc) (slots + ms) Q (F0 m q ls rest)) : W p l e R s m args below meth c H locs cells slots Q (F0 m pc ls st0) := by
  subst hq
  have hsz3 := hI.2.2.1
  have hfree : ∀ q, cg_A (sz + N - 1) (sz + N) q → cg_A h0 sz q := fun q hq => by
    rcases hq with z | z
    · exact Or.inr (by omega)
    · exact Or.inr (by omega)
  have hat := hI.at (k := N) (by omega)
  rw [he, cg_ad_s (by omega)] at hat
  refine va_callv (va_runI S (hM (sz + N - 1) (sz + N) (by omega)) cw ⟨cg_blind, fun U hU hWm => ⟨rfl, by rw [hU]; exact hsz3, by rw [hU]; exact hat, hK.warm hWm⟩⟩ rfl hn hsz hst hW hdg hf) hI.2.2.2.2 (fun q _ h => hfree q h) hfree (fun u t H1 locs1 ht _ _ hB _ hk1 hS => ?_)
  rw [ht] at hB
  exact kk H1 locs1 (cg_join hI hN (by have := hB.1; omega) hB.2 hk1 hS)
end CGC
