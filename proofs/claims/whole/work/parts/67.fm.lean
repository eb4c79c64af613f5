/-! Math.floorMod: no row of the table stands in its place; its walk, its call -/
def cf_mod (x y : Int32) : Int32 := if 0 ≤ x ^^^ y then x - x / y * y else if x - x / y * y = 0 then x - x / y * y else x - x / y * y + y
theorem cf_noRow0 : (NativeRow.find? natives yJ9_floorMod_7cf53.cls yJ9_floorMod_7cf53.name yJ9_floorMod_7cf53.desc).isNone = true := by decide +kernel
theorem cf_noRow (p : Program) : NativeRow.find? p.tables.natives yJ9_floorMod_7cf53.cls yJ9_floorMod_7cf53.name yJ9_floorMod_7cf53.desc = none := by
  cases p <;> exact Option.isNone_iff_eq_none.mp cf_noRow0
def cf_spec (a b : Int32) : Spec where
  pre := .and (.code yJ9_floorMod_7cf53 cJ9_floorMod_7cf53 3 (some .int)) (.and (.count 2) (.and (.and (.isInt (.arg 0)) (.isInt (.arg 1))) (.and (.eq (.arg 0) (.int a)) (.eq (.arg 1) (.int b)))))
  post := .and .returned (.eq .result (.int (cf_mod a b)))
  changes := some []
set_option maxHeartbeats 4000000 in
theorem cf_meets (l : Launch) (a b : Int32) (hb : ¬ b = 0) : MeetsLoose l yJ9_floorMod_7cf53 (cf_spec a b) := by
  refine MeetsLoose.of_body_ov (code := cJ9_floorMod_7cf53) (maxLocals := 3) (ret := some .int) cf_noRow ?_ ?_
  · intro args s h
    simp only [cf_spec, Cond.before_and, Bool.and_eq_true] at h
    exact h.1
  · intro p e s m args below meth c s₁ B
    have hpre := B.pre
    simp only [cf_spec, Cond.before_and, Bool.and_eq_true] at hpre
    obtain ⟨x, y, rfl⟩ := Cond.two_ints hpre.2.1 hpre.2.2.1.1 hpre.2.2.1.2
    have hxa : x = a := by
      have := hpre.2.2.2.1
      by_cases z : x = a
      · exact z
      · simp [Cond.before, Cond.holds, Cond.value, Term.eval, z] at this
    have hyb : y = b := by
      have := hpre.2.2.2.2
      by_cases z : y = b
      · exact z
      · simp [Cond.before, Cond.holds, Cond.value, Term.eval, z] at this
    subst hxa
    subst hyb
    have hloc : argsToLocals #[.int x, .int y] 3 = #[.val (.int x), .val (.int y), .unset] := rfl
    obtain ⟨fs, hfs⟩ := handOver_isSome (s := s₁) (some (.int (cf_mod x y))) B.hears₁
    refine ⟨s₁.setFrames fs, .returned (some (.int (cf_mod x y))), ?_, B.here.running, B.ended hfs (by intro h; cases h), ?_, State.sameBut_nil.mpr ?_⟩
    · unfold entryFrame
      rw [hloc]
      refine Steps.instrAtOv (c := _) (by simpa using B.here) ?_
      simp [jvm, wpRun, exec, B.here.top, B.exec, B.bytes, dJ9_floorMod_7cf53_0]
      refine Steps.instrAtOv (c := _) (by simpa using B.here) ?_
      simp [jvm, wpRun, exec, B.here.top, B.exec, B.bytes, dJ9_floorMod_7cf53_1]
      refine Steps.instrAtOv (c := _) (by simpa using B.here) ?_
      simp [jvm, wpRun, exec, B.here.top, B.exec, B.bytes, dJ9_floorMod_7cf53_2, hb]
      refine Steps.instrAtOv (c := _) (by simpa using B.here) ?_
      simp [jvm, wpRun, exec, B.here.top, B.exec, B.bytes, dJ9_floorMod_7cf53_3]
      refine ⟨#[.val (.int x), .val (.int y), .val (.int (x - x / y * y))], rfl, ?_⟩
      generalize hr : x - x / y * y = r
      have hcf : cf_mod x y = if 0 ≤ x ^^^ y then r else if r = 0 then r else r + y := by unfold cf_mod; rw [hr]
      refine Steps.instrAtOv (c := _) (by simpa using B.here) ?_
      simp [jvm, wpRun, exec, B.here.top, B.exec, B.bytes, dJ9_floorMod_7cf53_4]
      refine Steps.instrAtOv (c := _) (by simpa using B.here) ?_
      simp [jvm, wpRun, exec, B.here.top, B.exec, B.bytes, dJ9_floorMod_7cf53_5]
      refine Steps.instrAtOv (c := _) (by simpa using B.here) ?_
      simp [jvm, wpRun, exec, B.here.top, B.exec, B.bytes, dJ9_floorMod_7cf53_6]
      by_cases h1 : 0 ≤ x ^^^ y
      · rw [if_pos h1] at hcf
        refine Steps.instrAtOv (c := _) (by simpa using B.here) ?_
        simp [jvm, wpRun, exec, B.here.top, B.exec, B.bytes, dJ9_floorMod_7cf53_7, Op.ifCond.holds, h1]
        refine Steps.instrAtOv (c := _) (by simpa using B.here) ?_
        simp [jvm, wpRun, exec, B.here.top, B.exec, B.bytes, dJ9_floorMod_7cf53_18]
        refine Steps.instrAtOv (c := _) (by simpa using B.here) ?_
        simp [jvm, wpRun, exec, B.here.top, B.exec, B.bytes, dJ9_floorMod_7cf53_19, B.method₁, B.returns, narrow]
        intro acts
        rw [ret_to B.frames₁ B.method₁ B.notSynchronized rfl rfl (by rw [← hcf]; exact hfs)]
        exact Steps.refl _
      · rw [if_neg h1] at hcf
        refine Steps.instrAtOv (c := _) (by simpa using B.here) ?_
        simp [jvm, wpRun, exec, B.here.top, B.exec, B.bytes, dJ9_floorMod_7cf53_7, Op.ifCond.holds, h1]
        refine Steps.instrAtOv (c := _) (by simpa using B.here) ?_
        simp [jvm, wpRun, exec, B.here.top, B.exec, B.bytes, dJ9_floorMod_7cf53_10]
        by_cases h2 : r = 0
        · rw [if_pos h2] at hcf
          refine Steps.instrAtOv (c := _) (by simpa using B.here) ?_
          simp [jvm, wpRun, exec, B.here.top, B.exec, B.bytes, dJ9_floorMod_7cf53_11, Op.ifCond.holds, h2]
          refine Steps.instrAtOv (c := _) (by simpa using B.here) ?_
          simp [jvm, wpRun, exec, B.here.top, B.exec, B.bytes, dJ9_floorMod_7cf53_18]
          refine Steps.instrAtOv (c := _) (by simpa using B.here) ?_
          simp [jvm, wpRun, exec, B.here.top, B.exec, B.bytes, dJ9_floorMod_7cf53_19, B.method₁, B.returns, narrow]
          intro acts
          rw [ret_to B.frames₁ B.method₁ B.notSynchronized rfl rfl (by rw [hcf, h2] at hfs; exact hfs)]
          exact Steps.refl _
        · rw [if_neg h2] at hcf
          refine Steps.instrAtOv (c := _) (by simpa using B.here) ?_
          simp [jvm, wpRun, exec, B.here.top, B.exec, B.bytes, dJ9_floorMod_7cf53_11, Op.ifCond.holds, h2]
          refine Steps.instrAtOv (c := _) (by simpa using B.here) ?_
          simp [jvm, wpRun, exec, B.here.top, B.exec, B.bytes, dJ9_floorMod_7cf53_14]
          refine Steps.instrAtOv (c := _) (by simpa using B.here) ?_
          simp [jvm, wpRun, exec, B.here.top, B.exec, B.bytes, dJ9_floorMod_7cf53_15]
          refine Steps.instrAtOv (c := _) (by simpa using B.here) ?_
          simp [jvm, wpRun, exec, B.here.top, B.exec, B.bytes, dJ9_floorMod_7cf53_16]
          refine Steps.instrAtOv (c := _) (by simpa using B.here) ?_
          simp [jvm, wpRun, exec, B.here.top, B.exec, B.bytes, dJ9_floorMod_7cf53_17, B.method₁, B.returns, narrow]
          intro acts
          rw [ret_to B.frames₁ B.method₁ B.notSynchronized rfl rfl (by rw [← hcf]; exact hfs)]
          exact Steps.refl _
    · simp [cf_spec, Cond.after, Cond.holds, Cond.value, Term.eval]
    · rw [State.frames_setFrames _ B.cur₁, B.back]
section CFC
variable {p : Program} {l : Launch} {e : Env} {R : Room} {s : State} {m : MethodId} {args : Array Value} {below : List Frame} {meth : Method} {c : Code} {H : Heap} {locs : List Loc} {cells slots : Nat} {Q : State → Prop}
variable {cc : ByteArray} {pc q : Nat} {ls : Array Slot} {rest : List Value}
theorem cf_call (hx : p.tables.exec = Jvm.exec) (hb : c.code = cc) (hml : c.maxLocals = ls.size) {own : String} {index : Nat} (hown : s.vm.findClass own = some m.cls) (hlink : (Cond.methodLink own index yJ9_floorMod_7cf53).before args s = true) (hstat : (Cond.static yJ9_floorMod_7cf53).before args s = true) (hini : (Cond.initialized yJ9_floorMod_7cf53.cls).before args s = true)
    (hcode : (Cond.code yJ9_floorMod_7cf53 cJ9_floorMod_7cf53 3 (some .int)).before args s = true) (hframes : 1 ≤ R.frames) (hlocals : (rest.map fun v => v.category).sum + 14 ≤ R.locals) (hc : cells ≤ R.cells) (hs : slots ≤ R.slots) {a b : Int32} (hne : ¬ b = 0) (hdg : decode cc pc = .ok (.invokestatic index, 3)) (hq : pc + 3 = q)
    (kk : W p l e R s m args below meth c H locs cells slots Q (F0 m q ls (.int (cf_mod a b) :: rest))) : W p l e R s m args below meth c H locs cells slots Q (F0 m pc ls (.int b :: .int a :: rest)) := by
  subst hq
  intro T hT X
  obtain ⟨v, T', X', ⟨first, t, hpost⟩, hstep⟩ := X.staticByContractV hx hown hlink hstat hini hcode (by decide) (cf_meets l a b hne) rfl rfl rfl rfl
    (fun args' first o s₂ h => by
      simp only [cf_spec, Cond.after_and, Bool.and_eq_true] at h
      cases o with
      | returned r => exact ⟨r, rfl⟩
      | threw y => simp [Cond.after, Cond.holds, Cond.value] at h)
    (g := F0 m pc ls (.int b :: .int a :: rest)) rfl hml.symm (argsL := [.int a, .int b]) (rest := rest)
    (fun sig hs => by
      have h : parseMethodDescriptor yJ9_floorMod_7cf53.desc = some { parameters := [.int, .int], returnType := some .int } := by decide +kernel
      rw [h] at hs
      rw [← Option.some.inj hs]; rfl)
    rfl (by rw [hb]; exact hdg)
    (fun vm' hW => by
      simp only [cf_spec, Cond.before_and, Bool.and_eq_true]
      refine ⟨?_, rfl, ⟨rfl, rfl⟩, ?_, ?_⟩
      · have q := hcode
        rw [← Cond.code_setVm hW.alike] at q
        simp only [Cond.before, Cond.holds, Cond.value, State.methodNamed?, State.vm_setVm] at q ⊢
        exact q
      · simp [Cond.before, Cond.holds, Cond.value, Term.eval]
      · simp [Cond.before, Cond.holds, Cond.value, Term.eval])
    (by show 0 + 1 ≤ R.frames; omega) (by show 2 * 0 + (rest.map fun v => v.category).sum + (3 + 11) + 0 ≤ R.locals; omega) (by show cells + 0 ≤ R.cells; omega) (by show slots + 0 ≤ R.slots; omega)
  obtain ⟨t2, a1, b1⟩ := kk (T.setVm T') hT X'
  refine ⟨t2, hstep t2 ?_, b1⟩
  obtain rfl : v = some (.int (cf_mod a b)) := by
    rcases v with _ | w
    · simp [cf_spec, Cond.after, Cond.holds, Cond.value, Term.eval] at hpost
    · cases w <;> simp [cf_spec, Cond.after, Cond.holds, Cond.value, Term.eval] at hpost
      rename_i r
      by_cases hr : r = cf_mod a b <;> simp [hr] at hpost ⊢
  exact a1
end CFC
