/-! THE LAW: word, the loop -/
theorem lw_gt {L i : Nat} (hL : L ≤ 2561) (h : L < i + 5) (hi : i < 2 ^ 30 := by omega) : Int32.ofNat L - nI 5 < nI i := by
  rw [Int32.lt_iff_toInt_lt, nI_toInt (by omega), Int32.toInt_sub, show (nI 5).toInt = 5 by decide, show (Int32.ofNat L).toInt = L from nI_toInt (by omega), Int.bmod_eq_of_le (by omega) (by omega)]
  omega
theorem lw_end {p : Program} {l : Launch} {e : Env} {s : State} {m : MethodId} {below : List Frame} {meth : Method} {c : Code} {b n : Nat} {D : va_G} {K : Nat → ClassId} {KL : ClassId} {σ ρ : vv_S} {w : Int64} {H : Heap} {locs : List Loc} {ls : Array Slot} {cells slots : Nat} (hx : p.tables.exec = Jvm.exec) (hb : c.code = cL_law) (hrt : meth.sig.returnType = ret) (hlk : meth.locks = false) (hI : lw_I s n D K KL σ ρ w H locs) (h1 : cells ≤ 601024) (h2 : slots ≤ 7293000) :
    W p l e room_1 s m #[Value.ref b] below meth c H locs cells slots (lw_Z below #[Value.ref b] s) (F0 m 760 ls []) := by
  refine va_forget (fun q hq => hI.2.2.2.2.2 q hq) ?_
  refine W.widen (k := 601024) (n := 7293000) h1 h2 ?_
  refine lv_iconst (v := 1) hx hb dL_law_760 (by decide) ?_
  exact lw_ret hx hb hrt hlk dL_law_761
section LWW
variable {p : Program} {l : Launch} {e : Env} {s : State} {m : MethodId} {below : List Frame} {meth : Method} {c : Code} {b L n : Nat} {xs : Nat → Int32} {D : va_G} {K : Nat → ClassId} {KL : ClassId} {sa : Nat → Nat}
variable {σ ρ : vv_S} {w : Int64} {pc q cells slots i : Nat} {Lv Lv' : List (Nat × Value)} {st : List Value}
theorem lw_sub (hs : ∀ q ∈ Lv', q ∈ Lv) (h : lw_V p l e s m below meth c b n D K KL σ ρ w pc Lv' st cells slots) : lw_V p l e s m below meth c b n D K KL σ ρ w pc Lv st cells slots := fun H locs ls hI hl => h H locs ls hI ⟨hl.1, hl.2.1, fun q hq => hl.2.2 q (hs q hq)⟩
theorem lw_istore (C : lw_C p l s m meth c b L xs n D K KL sa) {i : Nat} {x : Int32} (hd : decode cL_law pc = .ok (.istore i, 2)) (hn : i < 7) (hL : (i, Value.int x) :: Lv.filter (fun q => !(q.1 == i) && !(q.1 + 1 == i && q.2.category == 2)) = Lv') (hq : pc + 2 = q) (h : lw_V p l e s m below meth c b n D K KL σ ρ w q Lv' st cells slots) : lw_V p l e s m below meth c b n D K KL σ ρ w pc Lv (.int x :: st) cells slots := by
  subst hq
  exact fun H locs ls hI hl => lv_istore C.1.1 C.1.2.1 hd hl hn hL (fun ls' hl' => h H locs ls' hI hl')
theorem lw_iload (C : lw_C p l s m meth c b L xs n D K KL sa) {i : Nat} {x : Int32} (hd : decode cL_law pc = .ok (.iload i, 2)) (j : Nat) (hj : Lv[j]? = some (i, .int x)) (hq : pc + 2 = q) (h : lw_V p l e s m below meth c b n D K KL σ ρ w q Lv (.int x :: st) cells slots) : lw_V p l e s m below meth c b n D K KL σ ρ w pc Lv st cells slots := by
  subst hq
  exact fun H locs ls hI hl => lv_iload C.1.1 C.1.2.1 hd (lv_at hl j hj) (h H locs ls hI hl)
theorem lw_goto (C : lw_C p l s m meth c b L xs n D K KL sa) {off : Int} {tgt : Nat} (hd : decode cL_law pc = .ok (.goto off, 3)) (ht : (pc : Int) + off = (tgt : Int)) (h : lw_V p l e s m below meth c b n D K KL σ ρ w tgt Lv st cells slots) : lw_V p l e s m below meth c b n D K KL σ ρ w pc Lv st cells slots :=
  fun H locs ls hI hl => lv_goto C.1.1 C.1.2.1 hd ht (h H locs ls hI hl)
theorem lw_callW (C : lw_C p l s m meth c b L xs n D K KL sa) (hJ : pc_J σ) {x y : Int32} (hd : decode cL_law pc = .ok (.invokestatic 48, 3)) (hst : Nat.ble ((st.map fun v => v.category).sum) 8 = true) (hcs : cells + 1 ≤ room_1.cells ∧ slots + 6 ≤ room_1.slots) (hq : pc + 3 = q)
    (h : ∀ (σ1 : vv_S) (w1 : Int64), (σ1, w1) = (if pc_th σ n x y = 0 then (pc_wds σ n x, (pc_wds σ n x 5 y.toNatClampNeg).toInt64) else (σ, w)) → lw_V p l e s m below meth c b n D K KL σ1 ρ w1 q Lv (.int (nI (pc_th σ n x y)) :: st) (cells + 1) (slots + 6)) : lw_V p l e s m below meth c b n D K KL σ ρ w pc Lv (.ref (lw_oa s n) :: .int y :: .int x :: .ref s.heap.size :: st) cells slots := by
  subst hq
  intro H locs ls hI hl
  obtain ⟨⟨hx, hb, hml, hown, hts⟩, -, ⟨hK, hX, hZ, hAr⟩, ⟨hn3, hn6⟩, hlt⟩ := C
  have hY : pc_sys (lw_yc s n D K) n := pc_Y_sys hn3 hn6 (by omega)
  have hoa : lw_oa s n < H.size := (Array.getElem?_eq_some_iff.mp hI.2.2.1).1
  have hoY : ∀ k, k < (lw_yc s n D K).1 → (lw_yc s n D K).2.1 k ≠ lw_oa s n := fun k hk => by
    have := (lw_yc_in (s := s) (D := D) (K := K) hk).2
    unfold lw_oa
    omega
  have up : ∀ q, vv_A (lw_yc s n D K) H.size q → lw_A s q := fun q hq => by
    rcases hq with ⟨k, k1, k2⟩ | z
    · rw [← k2]; exact (lw_yc_in k1).1
    · exact Nat.le_trans hI.2.2.2.1 z
  have up2 : ∀ q, cv_A (lw_yc s n D K) H.size (lw_oa s n) q → lw_A s q := fun q hq => by
    rcases hq with rfl | hq
    · show s.heap.size ≤ _
      unfold lw_oa lw_m0
      omega
    · exact up q hq
  have hZ2 : ∀ U : State, U.heap = H → s.WarmedH U.vm → cx_Z (vv_A (lw_yc s n D K) H.size) U U.heap := fun U hU hW => by
    rw [hU]
    have k1 : cx_Z (lw_A s) U s.heap := hZ.moved hW.alike
    exact ⟨(k1.1.kept (fun a h1 h2 => hI.2.2.2.2.1 a h1 h2)).narrow up, (k1.2.kept (fun a h1 h2 => hI.2.2.2.2.1 a h1 h2)).narrow up⟩
  refine va_calli (vx_runSW (As := [.ref s.heap.size, .int x, .int y, .ref (lw_oa s n)]) (rest := st) (hh := [(0, 10, 13, 13), (0, 10, 17, 15)]) ⟨hx, hb, hml, hown, hts⟩ (ck_lword l hlt (lw_yc s n D K) n hY σ x y hJ sa H.size (lw_oa s n) KL w hoa hoY) (vx_cwSW 4 hts gL_law_L_word rfl rfl rfl (by decide +kernel) ⟨Nat.le_of_ble_eq_true rfl, Nat.le_of_ble_eq_true rfl⟩) ⟨cv_blind, fun U hU hW => ⟨rfl, by rw [hU], by rw [hU]; exact hI.1, vv_K.warm (Y := lw_yc s n D K) hW hK.1, hX.warm hW, by have := hZ2 U hU hW; exact this, by rw [hU]; exact hI.2.2.1, arrOfT_moved hW.alike hAr⟩⟩ rfl rfl hl.1 rfl (vv_room (Nat.le_of_ble_eq_true hst)) hd hcs) hI.2.2.2 (fun q _ hq => up2 q hq) up2 (fun r u t H1 locs1 ht hal hp hB hz hk hS => ?_)
  obtain ⟨rfl, hu⟩ := hp
  obtain ⟨hP1, hO1⟩ := hB
  rw [ht] at hP1 hO1
  obtain ⟨σ1, w1⟩ := u
  refine h σ1 w1 hu H1 locs1 ls ⟨hP1, hI.2.1.kept (fun k x hx => ?_), hO1, hS⟩ hl
  obtain ⟨k1, rfl⟩ := vv_inv hx
  have a2 := lw_ym_in (s := s) (n := n) (D := D) (K := K) k1
  have hlt2 := (hI.2.1 k _ hx).lt
  refine hk _ hlt2 (fun z => ?_)
  rcases z with z | ⟨k', k2, k3⟩ | z
  · have z : (lw_ym s n D K).2.1 k = lw_oa s n := z
    omega
  · have a1 := (lw_yc_in (s := s) (D := D) (K := K) k2).2
    have k3 : (lw_yc s n D K).2.1 k' = (lw_ym s n D K).2.1 k := k3
    omega
  · have hlt2 : (lw_ym s n D K).2.1 k < H.size := hlt2
    have z : H.size ≤ (lw_ym s n D K).2.1 k := z
    omega
theorem lw_c_word (C : lw_C p l s m meth c b L xs n D K KL sa) (hcs : cells + 1 ≤ room_1.cells ∧ slots + 6 ≤ room_1.slots) (hi : i + 5 ≤ L) (h : pr_Rel n σ ρ) (next : ∀ σ ρ w, pr_Rel n σ ρ → lw_V p l e s m below meth c b n D K KL σ ρ w 754 (lw_L s n b i) [] (cells + 1) (slots + 6)) : lw_V p l e s m below meth c b n D K KL σ ρ w 264 (lw_L s n b i) [] cells slots := by
  have hn3 := C.2.2.2.1.1
  have hn6 := C.2.2.2.1.2
  have hYm : pm_sys (lw_ym s n D K) n := pm_Y_sys hn3 hn6 (by omega)
  have eth : pm_th ρ n (pm_r ρ) (xs (i + 1)) (xs (i + 2)) = pc_th σ n (xs (i + 1)) (xs (i + 2)) := by rw [h.r]; exact pr_th h hn3 hn6
  have ewd : pc_th σ n (xs (i + 1)) (xs (i + 2)) = 0 → pm_wd ρ n (pm_r ρ) (xs (i + 1)) (xs (i + 2)) = pc_wds σ n (xs (i + 1)) 5 (xs (i + 2)).toNatClampNeg := fun z => by rw [h.r]; exact pr_wd h hn3 hn6 z
  have thle : pc_th σ n (xs (i + 1)) (xs (i + 2)) ≤ 2 := by
    unfold pc_th
    repeat' split
    all_goals omega
  have tail : ∀ (σ1 : vv_S) (w1 : Int64), pr_Rel n σ1 ρ → (pc_th σ n (xs (i + 1)) (xs (i + 2)) = 0 → w1 = (pm_wd ρ n (pm_r ρ) (xs (i + 1)) (xs (i + 2))).toInt64) → lw_V p l e s m below meth c b n D K KL σ1 ρ w1 281 (lw_L s n b i) [.int (nI (pc_th σ n (xs (i + 1)) (xs (i + 2))))] (cells + 1) (slots + 6) := by
    intro σ1 w1 hR hw1
    refine lw_istore C dL_law_281 (by decide) rfl rfl ?_
    refine lw_aload C dL_law_283 rfl 3 rfl rfl ?_
    refine lw_arg C i 1 5 1 rfl rfl (by omega) (by decide) dL_law_284 dL_law_285 dL_law_287 dL_law_288 dL_law_289 rfl ?_
    refine lw_arg C i 2 5 1 rfl rfl (by omega) (by decide) dL_law_290 dL_law_291 dL_law_293 dL_law_294 dL_law_295 rfl ?_
    refine lw_callM (na := 2) (As := [.int (xs (i + 1)), .int (xs (i + 2))]) (st := []) (q := 299) C (cm_X4_word _ _ n hYm ρ (pm_r ρ) (xs (i + 1)) (xs (i + 2)) (pr_hr h).1 (pr_hr h).2) gL_law_X4_word rfl (by decide +kernel) dL_law_296 rfl rfl hcs rfl ?_
    refine lw_istore C dL_law_299 (by decide) rfl rfl ?_
    refine lw_aload C dL_law_301 rfl 4 rfl rfl ?_
    refine lw_callM (na := 0) (As := []) (st := []) (q := 305) C (cm_X4_thrown _ _ n hYm _) gL_law_X4_thrown rfl (by decide +kernel) dL_law_302 rfl rfl hcs rfl ?_
    refine lw_iload C dL_law_305 1 rfl rfl ?_
    refine lw_icmpeq C dL_law_307 (tgt := 312) rfl (by rw [vv_up_s, vv_upd_s, eth]) ?_
    refine lw_iload C dL_law_312 1 rfl rfl ?_
    have fin : lw_V p l e s m below meth c b n D K KL σ1 (vv_up ρ 0 0 (nI (pm_th ρ n (pm_r ρ) (xs (i + 1)) (xs (i + 2))))) w1 329 ((6, .int (pm_wd ρ n (pm_r ρ) (xs (i + 1)) (xs (i + 2)))) :: (5, .int (nI (pc_th σ n (xs (i + 1)) (xs (i + 2))))) :: lw_L s n b i) [] (cells + 1) (slots + 6) :=
      lw_goto C dL_law_329 (tgt := 754) rfl (lw_sub (Lv' := lw_L s n b i) (fun q hq => List.mem_cons_of_mem _ (List.mem_cons_of_mem _ hq)) (next _ _ _ hR.thr))
    intro H locs ls hI hl
    obtain ⟨⟨hx, hb, -⟩, -, ⟨-, -, -, hAr⟩, -⟩ := C
    refine lv_if_ne hx hb dL_law_314 (tgt := 329) rfl (fun _ => fin H locs ls hI hl) (fun h0 => ?_)
    have z0 : pc_th σ n (xs (i + 1)) (xs (i + 2)) = 0 := by
      have := congrArg Int32.toNatClampNeg (show nI (pc_th σ n (xs (i + 1)) (xs (i + 2))) = nI 0 from h0)
      rw [nI_clamp (by omega), nI_clamp (by omega)] at this
      exact this
    refine lv_aload_n hx hb dL_law_317 rfl (lv_at hl 3 rfl) ?_
    refine lv_iconst (v := nI 0) hx hb dL_law_318 (by decide) ?_
    refine W.lald (v := .long w1) hx hb (show H[lw_oa s n]? = some (arrV KL 1 (fun _ => .long w1)) from hI.2.2.1) (hAr 1 (fun _ => .long w1)) (fun q => by cases q) (by show ¬ ((nI 0 : Int32) < 0 ∨ (arrV _ _ _).slots.size ≤ _); rw [arrV_size]; decide) (by show (arrV _ _ _).slots[_]? = _; rw [arrV_read _ _ (show (nI 0).toNatClampNeg < 1 by decide)]) rfl rfl dL_law_319 ?_
    refine W.eq (g2 := F0 m 320 ls [.long w1]) rfl ?_
    refine lv_iload hx hb dL_law_320 (lv_at hl 0 rfl) ?_
    refine lv_i2l (v := (pm_wd ρ n (pm_r ρ) (xs (i + 1)) (xs (i + 2))).toInt64) hx hb dL_law_322 rfl ?_
    refine W.lcmp hx hb dL_law_323 ?_
    refine lv_if_eq hx hb dL_law_324 (tgt := 329) rfl (fun _ => fin H locs ls hI hl) (fun z => absurd ?_ z)
    rw [hw1 z0]
    unfold lg_cmp
    simp
  refine lw_aload C dL_law_264 rfl 3 rfl rfl ?_
  refine lw_arg C i 1 4 0 rfl rfl (by omega) (by decide) dL_law_265 dL_law_266 dL_law_268 dL_law_269 dL_law_270 rfl ?_
  refine lw_arg C i 2 4 0 rfl rfl (by omega) (by decide) dL_law_271 dL_law_272 dL_law_274 dL_law_275 dL_law_276 rfl ?_
  refine lw_aload C dL_law_277 rfl 1 rfl rfl ?_
  refine lw_callW (q := 281) C h.I.1 dL_law_278 rfl hcs rfl (fun σ1 w1 hu => ?_)
  by_cases z0 : pc_th σ n (xs (i + 1)) (xs (i + 2)) = 0
  · rw [if_pos z0] at hu
    cases hu
    exact tail _ _ h.wds (fun _ => by rw [ewd z0])
  · rw [if_neg z0] at hu
    cases hu
    exact tail _ _ h (fun z => absurd z z0)
theorem lw_tab (C : lw_C p l s m meth c b L xs n D K KL sa) (j : Nat) {off : Int} {tgt : Nat} (hj : j < 19) (ho : (#[91, 104, 141, 190, 215, 283, 308, 333, 346, 371, 396, 457, 494, 519, 568, 605, 630, 667, 692] : Array Int)[j]? = some off) (ht : (49 : Int) + off = (tgt : Int)) (h : lw_V p l e s m below meth c b n D K KL σ ρ w tgt Lv st cells slots) : lw_V p l e s m below meth c b n D K KL σ ρ w 49 Lv (.int (nI j) :: st) cells slots := by
  have hv : (nI j).toInt = j := nI_toInt (by omega)
  exact fun H locs ls hI hl => lv_tableIn C.1.1 C.1.2.1 dL_law_49 (by rw [hv]; omega) (by rw [hv]; omega) (by rw [hv, Int.sub_zero, Int.toNat_natCast]; exact ho) ht (h H locs ls hI hl)
theorem lw_loop (C : lw_C p l s m meth c b L xs n D K KL sa) (hrt : meth.sig.returnType = ret) (hlk : meth.locks = false) : ∀ (f k : Nat) (σ ρ : vv_S) (w : Int64), k + f = 513 → pr_Rel n σ ρ → lw_V p l e s m below meth c b n D K KL σ ρ w 33 (lw_L s n b (1 + 5 * k)) [] (70 + k) (4600 + 6 * k) := by
  have hL : L ≤ 2561 := C.2.1.2.2
  intro f
  induction f with
  | zero =>
    intro k σ ρ w hk h H locs ls hI hl
    obtain ⟨⟨hx, hb, -⟩, ⟨hX, hbl, -⟩, -⟩ := C
    refine lv_iload hx hb dL_law_33 (lv_at hl 0 rfl) ?_
    refine lv_aload_n hx hb dL_law_35 rfl (lv_at hl 4 rfl) ?_
    refine va_slen hx hb hX hbl (fun z => by have z : s.heap.size ≤ b := z; omega) hI.2.2.2 dL_law_36 ?_
    refine lv_iconst (v := nI 5) hx hb dL_law_37 (by decide) ?_
    refine lv_isub hx hb dL_law_38 ?_
    refine lv_icmp_gt hx hb dL_law_39 (tgt := 760) rfl (fun _ => ?_) (fun z => absurd (lw_gt hL (by omega)) z)
    exact lw_end hx hb hrt hlk hI (by omega) (by omega)
  | succ f ih =>
    intro k σ ρ w hk h H locs ls hI hl
    have next : ∀ σ ρ w, pr_Rel n σ ρ → lw_V p l e s m below meth c b n D K KL σ ρ w 754 (lw_L s n b (1 + 5 * k)) [] (70 + k + 1) (4600 + 6 * k + 6) := by
      intro σ ρ w h H locs ls hI hl
      refine lv_iinc C.1.1 C.1.2.1 dL_law_754 hl (k := 0) rfl (v := nI (1 + 5 * (k + 1))) (show nI (1 + 5 * k) + nI 5 = _ by rw [nI_add]; congr 1) (by decide) rfl (fun ls hl => ?_)
      refine lv_goto C.1.1 C.1.2.1 dL_law_757 (tgt := 33) rfl ?_
      refine W.widen (k := 70 + (k + 1)) (n := 4600 + 6 * (k + 1)) (by omega) (by omega) ?_
      exact ih (k + 1) σ ρ w (by omega) h H locs ls hI hl
    have hcs : 70 + k + 1 ≤ room_1.cells ∧ 4600 + 6 * k + 6 ≤ room_1.slots := ⟨Nat.le_trans (show 70 + k + 1 ≤ 1000 by omega) (Nat.le_of_ble_eq_true rfl), Nat.le_trans (show 4600 + 6 * k + 6 ≤ 10000 by omega) (Nat.le_of_ble_eq_true rfl)⟩
    have C' := C
    obtain ⟨⟨hx, hb, -⟩, ⟨hX, hbl, -⟩, -⟩ := C
    refine lv_iload hx hb dL_law_33 (lv_at hl 0 rfl) ?_
    refine lv_aload_n hx hb dL_law_35 rfl (lv_at hl 4 rfl) ?_
    refine va_slen hx hb hX hbl (fun z => by have z : s.heap.size ≤ b := z; omega) hI.2.2.2 dL_law_36 ?_
    refine lv_iconst (v := nI 5) hx hb dL_law_37 (by decide) ?_
    refine lv_isub hx hb dL_law_38 ?_
    refine lv_icmp_gt hx hb dL_law_39 (tgt := 760) rfl (fun _ => lw_end hx hb hrt hlk hI (by omega) (by omega)) (fun z => ?_)
    have hi : 1 + 5 * k + 5 ≤ L := by
      rcases Nat.lt_or_ge L (1 + 5 * k + 5) with y | y
      · exact absurd (lw_gt hL y) z
      · exact y
    refine lv_aload_n hx hb dL_law_42 rfl (lv_at hl 4 rfl) ?_
    refine lv_iload hx hb dL_law_43 (lv_at hl 0 rfl) ?_
    have hcl : (nI (1 + 5 * k)).toNatClampNeg = 1 + 5 * k := nI_clamp (by omega)
    refine va_sld hx hb hX hbl (fun z => by have z : s.heap.size ≤ b := z; omega) hI.2.2.2 (fun z => by
      rcases z with z | z
      · exact absurd z (nI_pos (by omega))
      · rw [hcl] at z; omega) dL_law_45 ?_
    rw [hcl]
    refine lv_bipush (v := nI 31) hx hb dL_law_46 (by decide) ?_
    refine lv_iand hx hb dL_law_48 ?_
    obtain ⟨j, hj, ej⟩ := pk_andE (xs (1 + 5 * k)) (m := nI 31) 5 (by decide)
    rw [ej]
    have hw : ∀ {pc : Nat} {st : List Value}, lw_V p l e s m below meth c b n D K KL σ ρ w pc (lw_L s n b (1 + 5 * k)) st (70 + k + 1) (4600 + 6 * k + 6) → lw_V p l e s m below meth c b n D K KL σ ρ w pc (lw_L s n b (1 + 5 * k)) st (70 + k) (4600 + 6 * k) := fun h => lw_widen (by omega) (by omega) h
    have key : lw_V p l e s m below meth c b n D K KL σ ρ w 49 (lw_L s n b (1 + 5 * k)) [.int (nI j)] (70 + k) (4600 + 6 * k) := by
      by_cases out : j < 19
      · have hc : j = 0 ∨ j = 1 ∨ j = 2 ∨ j = 3 ∨ j = 4 ∨ j = 5 ∨ j = 6 ∨ j = 7 ∨ j = 8 ∨ j = 9 ∨ j = 10 ∨ j = 11 ∨ j = 12 ∨ j = 13 ∨ j = 14 ∨ j = 15 ∨ j = 16 ∨ j = 17 ∨ j = 18 := by omega
        rcases hc with rfl | rfl | rfl | rfl | rfl | rfl | rfl | rfl | rfl | rfl | rfl | rfl | rfl | rfl | rfl | rfl | rfl | rfl | rfl
        · exact hw (lw_tab C' 0 (by decide) rfl (tgt := 140) rfl (lw_c_members C' hcs hi h next))
        · exact hw (lw_tab C' 1 (by decide) rfl (tgt := 153) rfl (lw_c_place C' hcs hi h next))
        · exact hw (lw_tab C' 2 (by decide) rfl (tgt := 190) rfl (lw_c_write C' hcs hi h next))
        · exact hw (lw_tab C' 3 (by decide) rfl (tgt := 239) rfl (lw_c_look C' hcs hi h next))
        · exact lw_tab C' 4 (by decide) rfl (tgt := 264) rfl (lw_c_word C' hcs hi h next)
        · exact hw (lw_tab C' 5 (by decide) rfl (tgt := 332) rfl (lw_c_drain C' hcs hi h next))
        · exact hw (lw_tab C' 6 (by decide) rfl (tgt := 357) rfl (lw_c_lose C' hcs hi h next))
        · exact hw (lw_tab C' 7 (by decide) rfl (tgt := 382) rfl (lw_c_spare C' hcs hi h next))
        · exact hw (lw_tab C' 8 (by decide) rfl (tgt := 395) rfl (lw_c_build C' hcs hi h next))
        · exact hw (lw_tab C' 9 (by decide) rfl (tgt := 420) rfl (lw_c_scrub C' hcs hi h next))
        · exact hw (lw_tab C' 10 (by decide) rfl (tgt := 445) rfl (lw_c_rot C' hcs hi h next))
        · exact hw (lw_tab C' 11 (by decide) rfl (tgt := 506) rfl (lw_c_cut C' hcs hi h next))
        · exact hw (lw_tab C' 12 (by decide) rfl (tgt := 543) rfl (lw_c_start C' hcs hi h next))
        · exact hw (lw_tab C' 13 (by decide) rfl (tgt := 568) rfl (lw_c_chunk C' hcs hi h next))
        · exact hw (lw_tab C' 14 (by decide) rfl (tgt := 617) rfl (lw_c_member C' hcs hi h next))
        · exact hw (lw_tab C' 15 (by decide) rfl (tgt := 654) rfl (lw_c_journal C' hcs hi h next))
        · exact hw (lw_tab C' 16 (by decide) rfl (tgt := 679) rfl (lw_c_record C' hcs hi h next))
        · exact hw (lw_tab C' 17 (by decide) rfl (tgt := 716) rfl (lw_c_count C' hcs hi h next))
        · exact hw (lw_tab C' 18 (by decide) rfl (tgt := 741) rfl (lw_c_audit C' hcs hi h next))
      · have hv : (nI j).toInt = j := nI_toInt (by omega)
        exact fun H locs ls hI hl => lv_tableOut hx hb dL_law_49 (Or.inr (by rw [hv]; omega)) (tgt := 754) rfl (hw (next σ ρ w h) H locs ls hI hl)
    exact key H locs ls hI hl
end LWW
