/-! THE ROWS OF THE WALK OVER A STORE: an instruction each (by program: wip/tools/mkrows.py) -/
theorem vv_lk {L : List (Nat × Value)} {i : Nat} {v : Value} (h : L.lookup i = some v) : (i, v) ∈ L := by
  induction L with
  | nil => cases h
  | cons q r ih =>
    obtain ⟨j, w⟩ := q
    rw [List.lookup_cons] at h
    by_cases hj : (i == j) = true
    · rw [hj] at h
      have e := eq_of_beq hj
      cases h
      rw [e]
      exact List.mem_cons_self
    · rw [Bool.not_eq_true] at hj
      rw [hj] at h
      exact List.mem_cons_of_mem _ (ih h)
/-- the locals with one set, in their order -/
def vv_ins (i : Nat) (v : Value) : List (Nat × Value) → List (Nat × Value)
  | [] => [(i, v)]
  | (j, w) :: r => if i < j then (i, v) :: (j, w) :: r else if i = j then (i, v) :: r else (j, w) :: vv_ins i v r
theorem vv_ins_mem {i : Nat} {v : Value} {L : List (Nat × Value)} {q : Nat × Value} (hs : (L.map Prod.fst).Pairwise (· < ·)) (h : q ∈ vv_ins i v L) : q = (i, v) ∨ (q ∈ L ∧ q.1 ≠ i) := by
  induction L with
  | nil => exact Or.inl (List.mem_singleton.mp h)
  | cons p r ih =>
    obtain ⟨j, w⟩ := p
    rw [List.map_cons, List.pairwise_cons] at hs
    have hgt : ∀ x ∈ r, j < x.1 := fun x hx => hs.1 x.1 (List.mem_map_of_mem hx)
    unfold vv_ins at h
    by_cases h1 : i < j
    · rw [if_pos h1] at h
      rcases List.mem_cons.mp h with e | h
      · exact Or.inl e
      · refine Or.inr ⟨h, ?_⟩
        rcases List.mem_cons.mp h with e | h
        · rw [e]; exact Nat.ne_of_gt h1
        · have := hgt q h; omega
    · rw [if_neg h1] at h
      by_cases h2 : i = j
      · rw [if_pos h2] at h
        rcases List.mem_cons.mp h with e | h
        · exact Or.inl e
        · refine Or.inr ⟨List.mem_cons_of_mem _ h, ?_⟩
          have := hgt q h; omega
      · rw [if_neg h2] at h
        rcases List.mem_cons.mp h with e | h
        · refine Or.inr ⟨by rw [e]; exact List.mem_cons_self, ?_⟩
          rw [e]; exact fun z => h2 z.symm
        · rcases ih hs.2 h with e | ⟨a, b⟩
          · exact Or.inl e
          · exact Or.inr ⟨List.mem_cons_of_mem _ a, b⟩
/-- the locals are in order, and none is a long -/
def vv_lo : Nat → List (Nat × Value) → Bool
  | _, [] => true
  | k, (j, w) :: r => Nat.ble k j && (w.category == 1) && vv_lo (j + 1) r
theorem vv_lo.ok {k : Nat} {L : List (Nat × Value)} (h : vv_lo k L = true) : (L.map Prod.fst).Pairwise (· < ·) ∧ (∀ q ∈ L, q.2.category = 1) ∧ ∀ q ∈ L, k ≤ q.1 := by
  induction L generalizing k with
  | nil => exact ⟨List.Pairwise.nil, fun _ h => absurd h List.not_mem_nil, fun _ h => absurd h List.not_mem_nil⟩
  | cons p r ih =>
    obtain ⟨j, w⟩ := p
    unfold vv_lo at h
    rw [Bool.and_eq_true, Bool.and_eq_true] at h
    obtain ⟨⟨h1, h2⟩, h3⟩ := h
    obtain ⟨a, b, c⟩ := ih h3
    have h1 : k ≤ j := Nat.le_of_ble_eq_true h1
    refine ⟨?_, ?_, ?_⟩
    · rw [List.map_cons, List.pairwise_cons]
      refine ⟨fun x hx => ?_, a⟩
      obtain ⟨y, hy, rfl⟩ := List.mem_map.mp hx
      exact c y hy
    · intro q hq
      rcases List.mem_cons.mp hq with e | hq
      · rw [e]; exact eq_of_beq h2
      · exact b q hq
    · intro q hq
      rcases List.mem_cons.mp hq with e | hq
      · rw [e]; exact h1
      · have := c q hq; omega
theorem vv_keep {ls : Array Slot} {nL i : Nat} {v : Value} {L L' : List (Nat × Value)} (ho : vv_lo 0 L = true) (hL : vv_ins i v L = L') (h : lv_has ls nL ((i, v) :: L.filter (fun q => !(q.1 == i) && !(q.1 + 1 == i && q.2.category == 2)))) : lv_has ls nL L' := by
  obtain ⟨a, b, -⟩ := vv_lo.ok ho
  refine ⟨h.1, h.2.1, fun q hq => ?_⟩
  rw [← hL] at hq
  rcases vv_ins_mem a hq with e | ⟨h1, h2⟩
  · rw [e]; exact h.2.2 _ List.mem_cons_self
  · refine h.2.2 q (List.mem_cons_of_mem _ (List.mem_filter.mpr ⟨h1, ?_⟩))
    have hb := b q h1
    simp [h2, hb]
section VROWS
variable {Y : vv_Y} {nL : Nat} {Z : vv_Z} {cc : ByteArray} {ret : Option FieldType} {Ts : List Cond} {own : String} {rm : Room} {σ : vv_S} {pc q : Nat} {L L' : List (Nat × Value)} {st : List Value}
/-- a local is forgotten, or the locals are taken in another order -/
theorem vv_sub (hL : ∀ x ∈ L', x ∈ L) (h : vv_V Y nL Z σ pc L' st) : vv_V Y nL Z σ pc L st := by
  obtain ⟨p, l, e, R, s, m, args, below, meth, c, post⟩ := Z
  intro H locs ls hP hS hl
  exact h H locs ls hP hS ⟨hl.1, hl.2.1, fun x hx => hl.2.2 x (hL x hx)⟩
theorem vv_top {x y : Int32} (e : x = y) (h : vv_V Y nL Z σ pc L (.int y :: st)) : vv_V Y nL Z σ pc L (.int x :: st) := by rw [e]; exact h
theorem vv_st {σ' : vv_S} (e : σ = σ') (h : vv_V Y nL Z σ' pc L st) : vv_V Y nL Z σ pc L st := by rw [e]; exact h
theorem vv_stk {st' : List Value} (e : st = st') (h : vv_V Y nL Z σ pc L st') : vv_V Y nL Z σ pc L st := by rw [e]; exact h
theorem vv_loc (e : L = L') (h : vv_V Y nL Z σ pc L' st) : vv_V Y nL Z σ pc L st := by rw [e]; exact h
theorem vv_iconst (hC : vv_C Y nL Z cc ret Ts own rm) {n : Int} (v : Int32) (hd : decode cc pc = .ok (.iconst n, 1)) (hv : Int32.ofInt n = v) (hq : pc + 1 = q) (h : vv_V Y nL Z σ q L (.int v :: st)) : vv_V Y nL Z σ pc L (st) := by
  obtain ⟨p, l, e, R, s, m, args, below, meth, c, post⟩ := Z
  obtain ⟨ok, hx, hb, hml, hr, hown, hlk, hts, hK, hR⟩ := hC
  subst hq
  intro H locs ls hP hS hl
  exact lv_iconst hx hb hd hv (h H locs ls hP hS hl)
theorem vv_bipush (hC : vv_C Y nL Z cc ret Ts own rm) {n : Int} (v : Int32) (hd : decode cc pc = .ok (.bipush n, 2)) (hv : (Int8.ofInt n).toInt32 = v) (hq : pc + 2 = q) (h : vv_V Y nL Z σ q L (.int v :: st)) : vv_V Y nL Z σ pc L (st) := by
  obtain ⟨p, l, e, R, s, m, args, below, meth, c, post⟩ := Z
  obtain ⟨ok, hx, hb, hml, hr, hown, hlk, hts, hK, hR⟩ := hC
  subst hq
  intro H locs ls hP hS hl
  exact lv_bipush hx hb hd hv (h H locs ls hP hS hl)
theorem vv_sipush (hC : vv_C Y nL Z cc ret Ts own rm) {n : Int} (v : Int32) (hd : decode cc pc = .ok (.sipush n, 3)) (hv : (Int16.ofInt n).toInt32 = v) (hq : pc + 3 = q) (h : vv_V Y nL Z σ q L (.int v :: st)) : vv_V Y nL Z σ pc L (st) := by
  obtain ⟨p, l, e, R, s, m, args, below, meth, c, post⟩ := Z
  obtain ⟨ok, hx, hb, hml, hr, hown, hlk, hts, hK, hR⟩ := hC
  subst hq
  intro H locs ls hP hS hl
  exact lv_sipush hx hb hd hv (h H locs ls hP hS hl)
theorem vv_lconst (hC : vv_C Y nL Z cc ret Ts own rm) {n : Fin 2} (v : Int64) (hd : decode cc pc = .ok (.lconst n, 1)) (hv : Int64.ofNat (n : Nat) = v) (hq : pc + 1 = q) (h : vv_V Y nL Z σ q L (.long v :: st)) : vv_V Y nL Z σ pc L (st) := by
  obtain ⟨p, l, e, R, s, m, args, below, meth, c, post⟩ := Z
  obtain ⟨ok, hx, hb, hml, hr, hown, hlk, hts, hK, hR⟩ := hC
  subst hq
  intro H locs ls hP hS hl
  exact lv_lconst hx hb hd hv (h H locs ls hP hS hl)
theorem vv_null (hC : vv_C Y nL Z cc ret Ts own rm)  (hd : decode cc pc = .ok (.aconst_null, 1)) (hq : pc + 1 = q) (h : vv_V Y nL Z σ q L (.null :: st)) : vv_V Y nL Z σ pc L (st) := by
  obtain ⟨p, l, e, R, s, m, args, below, meth, c, post⟩ := Z
  obtain ⟨ok, hx, hb, hml, hr, hown, hlk, hts, hK, hR⟩ := hC
  subst hq
  intro H locs ls hP hS hl
  exact lv_null hx hb hd (h H locs ls hP hS hl)
theorem vv_iload (hC : vv_C Y nL Z cc ret Ts own rm) {i : Nat} {x : Int32} (hd : decode cc pc = .ok (.iload i, 2)) (hk : L.lookup i = some (.int x)) (hq : pc + 2 = q) (h : vv_V Y nL Z σ q L (.int x :: st)) : vv_V Y nL Z σ pc L (st) := by
  obtain ⟨p, l, e, R, s, m, args, below, meth, c, post⟩ := Z
  obtain ⟨ok, hx, hb, hml, hr, hown, hlk, hts, hK, hR⟩ := hC
  subst hq
  intro H locs ls hP hS hl
  exact lv_iload hx hb hd (hl.2.2 _ (vv_lk hk)) (h H locs ls hP hS hl)
theorem vv_iload_n (hC : vv_C Y nL Z cc ret Ts own rm) {k : Fin 4} {x : Int32} (hd : decode cc pc = .ok (.iload_n k, 1)) (hk : L.lookup (k : Nat) = some (.int x)) (hq : pc + 1 = q) (h : vv_V Y nL Z σ q L (.int x :: st)) : vv_V Y nL Z σ pc L (st) := by
  obtain ⟨p, l, e, R, s, m, args, below, meth, c, post⟩ := Z
  obtain ⟨ok, hx, hb, hml, hr, hown, hlk, hts, hK, hR⟩ := hC
  subst hq
  intro H locs ls hP hS hl
  exact lv_iload_n hx hb hd rfl (hl.2.2 _ (vv_lk hk)) (h H locs ls hP hS hl)
theorem vv_lload (hC : vv_C Y nL Z cc ret Ts own rm) {i : Nat} {x : Int64} (hd : decode cc pc = .ok (.lload i, 2)) (hk : L.lookup i = some (.long x)) (hq : pc + 2 = q) (h : vv_V Y nL Z σ q L (.long x :: st)) : vv_V Y nL Z σ pc L (st) := by
  obtain ⟨p, l, e, R, s, m, args, below, meth, c, post⟩ := Z
  obtain ⟨ok, hx, hb, hml, hr, hown, hlk, hts, hK, hR⟩ := hC
  subst hq
  intro H locs ls hP hS hl
  exact lv_lload hx hb hd (hl.2.2 _ (vv_lk hk)) (h H locs ls hP hS hl)
theorem vv_lload_n (hC : vv_C Y nL Z cc ret Ts own rm) {k : Fin 4} {x : Int64} (hd : decode cc pc = .ok (.lload_n k, 1)) (hk : L.lookup (k : Nat) = some (.long x)) (hq : pc + 1 = q) (h : vv_V Y nL Z σ q L (.long x :: st)) : vv_V Y nL Z σ pc L (st) := by
  obtain ⟨p, l, e, R, s, m, args, below, meth, c, post⟩ := Z
  obtain ⟨ok, hx, hb, hml, hr, hown, hlk, hts, hK, hR⟩ := hC
  subst hq
  intro H locs ls hP hS hl
  exact lv_lload_n hx hb hd rfl (hl.2.2 _ (vv_lk hk)) (h H locs ls hP hS hl)
theorem vv_aload (hC : vv_C Y nL Z cc ret Ts own rm) {i : Nat} {x : Nat} (hd : decode cc pc = .ok (.aload i, 2)) (hk : L.lookup i = some (.ref x)) (hq : pc + 2 = q) (h : vv_V Y nL Z σ q L (.ref x :: st)) : vv_V Y nL Z σ pc L (st) := by
  obtain ⟨p, l, e, R, s, m, args, below, meth, c, post⟩ := Z
  obtain ⟨ok, hx, hb, hml, hr, hown, hlk, hts, hK, hR⟩ := hC
  subst hq
  intro H locs ls hP hS hl
  exact lv_aload hx hb hd (hl.2.2 _ (vv_lk hk)) (h H locs ls hP hS hl)
theorem vv_aload_n (hC : vv_C Y nL Z cc ret Ts own rm) {k : Fin 4} {x : Nat} (hd : decode cc pc = .ok (.aload_n k, 1)) (hk : L.lookup (k : Nat) = some (.ref x)) (hq : pc + 1 = q) (h : vv_V Y nL Z σ q L (.ref x :: st)) : vv_V Y nL Z σ pc L (st) := by
  obtain ⟨p, l, e, R, s, m, args, below, meth, c, post⟩ := Z
  obtain ⟨ok, hx, hb, hml, hr, hown, hlk, hts, hK, hR⟩ := hC
  subst hq
  intro H locs ls hP hS hl
  exact lv_aload_n hx hb hd rfl (hl.2.2 _ (vv_lk hk)) (h H locs ls hP hS hl)
theorem vv_aload_nN (hC : vv_C Y nL Z cc ret Ts own rm) {k : Fin 4} (hd : decode cc pc = .ok (.aload_n k, 1)) (hk : L.lookup (k : Nat) = some .null) (hq : pc + 1 = q) (h : vv_V Y nL Z σ q L (.null :: st)) : vv_V Y nL Z σ pc L (st) := by
  obtain ⟨p, l, e, R, s, m, args, below, meth, c, post⟩ := Z
  obtain ⟨ok, hx, hb, hml, hr, hown, hlk, hts, hK, hR⟩ := hC
  subst hq
  intro H locs ls hP hS hl
  exact lv_aload_nN hx hb hd rfl (hl.2.2 _ (vv_lk hk)) (h H locs ls hP hS hl)
theorem vv_aloadN (hC : vv_C Y nL Z cc ret Ts own rm) {i : Nat} (hd : decode cc pc = .ok (.aload i, 2)) (hk : L.lookup i = some .null) (hq : pc + 2 = q) (h : vv_V Y nL Z σ q L (.null :: st)) : vv_V Y nL Z σ pc L (st) := by
  obtain ⟨p, l, e, R, s, m, args, below, meth, c, post⟩ := Z
  obtain ⟨ok, hx, hb, hml, hr, hown, hlk, hts, hK, hR⟩ := hC
  subst hq
  intro H locs ls hP hS hl
  exact lv_aloadN hx hb hd (hl.2.2 _ (vv_lk hk)) (h H locs ls hP hS hl)
theorem vv_istore (hC : vv_C Y nL Z cc ret Ts own rm) {i : Nat} {x : Int32} (hd : decode cc pc = .ok (.istore i, 2)) (hn : i < nL) (ho : vv_lo 0 L = true) (hL : vv_ins i (.int x) L = L') (hq : pc + 2 = q) (h : vv_V Y nL Z σ q L' (st)) : vv_V Y nL Z σ pc L (.int x :: st) := by
  obtain ⟨p, l, e, R, s, m, args, below, meth, c, post⟩ := Z
  obtain ⟨ok, hx, hb, hml, hr, hown, hlk, hts, hK, hR⟩ := hC
  subst hq
  intro H locs ls hP hS hl
  exact lv_istore hx hb hd hl hn rfl (fun ls1 hl1 => h H locs ls1 hP hS (vv_keep ho hL hl1))
theorem vv_istore_n (hC : vv_C Y nL Z cc ret Ts own rm) {k : Fin 4} {x : Int32} (hd : decode cc pc = .ok (.istore_n k, 1)) (hn : (k : Nat) < nL) (ho : vv_lo 0 L = true) (hL : vv_ins (k : Nat) (.int x) L = L') (hq : pc + 1 = q) (h : vv_V Y nL Z σ q L' (st)) : vv_V Y nL Z σ pc L (.int x :: st) := by
  obtain ⟨p, l, e, R, s, m, args, below, meth, c, post⟩ := Z
  obtain ⟨ok, hx, hb, hml, hr, hown, hlk, hts, hK, hR⟩ := hC
  subst hq
  intro H locs ls hP hS hl
  exact lv_istore_n hx hb hd rfl hl hn rfl (fun ls1 hl1 => h H locs ls1 hP hS (vv_keep ho hL hl1))
theorem vv_astore (hC : vv_C Y nL Z cc ret Ts own rm) {i : Nat} {x : Nat} (hd : decode cc pc = .ok (.astore i, 2)) (hn : i < nL) (ho : vv_lo 0 L = true) (hL : vv_ins i (.ref x) L = L') (hq : pc + 2 = q) (h : vv_V Y nL Z σ q L' (st)) : vv_V Y nL Z σ pc L (.ref x :: st) := by
  obtain ⟨p, l, e, R, s, m, args, below, meth, c, post⟩ := Z
  obtain ⟨ok, hx, hb, hml, hr, hown, hlk, hts, hK, hR⟩ := hC
  subst hq
  intro H locs ls hP hS hl
  exact lv_astore hx hb hd hl hn rfl (fun ls1 hl1 => h H locs ls1 hP hS (vv_keep ho hL hl1))
theorem vv_astore_n (hC : vv_C Y nL Z cc ret Ts own rm) {k : Fin 4} {x : Nat} (hd : decode cc pc = .ok (.astore_n k, 1)) (hn : (k : Nat) < nL) (ho : vv_lo 0 L = true) (hL : vv_ins (k : Nat) (.ref x) L = L') (hq : pc + 1 = q) (h : vv_V Y nL Z σ q L' (st)) : vv_V Y nL Z σ pc L (.ref x :: st) := by
  obtain ⟨p, l, e, R, s, m, args, below, meth, c, post⟩ := Z
  obtain ⟨ok, hx, hb, hml, hr, hown, hlk, hts, hK, hR⟩ := hC
  subst hq
  intro H locs ls hP hS hl
  exact lv_astore_n hx hb hd rfl hl hn rfl (fun ls1 hl1 => h H locs ls1 hP hS (vv_keep ho hL hl1))
theorem vv_astoreN (hC : vv_C Y nL Z cc ret Ts own rm) {i : Nat}  (hd : decode cc pc = .ok (.astore i, 2)) (hn : i < nL) (ho : vv_lo 0 L = true) (hL : vv_ins i (.null) L = L') (hq : pc + 2 = q) (h : vv_V Y nL Z σ q L' (st)) : vv_V Y nL Z σ pc L (.null :: st) := by
  obtain ⟨p, l, e, R, s, m, args, below, meth, c, post⟩ := Z
  obtain ⟨ok, hx, hb, hml, hr, hown, hlk, hts, hK, hR⟩ := hC
  subst hq
  intro H locs ls hP hS hl
  exact lv_astoreN hx hb hd hl hn rfl (fun ls1 hl1 => h H locs ls1 hP hS (vv_keep ho hL hl1))
theorem vv_astore_nN (hC : vv_C Y nL Z cc ret Ts own rm) {k : Fin 4}  (hd : decode cc pc = .ok (.astore_n k, 1)) (hn : (k : Nat) < nL) (ho : vv_lo 0 L = true) (hL : vv_ins (k : Nat) (.null) L = L') (hq : pc + 1 = q) (h : vv_V Y nL Z σ q L' (st)) : vv_V Y nL Z σ pc L (.null :: st) := by
  obtain ⟨p, l, e, R, s, m, args, below, meth, c, post⟩ := Z
  obtain ⟨ok, hx, hb, hml, hr, hown, hlk, hts, hK, hR⟩ := hC
  subst hq
  intro H locs ls hP hS hl
  exact lv_astore_nN hx hb hd rfl hl hn rfl (fun ls1 hl1 => h H locs ls1 hP hS (vv_keep ho hL hl1))
theorem vv_iinc (hC : vv_C Y nL Z cc ret Ts own rm) {i : Nat} {n : Int} {x : Int32} (v : Int32) (hd : decode cc pc = .ok (.iinc i n, 3)) (hk : L.lookup i = some (.int x)) (hv : x + Int32.ofInt n = v) (hn : i < nL) (ho : vv_lo 0 L = true) (hL : vv_ins i (.int v) L = L') (hq : pc + 3 = q) (h : vv_V Y nL Z σ q L' (st)) : vv_V Y nL Z σ pc L (st) := by
  obtain ⟨p, l, e, R, s, m, args, below, meth, c, post⟩ := Z
  obtain ⟨ok, hx, hb, hml, hr, hown, hlk, hts, hK, hR⟩ := hC
  subst hq
  intro H locs ls hP hS hl
  obtain ⟨k, hk⟩ := List.getElem?_of_mem (vv_lk hk)
  exact lv_iinc hx hb hd hl hk hv hn rfl (fun ls1 hl1 => h H locs ls1 hP hS (vv_keep ho hL hl1))
/-- a counter grows by one -/
theorem vv_iincN (hC : vv_C Y nL Z cc ret Ts own rm) {i : Nat} {x : Nat} (hd : decode cc pc = .ok (.iinc i 1, 3)) (hk : L.lookup i = some (.int (nI x))) (hn : i < nL) (ho : vv_lo 0 L = true) (hL : vv_ins i (.int (nI (x + 1))) L = L') (hq : pc + 3 = q) (h : vv_V Y nL Z σ q L' (st)) : vv_V Y nL Z σ pc L (st) := vv_iinc hC (nI (x + 1)) hd hk (by rw [nI_succ]; rfl) hn ho hL hq h
theorem vv_iadd (hC : vv_C Y nL Z cc ret Ts own rm) {x y : Int32} (hd : decode cc pc = .ok (.iadd, 1)) (hq : pc + 1 = q) (h : vv_V Y nL Z σ q L (.int (x + y) :: st)) : vv_V Y nL Z σ pc L (.int y :: .int x :: st) := by
  obtain ⟨p, l, e, R, s, m, args, below, meth, c, post⟩ := Z
  obtain ⟨ok, hx, hb, hml, hr, hown, hlk, hts, hK, hR⟩ := hC
  subst hq
  intro H locs ls hP hS hl
  exact lv_iadd hx hb hd (h H locs ls hP hS hl)
theorem vv_isub (hC : vv_C Y nL Z cc ret Ts own rm) {x y : Int32} (hd : decode cc pc = .ok (.isub, 1)) (hq : pc + 1 = q) (h : vv_V Y nL Z σ q L (.int (x - y) :: st)) : vv_V Y nL Z σ pc L (.int y :: .int x :: st) := by
  obtain ⟨p, l, e, R, s, m, args, below, meth, c, post⟩ := Z
  obtain ⟨ok, hx, hb, hml, hr, hown, hlk, hts, hK, hR⟩ := hC
  subst hq
  intro H locs ls hP hS hl
  exact lv_isub hx hb hd (h H locs ls hP hS hl)
theorem vv_imul (hC : vv_C Y nL Z cc ret Ts own rm) {x y : Int32} (hd : decode cc pc = .ok (.imul, 1)) (hq : pc + 1 = q) (h : vv_V Y nL Z σ q L (.int (x * y) :: st)) : vv_V Y nL Z σ pc L (.int y :: .int x :: st) := by
  obtain ⟨p, l, e, R, s, m, args, below, meth, c, post⟩ := Z
  obtain ⟨ok, hx, hb, hml, hr, hown, hlk, hts, hK, hR⟩ := hC
  subst hq
  intro H locs ls hP hS hl
  exact lv_imul hx hb hd (h H locs ls hP hS hl)
theorem vv_iand (hC : vv_C Y nL Z cc ret Ts own rm) {x y : Int32} (hd : decode cc pc = .ok (.iand, 1)) (hq : pc + 1 = q) (h : vv_V Y nL Z σ q L (.int (x &&& y) :: st)) : vv_V Y nL Z σ pc L (.int y :: .int x :: st) := by
  obtain ⟨p, l, e, R, s, m, args, below, meth, c, post⟩ := Z
  obtain ⟨ok, hx, hb, hml, hr, hown, hlk, hts, hK, hR⟩ := hC
  subst hq
  intro H locs ls hP hS hl
  exact lv_iand hx hb hd (h H locs ls hP hS hl)
theorem vv_ior (hC : vv_C Y nL Z cc ret Ts own rm) {x y : Int32} (hd : decode cc pc = .ok (.ior, 1)) (hq : pc + 1 = q) (h : vv_V Y nL Z σ q L (.int (x ||| y) :: st)) : vv_V Y nL Z σ pc L (.int y :: .int x :: st) := by
  obtain ⟨p, l, e, R, s, m, args, below, meth, c, post⟩ := Z
  obtain ⟨ok, hx, hb, hml, hr, hown, hlk, hts, hK, hR⟩ := hC
  subst hq
  intro H locs ls hP hS hl
  exact lv_ior hx hb hd (h H locs ls hP hS hl)
theorem vv_ixor (hC : vv_C Y nL Z cc ret Ts own rm) {x y : Int32} (hd : decode cc pc = .ok (.ixor, 1)) (hq : pc + 1 = q) (h : vv_V Y nL Z σ q L (.int (x ^^^ y) :: st)) : vv_V Y nL Z σ pc L (.int y :: .int x :: st) := by
  obtain ⟨p, l, e, R, s, m, args, below, meth, c, post⟩ := Z
  obtain ⟨ok, hx, hb, hml, hr, hown, hlk, hts, hK, hR⟩ := hC
  subst hq
  intro H locs ls hP hS hl
  exact lv_ixor hx hb hd (h H locs ls hP hS hl)
theorem vv_ishl (hC : vv_C Y nL Z cc ret Ts own rm) {x y : Int32} (hd : decode cc pc = .ok (.ishl, 1)) (hq : pc + 1 = q) (h : vv_V Y nL Z σ q L (.int (x <<< (y &&& 31)) :: st)) : vv_V Y nL Z σ pc L (.int y :: .int x :: st) := by
  obtain ⟨p, l, e, R, s, m, args, below, meth, c, post⟩ := Z
  obtain ⟨ok, hx, hb, hml, hr, hown, hlk, hts, hK, hR⟩ := hC
  subst hq
  intro H locs ls hP hS hl
  exact lv_ishl hx hb hd (h H locs ls hP hS hl)
theorem vv_ishr (hC : vv_C Y nL Z cc ret Ts own rm) {x y : Int32} (hd : decode cc pc = .ok (.ishr, 1)) (hq : pc + 1 = q) (h : vv_V Y nL Z σ q L (.int (x >>> (y &&& 31)) :: st)) : vv_V Y nL Z σ pc L (.int y :: .int x :: st) := by
  obtain ⟨p, l, e, R, s, m, args, below, meth, c, post⟩ := Z
  obtain ⟨ok, hx, hb, hml, hr, hown, hlk, hts, hK, hR⟩ := hC
  subst hq
  intro H locs ls hP hS hl
  exact lv_ishr hx hb hd (h H locs ls hP hS hl)
theorem vv_idiv (hC : vv_C Y nL Z cc ret Ts own rm) {x y : Int32} (hd : decode cc pc = .ok (.idiv, 1)) (hne : ¬ y = 0) (hq : pc + 1 = q) (h : vv_V Y nL Z σ q L (.int (x / y) :: st)) : vv_V Y nL Z σ pc L (.int y :: .int x :: st) := by
  obtain ⟨p, l, e, R, s, m, args, below, meth, c, post⟩ := Z
  obtain ⟨ok, hx, hb, hml, hr, hown, hlk, hts, hK, hR⟩ := hC
  subst hq
  intro H locs ls hP hS hl
  exact lv_idiv hx hb hd hne (h H locs ls hP hS hl)
theorem vv_irem (hC : vv_C Y nL Z cc ret Ts own rm) {x y : Int32} (hd : decode cc pc = .ok (.irem, 1)) (hne : ¬ y = 0) (hq : pc + 1 = q) (h : vv_V Y nL Z σ q L (.int (x - x / y * y) :: st)) : vv_V Y nL Z σ pc L (.int y :: .int x :: st) := by
  obtain ⟨p, l, e, R, s, m, args, below, meth, c, post⟩ := Z
  obtain ⟨ok, hx, hb, hml, hr, hown, hlk, hts, hK, hR⟩ := hC
  subst hq
  intro H locs ls hP hS hl
  exact lv_irem hx hb hd hne (h H locs ls hP hS hl)
theorem vv_ladd (hC : vv_C Y nL Z cc ret Ts own rm) {x y : Int64} (hd : decode cc pc = .ok (.ladd, 1)) (hq : pc + 1 = q) (h : vv_V Y nL Z σ q L (.long (x + y) :: st)) : vv_V Y nL Z σ pc L (.long y :: .long x :: st) := by
  obtain ⟨p, l, e, R, s, m, args, below, meth, c, post⟩ := Z
  obtain ⟨ok, hx, hb, hml, hr, hown, hlk, hts, hK, hR⟩ := hC
  subst hq
  intro H locs ls hP hS hl
  exact lv_ladd hx hb hd (h H locs ls hP hS hl)
theorem vv_lsub (hC : vv_C Y nL Z cc ret Ts own rm) {x y : Int64} (hd : decode cc pc = .ok (.lsub, 1)) (hq : pc + 1 = q) (h : vv_V Y nL Z σ q L (.long (x - y) :: st)) : vv_V Y nL Z σ pc L (.long y :: .long x :: st) := by
  obtain ⟨p, l, e, R, s, m, args, below, meth, c, post⟩ := Z
  obtain ⟨ok, hx, hb, hml, hr, hown, hlk, hts, hK, hR⟩ := hC
  subst hq
  intro H locs ls hP hS hl
  exact lv_lsub hx hb hd (h H locs ls hP hS hl)
theorem vv_lmul (hC : vv_C Y nL Z cc ret Ts own rm) {x y : Int64} (hd : decode cc pc = .ok (.lmul, 1)) (hq : pc + 1 = q) (h : vv_V Y nL Z σ q L (.long (x * y) :: st)) : vv_V Y nL Z σ pc L (.long y :: .long x :: st) := by
  obtain ⟨p, l, e, R, s, m, args, below, meth, c, post⟩ := Z
  obtain ⟨ok, hx, hb, hml, hr, hown, hlk, hts, hK, hR⟩ := hC
  subst hq
  intro H locs ls hP hS hl
  exact lv_lmul hx hb hd (h H locs ls hP hS hl)
theorem vv_i2l (hC : vv_C Y nL Z cc ret Ts own rm) {x : Int32} (v : Int64) (hd : decode cc pc = .ok (.i2l, 1)) (hv : x.toInt64 = v) (hq : pc + 1 = q) (h : vv_V Y nL Z σ q L (.long v :: st)) : vv_V Y nL Z σ pc L (.int x :: st) := by
  obtain ⟨p, l, e, R, s, m, args, below, meth, c, post⟩ := Z
  obtain ⟨ok, hx, hb, hml, hr, hown, hlk, hts, hK, hR⟩ := hC
  subst hq
  intro H locs ls hP hS hl
  exact lv_i2l hx hb hd hv (h H locs ls hP hS hl)
theorem vv_dup (hC : vv_C Y nL Z cc ret Ts own rm) {va : Value} (hd : decode cc pc = .ok (.dup, 1)) (hva : va.category = 1) (hq : pc + 1 = q) (h : vv_V Y nL Z σ q L (va :: va :: st)) : vv_V Y nL Z σ pc L (va :: st) := by
  obtain ⟨p, l, e, R, s, m, args, below, meth, c, post⟩ := Z
  obtain ⟨ok, hx, hb, hml, hr, hown, hlk, hts, hK, hR⟩ := hC
  subst hq
  intro H locs ls hP hS hl
  exact lv_dup hx hb hd hva (h H locs ls hP hS hl)
theorem vv_pop (hC : vv_C Y nL Z cc ret Ts own rm) {va : Value} (hd : decode cc pc = .ok (.pop, 1)) (hva : va.category = 1) (hq : pc + 1 = q) (h : vv_V Y nL Z σ q L (st)) : vv_V Y nL Z σ pc L (va :: st) := by
  obtain ⟨p, l, e, R, s, m, args, below, meth, c, post⟩ := Z
  obtain ⟨ok, hx, hb, hml, hr, hown, hlk, hts, hK, hR⟩ := hC
  subst hq
  intro H locs ls hP hS hl
  exact lv_pop hx hb hd hva (h H locs ls hP hS hl)
theorem vv_dup2 (hC : vv_C Y nL Z cc ret Ts own rm) {va vb : Value} (hd : decode cc pc = .ok (.dup2, 1)) (hva : va.category = 1) (hvb : vb.category = 1) (hq : pc + 1 = q) (h : vv_V Y nL Z σ q L (va :: vb :: va :: vb :: st)) : vv_V Y nL Z σ pc L (va :: vb :: st) := by
  obtain ⟨p, l, e, R, s, m, args, below, meth, c, post⟩ := Z
  obtain ⟨ok, hx, hb, hml, hr, hown, hlk, hts, hK, hR⟩ := hC
  subst hq
  intro H locs ls hP hS hl
  exact lv_dup2_11 hx hb hd hva hvb (h H locs ls hP hS hl)
theorem vv_dup_x1 (hC : vv_C Y nL Z cc ret Ts own rm) {va vb : Value} (hd : decode cc pc = .ok (.dup_x1, 1)) (hva : va.category = 1) (hvb : vb.category = 1) (hq : pc + 1 = q) (h : vv_V Y nL Z σ q L (va :: vb :: va :: st)) : vv_V Y nL Z σ pc L (va :: vb :: st) := by
  obtain ⟨p, l, e, R, s, m, args, below, meth, c, post⟩ := Z
  obtain ⟨ok, hx, hb, hml, hr, hown, hlk, hts, hK, hR⟩ := hC
  subst hq
  intro H locs ls hP hS hl
  exact lv_dup_x1 hx hb hd hva hvb (h H locs ls hP hS hl)
/-! numbers: the same over nI -/
theorem vv_addN (hC : vv_C Y nL Z cc ret Ts own rm) {x y : Nat} (hd : decode cc pc = .ok (.iadd, 1)) (hq : pc + 1 = q) (h : vv_V Y nL Z σ q L (.int (nI (x + y)) :: st)) : vv_V Y nL Z σ pc L (.int (nI y) :: .int (nI x) :: st) := vv_iadd hC hd hq (by rw [nI_add]; exact h)
theorem vv_subN (hC : vv_C Y nL Z cc ret Ts own rm) {x y : Nat} (hd : decode cc pc = .ok (.isub, 1)) (hle : y ≤ x) (hq : pc + 1 = q) (h : vv_V Y nL Z σ q L (.int (nI (x - y)) :: st)) : vv_V Y nL Z σ pc L (.int (nI y) :: .int (nI x) :: st) := vv_isub hC hd hq (by rw [pk_sub hle]; exact h)
theorem vv_mulN (hC : vv_C Y nL Z cc ret Ts own rm) {x y : Nat} (hd : decode cc pc = .ok (.imul, 1)) (hq : pc + 1 = q) (h : vv_V Y nL Z σ q L (.int (nI (x * y)) :: st)) : vv_V Y nL Z σ pc L (.int (nI y) :: .int (nI x) :: st) := vv_imul hC hd hq (by rw [pk_mul]; exact h)
theorem vv_divN (hC : vv_C Y nL Z cc ret Ts own rm) {x y : Nat} (hd : decode cc pc = .ok (.idiv, 1)) (hx : x < 2 ^ 31) (h0 : 0 < y) (hy : y < 2 ^ 31) (hq : pc + 1 = q) (h : vv_V Y nL Z σ q L (.int (nI (x / y)) :: st)) : vv_V Y nL Z σ pc L (.int (nI y) :: .int (nI x) :: st) := vv_idiv hC hd (nI_ne0 h0 hy) hq (by rw [pk_div hx h0 hy]; exact h)
theorem vv_remN (hC : vv_C Y nL Z cc ret Ts own rm) {x y : Nat} (hd : decode cc pc = .ok (.irem, 1)) (hx : x < 2 ^ 31) (h0 : 0 < y) (hy : y < 2 ^ 31) (hq : pc + 1 = q) (h : vv_V Y nL Z σ q L (.int (nI (x % y)) :: st)) : vv_V Y nL Z σ pc L (.int (nI y) :: .int (nI x) :: st) := vv_irem hC hd (nI_ne0 h0 hy) hq (by rw [pk_rem hx h0 hy]; exact h)
theorem vv_icmp_eq (hC : vv_C Y nL Z cc ret Ts own rm) {x y : Int32} {off : Int} {tgt : Nat} (hd : decode cc pc = .ok (.if_icmp .eq off, 3)) (ht : (pc : Int) + off = (tgt : Int)) (hq : pc + 3 = q) (kt : x = y → vv_V Y nL Z σ tgt L (st)) (kf : ¬ (x = y) → vv_V Y nL Z σ q L (st)) : vv_V Y nL Z σ pc L (.int y :: .int x :: st) := by
  obtain ⟨p, l, e, R, s, m, args, below, meth, c, post⟩ := Z
  obtain ⟨ok, hx, hb, hml, hr, hown, hlk, hts, hK, hR⟩ := hC
  subst hq
  intro H locs ls hP hS hl
  exact lv_icmp_eq hx hb hd ht (fun c => kt c H locs ls hP hS hl) (fun c => kf c H locs ls hP hS hl)
theorem vv_if_eq (hC : vv_C Y nL Z cc ret Ts own rm) {x : Int32} {off : Int} {tgt : Nat} (hd : decode cc pc = .ok (.ifCond .eq off, 3)) (ht : (pc : Int) + off = (tgt : Int)) (hq : pc + 3 = q) (kt : x = 0 → vv_V Y nL Z σ tgt L (st)) (kf : ¬ (x = 0) → vv_V Y nL Z σ q L (st)) : vv_V Y nL Z σ pc L (.int x :: st) := by
  obtain ⟨p, l, e, R, s, m, args, below, meth, c, post⟩ := Z
  obtain ⟨ok, hx, hb, hml, hr, hown, hlk, hts, hK, hR⟩ := hC
  subst hq
  intro H locs ls hP hS hl
  exact lv_if_eq hx hb hd ht (fun c => kt c H locs ls hP hS hl) (fun c => kf c H locs ls hP hS hl)
theorem vv_icmp_ne (hC : vv_C Y nL Z cc ret Ts own rm) {x y : Int32} {off : Int} {tgt : Nat} (hd : decode cc pc = .ok (.if_icmp .ne off, 3)) (ht : (pc : Int) + off = (tgt : Int)) (hq : pc + 3 = q) (kt : ¬ x = y → vv_V Y nL Z σ tgt L (st)) (kf : x = y → vv_V Y nL Z σ q L (st)) : vv_V Y nL Z σ pc L (.int y :: .int x :: st) := by
  obtain ⟨p, l, e, R, s, m, args, below, meth, c, post⟩ := Z
  obtain ⟨ok, hx, hb, hml, hr, hown, hlk, hts, hK, hR⟩ := hC
  subst hq
  intro H locs ls hP hS hl
  exact lv_icmp_ne hx hb hd ht (fun c => kt c H locs ls hP hS hl) (fun c => kf c H locs ls hP hS hl)
theorem vv_if_ne (hC : vv_C Y nL Z cc ret Ts own rm) {x : Int32} {off : Int} {tgt : Nat} (hd : decode cc pc = .ok (.ifCond .ne off, 3)) (ht : (pc : Int) + off = (tgt : Int)) (hq : pc + 3 = q) (kt : ¬ x = 0 → vv_V Y nL Z σ tgt L (st)) (kf : x = 0 → vv_V Y nL Z σ q L (st)) : vv_V Y nL Z σ pc L (.int x :: st) := by
  obtain ⟨p, l, e, R, s, m, args, below, meth, c, post⟩ := Z
  obtain ⟨ok, hx, hb, hml, hr, hown, hlk, hts, hK, hR⟩ := hC
  subst hq
  intro H locs ls hP hS hl
  exact lv_if_ne hx hb hd ht (fun c => kt c H locs ls hP hS hl) (fun c => kf c H locs ls hP hS hl)
theorem vv_icmp_lt (hC : vv_C Y nL Z cc ret Ts own rm) {x y : Int32} {off : Int} {tgt : Nat} (hd : decode cc pc = .ok (.if_icmp .lt off, 3)) (ht : (pc : Int) + off = (tgt : Int)) (hq : pc + 3 = q) (kt : x < y → vv_V Y nL Z σ tgt L (st)) (kf : ¬ (x < y) → vv_V Y nL Z σ q L (st)) : vv_V Y nL Z σ pc L (.int y :: .int x :: st) := by
  obtain ⟨p, l, e, R, s, m, args, below, meth, c, post⟩ := Z
  obtain ⟨ok, hx, hb, hml, hr, hown, hlk, hts, hK, hR⟩ := hC
  subst hq
  intro H locs ls hP hS hl
  exact lv_icmp_lt hx hb hd ht (fun c => kt c H locs ls hP hS hl) (fun c => kf c H locs ls hP hS hl)
theorem vv_if_lt (hC : vv_C Y nL Z cc ret Ts own rm) {x : Int32} {off : Int} {tgt : Nat} (hd : decode cc pc = .ok (.ifCond .lt off, 3)) (ht : (pc : Int) + off = (tgt : Int)) (hq : pc + 3 = q) (kt : x < 0 → vv_V Y nL Z σ tgt L (st)) (kf : ¬ (x < 0) → vv_V Y nL Z σ q L (st)) : vv_V Y nL Z σ pc L (.int x :: st) := by
  obtain ⟨p, l, e, R, s, m, args, below, meth, c, post⟩ := Z
  obtain ⟨ok, hx, hb, hml, hr, hown, hlk, hts, hK, hR⟩ := hC
  subst hq
  intro H locs ls hP hS hl
  exact lv_if_lt hx hb hd ht (fun c => kt c H locs ls hP hS hl) (fun c => kf c H locs ls hP hS hl)
theorem vv_icmp_ge (hC : vv_C Y nL Z cc ret Ts own rm) {x y : Int32} {off : Int} {tgt : Nat} (hd : decode cc pc = .ok (.if_icmp .ge off, 3)) (ht : (pc : Int) + off = (tgt : Int)) (hq : pc + 3 = q) (kt : y ≤ x → vv_V Y nL Z σ tgt L (st)) (kf : ¬ (y ≤ x) → vv_V Y nL Z σ q L (st)) : vv_V Y nL Z σ pc L (.int y :: .int x :: st) := by
  obtain ⟨p, l, e, R, s, m, args, below, meth, c, post⟩ := Z
  obtain ⟨ok, hx, hb, hml, hr, hown, hlk, hts, hK, hR⟩ := hC
  subst hq
  intro H locs ls hP hS hl
  exact lv_icmp_ge hx hb hd ht (fun c => kt c H locs ls hP hS hl) (fun c => kf c H locs ls hP hS hl)
theorem vv_if_ge (hC : vv_C Y nL Z cc ret Ts own rm) {x : Int32} {off : Int} {tgt : Nat} (hd : decode cc pc = .ok (.ifCond .ge off, 3)) (ht : (pc : Int) + off = (tgt : Int)) (hq : pc + 3 = q) (kt : 0 ≤ x → vv_V Y nL Z σ tgt L (st)) (kf : ¬ (0 ≤ x) → vv_V Y nL Z σ q L (st)) : vv_V Y nL Z σ pc L (.int x :: st) := by
  obtain ⟨p, l, e, R, s, m, args, below, meth, c, post⟩ := Z
  obtain ⟨ok, hx, hb, hml, hr, hown, hlk, hts, hK, hR⟩ := hC
  subst hq
  intro H locs ls hP hS hl
  exact lv_if_ge hx hb hd ht (fun c => kt c H locs ls hP hS hl) (fun c => kf c H locs ls hP hS hl)
theorem vv_icmp_gt (hC : vv_C Y nL Z cc ret Ts own rm) {x y : Int32} {off : Int} {tgt : Nat} (hd : decode cc pc = .ok (.if_icmp .gt off, 3)) (ht : (pc : Int) + off = (tgt : Int)) (hq : pc + 3 = q) (kt : y < x → vv_V Y nL Z σ tgt L (st)) (kf : ¬ (y < x) → vv_V Y nL Z σ q L (st)) : vv_V Y nL Z σ pc L (.int y :: .int x :: st) := by
  obtain ⟨p, l, e, R, s, m, args, below, meth, c, post⟩ := Z
  obtain ⟨ok, hx, hb, hml, hr, hown, hlk, hts, hK, hR⟩ := hC
  subst hq
  intro H locs ls hP hS hl
  exact lv_icmp_gt hx hb hd ht (fun c => kt c H locs ls hP hS hl) (fun c => kf c H locs ls hP hS hl)
theorem vv_if_gt (hC : vv_C Y nL Z cc ret Ts own rm) {x : Int32} {off : Int} {tgt : Nat} (hd : decode cc pc = .ok (.ifCond .gt off, 3)) (ht : (pc : Int) + off = (tgt : Int)) (hq : pc + 3 = q) (kt : 0 < x → vv_V Y nL Z σ tgt L (st)) (kf : ¬ (0 < x) → vv_V Y nL Z σ q L (st)) : vv_V Y nL Z σ pc L (.int x :: st) := by
  obtain ⟨p, l, e, R, s, m, args, below, meth, c, post⟩ := Z
  obtain ⟨ok, hx, hb, hml, hr, hown, hlk, hts, hK, hR⟩ := hC
  subst hq
  intro H locs ls hP hS hl
  exact lv_if_gt hx hb hd ht (fun c => kt c H locs ls hP hS hl) (fun c => kf c H locs ls hP hS hl)
theorem vv_icmp_le (hC : vv_C Y nL Z cc ret Ts own rm) {x y : Int32} {off : Int} {tgt : Nat} (hd : decode cc pc = .ok (.if_icmp .le off, 3)) (ht : (pc : Int) + off = (tgt : Int)) (hq : pc + 3 = q) (kt : x ≤ y → vv_V Y nL Z σ tgt L (st)) (kf : ¬ (x ≤ y) → vv_V Y nL Z σ q L (st)) : vv_V Y nL Z σ pc L (.int y :: .int x :: st) := by
  obtain ⟨p, l, e, R, s, m, args, below, meth, c, post⟩ := Z
  obtain ⟨ok, hx, hb, hml, hr, hown, hlk, hts, hK, hR⟩ := hC
  subst hq
  intro H locs ls hP hS hl
  exact lv_icmp_le hx hb hd ht (fun c => kt c H locs ls hP hS hl) (fun c => kf c H locs ls hP hS hl)
theorem vv_if_le (hC : vv_C Y nL Z cc ret Ts own rm) {x : Int32} {off : Int} {tgt : Nat} (hd : decode cc pc = .ok (.ifCond .le off, 3)) (ht : (pc : Int) + off = (tgt : Int)) (hq : pc + 3 = q) (kt : x ≤ 0 → vv_V Y nL Z σ tgt L (st)) (kf : ¬ (x ≤ 0) → vv_V Y nL Z σ q L (st)) : vv_V Y nL Z σ pc L (.int x :: st) := by
  obtain ⟨p, l, e, R, s, m, args, below, meth, c, post⟩ := Z
  obtain ⟨ok, hx, hb, hml, hr, hown, hlk, hts, hK, hR⟩ := hC
  subst hq
  intro H locs ls hP hS hl
  exact lv_if_le hx hb hd ht (fun c => kt c H locs ls hP hS hl) (fun c => kf c H locs ls hP hS hl)
theorem vv_icmpN_eq (hC : vv_C Y nL Z cc ret Ts own rm) {x y : Nat} {off : Int} {tgt : Nat} (hd : decode cc pc = .ok (.if_icmp .eq off, 3)) (ht : (pc : Int) + off = (tgt : Int)) (hxb : x < 2 ^ 31) (hyb : y < 2 ^ 31) (hq : pc + 3 = q) (kt : x = y → vv_V Y nL Z σ tgt L (st)) (kf : ¬ (x = y) → vv_V Y nL Z σ q L (st)) : vv_V Y nL Z σ pc L (.int (nI y) :: .int (nI x) :: st) := vv_icmp_eq hC hd ht hq (fun c => kt ((nI_eq hxb hyb).mp c)) (fun c => kf (fun d => c ((nI_eq hxb hyb).mpr d)))
theorem vv_icmpN_ne (hC : vv_C Y nL Z cc ret Ts own rm) {x y : Nat} {off : Int} {tgt : Nat} (hd : decode cc pc = .ok (.if_icmp .ne off, 3)) (ht : (pc : Int) + off = (tgt : Int)) (hxb : x < 2 ^ 31) (hyb : y < 2 ^ 31) (hq : pc + 3 = q) (kt : ¬ x = y → vv_V Y nL Z σ tgt L (st)) (kf : x = y → vv_V Y nL Z σ q L (st)) : vv_V Y nL Z σ pc L (.int (nI y) :: .int (nI x) :: st) := vv_icmp_ne hC hd ht hq (fun c => kt ((not_congr (nI_eq hxb hyb)).mp c)) (fun c => kf ((nI_eq hxb hyb).mp c))
theorem vv_icmpN_lt (hC : vv_C Y nL Z cc ret Ts own rm) {x y : Nat} {off : Int} {tgt : Nat} (hd : decode cc pc = .ok (.if_icmp .lt off, 3)) (ht : (pc : Int) + off = (tgt : Int)) (hxb : x < 2 ^ 31) (hyb : y < 2 ^ 31) (hq : pc + 3 = q) (kt : x < y → vv_V Y nL Z σ tgt L (st)) (kf : ¬ (x < y) → vv_V Y nL Z σ q L (st)) : vv_V Y nL Z σ pc L (.int (nI y) :: .int (nI x) :: st) := vv_icmp_lt hC hd ht hq (fun c => kt ((nI_ltI hxb hyb).mp c)) (fun c => kf (fun d => c ((nI_ltI hxb hyb).mpr d)))
theorem vv_icmpN_ge (hC : vv_C Y nL Z cc ret Ts own rm) {x y : Nat} {off : Int} {tgt : Nat} (hd : decode cc pc = .ok (.if_icmp .ge off, 3)) (ht : (pc : Int) + off = (tgt : Int)) (hxb : x < 2 ^ 31) (hyb : y < 2 ^ 31) (hq : pc + 3 = q) (kt : y ≤ x → vv_V Y nL Z σ tgt L (st)) (kf : ¬ (y ≤ x) → vv_V Y nL Z σ q L (st)) : vv_V Y nL Z σ pc L (.int (nI y) :: .int (nI x) :: st) := vv_icmp_ge hC hd ht hq (fun c => kt ((nI_leI hyb hxb).mp c)) (fun c => kf (fun d => c ((nI_leI hyb hxb).mpr d)))
theorem vv_icmpN_gt (hC : vv_C Y nL Z cc ret Ts own rm) {x y : Nat} {off : Int} {tgt : Nat} (hd : decode cc pc = .ok (.if_icmp .gt off, 3)) (ht : (pc : Int) + off = (tgt : Int)) (hxb : x < 2 ^ 31) (hyb : y < 2 ^ 31) (hq : pc + 3 = q) (kt : y < x → vv_V Y nL Z σ tgt L (st)) (kf : ¬ (y < x) → vv_V Y nL Z σ q L (st)) : vv_V Y nL Z σ pc L (.int (nI y) :: .int (nI x) :: st) := vv_icmp_gt hC hd ht hq (fun c => kt ((nI_ltI hyb hxb).mp c)) (fun c => kf (fun d => c ((nI_ltI hyb hxb).mpr d)))
theorem vv_icmpN_le (hC : vv_C Y nL Z cc ret Ts own rm) {x y : Nat} {off : Int} {tgt : Nat} (hd : decode cc pc = .ok (.if_icmp .le off, 3)) (ht : (pc : Int) + off = (tgt : Int)) (hxb : x < 2 ^ 31) (hyb : y < 2 ^ 31) (hq : pc + 3 = q) (kt : x ≤ y → vv_V Y nL Z σ tgt L (st)) (kf : ¬ (x ≤ y) → vv_V Y nL Z σ q L (st)) : vv_V Y nL Z σ pc L (.int (nI y) :: .int (nI x) :: st) := vv_icmp_le hC hd ht hq (fun c => kt ((nI_leI hxb hyb).mp c)) (fun c => kf (fun d => c ((nI_leI hxb hyb).mpr d)))
theorem vv_goto (hC : vv_C Y nL Z cc ret Ts own rm) {off : Int} {tgt : Nat} (hd : decode cc pc = .ok (.goto off, 3)) (ht : (pc : Int) + off = (tgt : Int)) (h : vv_V Y nL Z σ tgt L (st)) : vv_V Y nL Z σ pc L (st) := by
  obtain ⟨p, l, e, R, s, m, args, below, meth, c, post⟩ := Z
  obtain ⟨ok, hx, hb, hml, hr, hown, hlk, hts, hK, hR⟩ := hC
  intro H locs ls hP hS hl
  exact lv_goto hx hb hd ht (h H locs ls hP hS hl)
/-- what a boolean answer is -/
def vv_B (c : Prop) [Decidable c] : Int32 := if c then 1 else 0
theorem vv_B1 {c : Prop} [Decidable c] (h : c) : vv_B c = 1 := if_pos h
theorem vv_B0 {c : Prop} [Decidable c] (h : ¬ c) : vv_B c = 0 := if_neg h
theorem vv_Be {c : Prop} [Decidable c] : vv_B c = 0 ↔ ¬ c := by
  unfold vv_B
  by_cases h : c
  · rw [if_pos h]; exact ⟨fun e => absurd e (by decide), fun e => absurd h e⟩
  · rw [if_neg h]; exact ⟨fun _ => h, fun _ => rfl⟩
theorem vv_ifB_eq (hC : vv_C Y nL Z cc ret Ts own rm) {b : Prop} [Decidable b] {off : Int} {tgt : Nat} (hd : decode cc pc = .ok (.ifCond .eq off, 3)) (ht : (pc : Int) + off = (tgt : Int)) (hq : pc + 3 = q) (kt : ¬ b → vv_V Y nL Z σ tgt L (st)) (kf : b → vv_V Y nL Z σ q L (st)) : vv_V Y nL Z σ pc L (.int (vv_B b) :: st) := vv_if_eq hC hd ht hq (fun c => kt (vv_Be.mp c)) (fun c => kf (Decidable.of_not_not (fun d => c (vv_Be.mpr d))))
theorem vv_ifB_ne (hC : vv_C Y nL Z cc ret Ts own rm) {b : Prop} [Decidable b] {off : Int} {tgt : Nat} (hd : decode cc pc = .ok (.ifCond .ne off, 3)) (ht : (pc : Int) + off = (tgt : Int)) (hq : pc + 3 = q) (kt : b → vv_V Y nL Z σ tgt L (st)) (kf : ¬ b → vv_V Y nL Z σ q L (st)) : vv_V Y nL Z σ pc L (.int (vv_B b) :: st) := vv_if_ne hC hd ht hq (fun c => kt (Decidable.of_not_not (fun d => c (vv_Be.mpr d)))) (fun c => kf (vv_Be.mp c))
theorem vv_iret (hC : vv_C Y nL Z cc (some .int) Ts own rm) {v : Int32} (hd : decode cc pc = .ok (.ireturn, 1)) (h : vv_post Z (some (.int v)) σ) : vv_V Y nL Z σ pc L [.int v] := by
  obtain ⟨p, l, e, R, s, m, args, below, meth, c, post⟩ := Z
  obtain ⟨ok, hx, hb, hml, hr, hown, hlk, hts, hK, hR⟩ := hC
  intro H locs ls hP hS hl
  exact W.iret hx hb hr (fun t ht hW => ⟨⟨_, σ, rfl, h, by rw [ht]; exact hP⟩, hS.F ht⟩) hS.2.2 hd
theorem vv_zret (hC : vv_C Y nL Z cc (some .boolean) Ts own rm) {v : Int32} (hn : narrow .boolean (.int v) = .int v) (hd : decode cc pc = .ok (.ireturn, 1)) (h : vv_post Z (some (.int v)) σ) : vv_V Y nL Z σ pc L [.int v] := by
  obtain ⟨p, l, e, R, s, m, args, below, meth, c, post⟩ := Z
  obtain ⟨ok, hx, hb, hml, hr, hown, hlk, hts, hK, hR⟩ := hC
  intro H locs ls hP hS hl
  exact W.zret hx hb hr hn (fun t ht hW => ⟨⟨_, σ, rfl, h, by rw [ht]; exact hP⟩, hS.F ht⟩) hS.2.2 hd
theorem vv_vret (hC : vv_C Y nL Z cc none Ts own rm)  (hd : decode cc pc = .ok (.return_, 1)) (h : vv_post Z (none) σ) : vv_V Y nL Z σ pc L [] := by
  obtain ⟨p, l, e, R, s, m, args, below, meth, c, post⟩ := Z
  obtain ⟨ok, hx, hb, hml, hr, hown, hlk, hts, hK, hR⟩ := hC
  intro H locs ls hP hS hl
  exact W.vret hx hb hr (fun t ht hW => ⟨⟨_, σ, rfl, h, by rw [ht]; exact hP⟩, hS.F ht⟩) hS.2.2 hd
theorem vv_aret {C : String} (hC : vv_C Y nL Z cc (some (.object C)) Ts own rm) {v : Value} (hv : v = .null ∨ ∃ a, v = .ref a) (hd : decode cc pc = .ok (.areturn, 1)) (h : vv_post Z (some v) σ) : vv_V Y nL Z σ pc L [v] := by
  obtain ⟨p, l, e, R, s, m, args, below, meth, c, post⟩ := Z
  obtain ⟨ok, hx, hb, hml, hr, hown, hlk, hts, hK, hR⟩ := hC
  intro H locs ls hP hS hl
  exact W.aret hx hb hr (Or.inl ⟨C, rfl⟩) hv (fun t ht hW => ⟨⟨_, σ, rfl, h, by rw [ht]; exact hP⟩, hS.F ht⟩) hS.2.2 hd
theorem vv_narB {c : Prop} [Decidable c] : narrow .boolean (.int (vv_B c)) = .int (vv_B c) := by
  by_cases h : c
  · rw [vv_B1 h]; rfl
  · rw [vv_B0 h]; rfl
theorem vv_get (hC : vv_C Y nL Z cc ret Ts own rm) {k j ci : Nat} {fs : List Value} {v : Value} {ref C : String} {T : u_T} {N index : Nat} (hin : ∀ w ∈ u_ws C T N, w ∈ Ts) (hk : k < Y.1) (he : Y.2.2.1 k (σ k) = .inr (ci, fs)) (hc : Y.2.2.2.2.1[ci]? = some (C, T, N)) (hj : j < N) (hlink : Cond.fieldLink own index ref (T j).2.1 (T j).2.2.1 ∈ Ts) (hsame : (T j).1 = ref) (hv : fs[j]? = some v) (hd : decode cc pc = .ok (.getfield index, 3)) (hq : pc + 3 = q) (h : vv_V Y nL Z σ q L (v :: st)) : vv_V Y nL Z σ pc L (.ref (Y.2.1 k) :: st) := by
  obtain ⟨p, l, e, R, s, m, args, below, meth, c, post⟩ := Z
  obtain ⟨ok, hx, hb, hml, hr, hown, hlk, hts, hK, hR⟩ := hC
  subst hq
  intro H locs ls hP hS hl
  exact va_get hx hb hts hin hown hK.1 hP k (vv_atc hk he) hc j hj (hts _ hlink) (fun _ h9 => by rw [← hsame]; exact h9) hv hd (h H locs ls hP hS hl)
theorem vv_put (hC : vv_C Y nL Z cc ret Ts own rm) {k j ci : Nat} {fs : List Value} {v : Value} {ref C : String} {T : u_T} {N index : Nat} {ty : FieldType} {x : Int32} (ty0 : Nat → FieldType) (hty : ∀ k, k < N → parseFieldDescriptor (T k).2.2.1 = some (ty0 k)) (hnm : ∀ a, a < N → ∀ b, b < N → a ≠ b → (T a).2.1 ≠ (T b).2.1) (hin : ∀ w ∈ u_ws C T N, w ∈ Ts) (hk : k < Y.1) (he : Y.2.2.1 k (σ k) = .inr (ci, fs)) (hc : Y.2.2.2.2.1[ci]? = some (C, T, N)) (hj : j < N) (hlink : Cond.fieldLink own index ref (T j).2.1 (T j).2.2.1 ∈ Ts) (hsame : (T j).1 = ref) (hfin : (T j).2.2.2 = false) (hdd : parseFieldDescriptor (T j).2.2.1 = some ty) (hn : narrow ty v = v) (hfit : fits ty v = true) (hlen : j < fs.length) (hw : Y.2.2.1 k (upd (σ k) j x) = .inr (ci, fs.set j v)) (hd : decode cc pc = .ok (.putfield index, 3)) (hq : pc + 3 = q) (h : vv_V Y nL Z (vv_up σ k j x) q L (st)) : vv_V Y nL Z σ pc L (v :: .ref (Y.2.1 k) :: st) := by
  obtain ⟨p, l, e, R, s, m, args, below, meth, c, post⟩ := Z
  obtain ⟨ok, hx, hb, hml, hr, hown, hlk, hts, hK, hR⟩ := hC
  subst hq
  intro H locs ls hP hS hl
  refine va_put hx hb hts hin ty0 hty hnm hown hK.1 hP (vv_D ok σ s.heap.size) hS k (vv_atc hk he) hc j hj (hts _ hlink) (fun _ h9 => by rw [← hsame]; exact h9) hfin hdd hn hfit hlen hd (fun H1 locs1 hP1 _ hS1 => ?_)
  rw [vv_set hk (by rw [vv_up_s]; exact hw) (fun i hi => vv_up_n hi)] at hP1
  exact h H1 locs1 ls hP1 hS1 hl
theorem vv_getN (hC : vv_C Y nL Z cc ret Ts own rm) {k j ci : Nat} {fs : List Value} {v : Value} {ref C : String} {T : u_T} {N index : Nat} {host : String} (hin : ∀ w ∈ u_ws C T N, w ∈ Ts) (hk : k < Y.1) (he : Y.2.2.1 k (σ k) = .inr (ci, fs)) (hc : Y.2.2.2.2.1[ci]? = some (C, T, N)) (hj : j < N) (hlink : Cond.fieldLinkNest own index ref (T j).2.1 (T j).2.2.1 host ∈ Y.2.2.2.2.2.2) (hsame : (T j).1 = ref) (hv : fs[j]? = some v) (hd : decode cc pc = .ok (.getfield index, 3)) (hq : pc + 3 = q) (h : vv_V Y nL Z σ q L (v :: st)) : vv_V Y nL Z σ pc L (.ref (Y.2.1 k) :: st) := by
  obtain ⟨p, l, e, R, s, m, args, below, meth, c, post⟩ := Z
  obtain ⟨ok, hx, hb, hml, hr, hown, hlk, hts, hK, hR⟩ := hC
  subst hq
  intro H locs ls hP hS hl
  exact va_getN hx hb hts hin hown hK.1 hP k (vv_atc hk he) hc j hj (va_Nw.use rfl (hK.2 _ hlink).2) (fun _ h9 => by rw [← hsame]; exact h9) hv hd (h H locs ls hP hS hl)
theorem vv_putN (hC : vv_C Y nL Z cc ret Ts own rm) {k j ci : Nat} {fs : List Value} {v : Value} {ref C : String} {T : u_T} {N index : Nat} {host : String} {ty : FieldType} {x : Int32} (ty0 : Nat → FieldType) (hty : ∀ k, k < N → parseFieldDescriptor (T k).2.2.1 = some (ty0 k)) (hnm : ∀ a, a < N → ∀ b, b < N → a ≠ b → (T a).2.1 ≠ (T b).2.1) (hin : ∀ w ∈ u_ws C T N, w ∈ Ts) (hk : k < Y.1) (he : Y.2.2.1 k (σ k) = .inr (ci, fs)) (hc : Y.2.2.2.2.1[ci]? = some (C, T, N)) (hj : j < N) (hlink : Cond.fieldLinkNest own index ref (T j).2.1 (T j).2.2.1 host ∈ Y.2.2.2.2.2.2) (hsame : (T j).1 = ref) (hfin : (T j).2.2.2 = false) (hdd : parseFieldDescriptor (T j).2.2.1 = some ty) (hn : narrow ty v = v) (hfit : fits ty v = true) (hlen : j < fs.length) (hw : Y.2.2.1 k (upd (σ k) j x) = .inr (ci, fs.set j v)) (hd : decode cc pc = .ok (.putfield index, 3)) (hq : pc + 3 = q) (h : vv_V Y nL Z (vv_up σ k j x) q L (st)) : vv_V Y nL Z σ pc L (v :: .ref (Y.2.1 k) :: st) := by
  obtain ⟨p, l, e, R, s, m, args, below, meth, c, post⟩ := Z
  obtain ⟨ok, hx, hb, hml, hr, hown, hlk, hts, hK, hR⟩ := hC
  subst hq
  intro H locs ls hP hS hl
  refine va_putN hx hb hts hin ty0 hty hnm hown hK.1 hP (vv_D ok σ s.heap.size) hS k (vv_atc hk he) hc j hj (va_Nw.use rfl (hK.2 _ hlink).2) (fun _ h9 => by rw [← hsame]; exact h9) hfin hdd hn hfit hlen hd (fun H1 locs1 hP1 _ hS1 => ?_)
  rw [vv_set hk (by rw [vv_up_s]; exact hw) (fun i hi => vv_up_n hi)] at hP1
  exact h H1 locs1 ls hP1 hS1 hl
theorem vv_ild (hC : vv_C Y nL Z cc ret Ts own rm) {k t n : Nat} {cA : ClassId} {i : Nat} (hk : k < Y.1) (he : ∀ f : Nat → Int32, Y.2.2.1 k f = .inl (cA, n, .inl f)) (ht : Y.2.2.2.2.2.1[t]? = some (cA, .int)) (hi : i < n) (hn : n < 2 ^ 31) (hd : decode cc pc = .ok (.iaload, 1)) (hq : pc + 1 = q) (h : vv_V Y nL Z σ q L (.int (σ k i) :: st)) : vv_V Y nL Z σ pc L (.int (nI i) :: .ref (Y.2.1 k) :: st) := by
  obtain ⟨p, l, e, R, s, m, args, below, meth, c, post⟩ := Z
  obtain ⟨ok, hx, hb, hml, hr, hown, hlk, hts, hK, hR⟩ := hC
  subst hq
  intro H locs ls hP hS hl
  refine va_iald hx hb hK.1 hP k t (vv_atc hk (he _)) ht (vp_in_nI hi hn) hd ?_
  rw [nI_clamp (Nat.lt_trans hi hn)]
  exact h H locs ls hP hS hl
theorem vv_zld (hC : vv_C Y nL Z cc ret Ts own rm) {k t n : Nat} {cA : ClassId} {i : Nat} (hk : k < Y.1) (he : ∀ f : Nat → Int32, Y.2.2.1 k f = .inl (cA, n, .inl f)) (ht : Y.2.2.2.2.2.1[t]? = some (cA, .boolean)) (hi : i < n) (hn : n < 2 ^ 31) (hd : decode cc pc = .ok (.baload, 1)) (hq : pc + 1 = q) (h : vv_V Y nL Z σ q L (.int (σ k i) :: st)) : vv_V Y nL Z σ pc L (.int (nI i) :: .ref (Y.2.1 k) :: st) := by
  obtain ⟨p, l, e, R, s, m, args, below, meth, c, post⟩ := Z
  obtain ⟨ok, hx, hb, hml, hr, hown, hlk, hts, hK, hR⟩ := hC
  subst hq
  intro H locs ls hP hS hl
  refine va_zald hx hb hK.1 hP k t (vv_atc hk (he _)) ht (vp_in_nI hi hn) hd ?_
  rw [nI_clamp (Nat.lt_trans hi hn)]
  exact h H locs ls hP hS hl
theorem vv_ist (hC : vv_C Y nL Z cc ret Ts own rm) {k t n : Nat} {cA : ClassId} {i : Nat} {x : Int32} (hk : k < Y.1) (he : ∀ f : Nat → Int32, Y.2.2.1 k f = .inl (cA, n, .inl f)) (ht : Y.2.2.2.2.2.1[t]? = some (cA, .int)) (hi : i < n) (hn : n < 2 ^ 31) (hd : decode cc pc = .ok (.iastore, 1)) (hq : pc + 1 = q) (h : vv_V Y nL Z (vv_up σ k i x) q L (st)) : vv_V Y nL Z σ pc L (.int x :: .int (nI i) :: .ref (Y.2.1 k) :: st) := by
  obtain ⟨p, l, e, R, s, m, args, below, meth, c, post⟩ := Z
  obtain ⟨ok, hx, hb, hml, hr, hown, hlk, hts, hK, hR⟩ := hC
  subst hq
  intro H locs ls hP hS hl
  refine va_iast hx hb hK.1 hP (vv_D ok σ s.heap.size) hS k t (vv_atc hk (he _)) ht (vp_in_nI hi hn) hd (fun H1 locs1 hP1 _ hS1 => ?_)
  rw [nI_clamp (Nat.lt_trans hi hn), vv_set hk (by rw [vv_up_s]; exact he _) (fun i hi => vv_up_n hi)] at hP1
  exact h H1 locs1 ls hP1 hS1 hl
theorem vv_zst (hC : vv_C Y nL Z cc ret Ts own rm) {k t n : Nat} {cA : ClassId} {i : Nat} {x : Int32} (hk : k < Y.1) (he : ∀ f : Nat → Int32, Y.2.2.1 k f = .inl (cA, n, .inl f)) (ht : Y.2.2.2.2.2.1[t]? = some (cA, .boolean)) (hi : i < n) (hn : n < 2 ^ 31) (hd : decode cc pc = .ok (.bastore, 1)) (hq : pc + 1 = q) (h : vv_V Y nL Z (vv_up σ k i (vp_nar .boolean x)) q L (st)) : vv_V Y nL Z σ pc L (.int x :: .int (nI i) :: .ref (Y.2.1 k) :: st) := by
  obtain ⟨p, l, e, R, s, m, args, below, meth, c, post⟩ := Z
  obtain ⟨ok, hx, hb, hml, hr, hown, hlk, hts, hK, hR⟩ := hC
  subst hq
  intro H locs ls hP hS hl
  refine va_zast hx hb hK.1 hP (vv_D ok σ s.heap.size) hS k t (vv_atc hk (he _)) ht (vp_in_nI hi hn) hd (fun H1 locs1 hP1 _ hS1 => ?_)
  rw [nI_clamp (Nat.lt_trans hi hn), vv_set hk (by rw [vv_up_s]; exact he _) (fun i hi => vv_up_n hi)] at hP1
  exact h H1 locs1 ls hP1 hS1 hl
theorem vv_ald (hC : vv_C Y nL Z cc ret Ts own rm) {k t n : Nat} {cA : ClassId} {f : Nat → Option Nat} {i a : Nat} {E : String} (hk : k < Y.1) (he : Y.2.2.1 k (σ k) = .inl (cA, n, .inr (.inr (.inr (.inr f))))) (ht : Y.2.2.2.2.2.1[t]? = some (cA, .object E)) (hi : i < n) (hn : n < 2 ^ 31) (ha : f i = some a) (hd : decode cc pc = .ok (.aaload, 1)) (hq : pc + 1 = q) (h : vv_V Y nL Z σ q L (.ref a :: st)) : vv_V Y nL Z σ pc L (.int (nI i) :: .ref (Y.2.1 k) :: st) := by
  obtain ⟨p, l, e, R, s, m, args, below, meth, c, post⟩ := Z
  obtain ⟨ok, hx, hb, hml, hr, hown, hlk, hts, hK, hR⟩ := hC
  subst hq
  intro H locs ls hP hS hl
  refine va_aldq hx hb hK.1 hP k t (vv_atc hk he) ht (vp_in_nI hi hn) hd ?_
  rw [nI_clamp (Nat.lt_trans hi hn), ha]
  exact h H locs ls hP hS hl
theorem vv_ifnull (hC : vv_C Y nL Z cc ret Ts own rm) {x : Nat} {off : Int} (hd : decode cc pc = .ok (.ifnull off, 3)) (hq : pc + 3 = q) (h : vv_V Y nL Z σ q L (st)) : vv_V Y nL Z σ pc L (.ref x :: st) := by
  obtain ⟨p, l, e, R, s, m, args, below, meth, c, post⟩ := Z
  obtain ⟨ok, hx, hb, hml, hr, hown, hlk, hts, hK, hR⟩ := hC
  subst hq
  intro H locs ls hP hS hl
  exact lv_ifnull hx hb hd (h H locs ls hP hS hl)
theorem vv_ifnullN (hC : vv_C Y nL Z cc ret Ts own rm) {off : Int} {tgt : Nat} (hd : decode cc pc = .ok (.ifnull off, 3)) (ht : (pc : Int) + off = (tgt : Int)) (h : vv_V Y nL Z σ tgt L (st)) : vv_V Y nL Z σ pc L (.null :: st) := by
  obtain ⟨p, l, e, R, s, m, args, below, meth, c, post⟩ := Z
  obtain ⟨ok, hx, hb, hml, hr, hown, hlk, hts, hK, hR⟩ := hC
  intro H locs ls hP hS hl
  exact lv_ifnullN hx hb hd ht (h H locs ls hP hS hl)
theorem vv_ifnonnull (hC : vv_C Y nL Z cc ret Ts own rm) {x : Nat} {off : Int} {tgt : Nat} (hd : decode cc pc = .ok (.ifnonnull off, 3)) (ht : (pc : Int) + off = (tgt : Int)) (h : vv_V Y nL Z σ tgt L (st)) : vv_V Y nL Z σ pc L (.ref x :: st) := by
  obtain ⟨p, l, e, R, s, m, args, below, meth, c, post⟩ := Z
  obtain ⟨ok, hx, hb, hml, hr, hown, hlk, hts, hK, hR⟩ := hC
  intro H locs ls hP hS hl
  exact lv_ifnonnull hx hb hd ht (h H locs ls hP hS hl)
theorem vv_ifnonnullN (hC : vv_C Y nL Z cc ret Ts own rm) {off : Int} (hd : decode cc pc = .ok (.ifnonnull off, 3)) (hq : pc + 3 = q) (h : vv_V Y nL Z σ q L (st)) : vv_V Y nL Z σ pc L (.null :: st) := by
  obtain ⟨p, l, e, R, s, m, args, below, meth, c, post⟩ := Z
  obtain ⟨ok, hx, hb, hml, hr, hown, hlk, hts, hK, hR⟩ := hC
  subst hq
  intro H locs ls hP hS hl
  exact lv_ifnonnullN hx hb hd (h H locs ls hP hS hl)
theorem vv_room {rest : List Value} {m : MethodId} {ls : Array Slot} {st0 : List Value} (h : (rest.map fun v => v.category).sum ≤ 8) : 2 * (F0 m pc ls st0).monitorRoom + (rest.map fun v => v.category).sum ≤ 8 := lv_room h
/-- what a run of a callee gives, of whatever answer -/
theorem vv_back {p : Program} {l : Launch} {e : Env} {R : Room} {s : State} {m : MethodId} {args a : Array Value} {below : List Frame} {meth : Method} {c : Code} {H H0 : Heap} {locs : List Loc} {Q : State → Prop} {ls : Array Slot} {st0 rest : List Value} {post : Option Value → vv_S → Prop}
    (hr : va_Run p l e R s m args below meth c H locs 0 0 0 0 (F0 m pc ls st0) rest (vv_Qc Y H.size post a) (vv_A Y H.size)) (hS : va_S (vv_A Y H0.size) H0 H locs)
    (kk : ∀ (v : Option Value) (σ1 : vv_S) (H1 : Heap) (locs1 : List Loc), post v σ1 → vv_P Y σ1 H1 → va_S (vv_A Y H0.size) H0 H1 locs1 → W p l e R s m args below meth c H1 locs1 0 0 Q (F0 m (pc + 3) ls (v.toList ++ rest))) : W p l e R s m args below meth c H locs 0 0 Q (F0 m pc ls st0) := by
  intro T hT X
  obtain ⟨v, st₀, t, T', Lc, h0, X', hL, e1, e2, ⟨⟨v', σ1, hv, hp, hb⟩, hz, hk⟩, st⟩ := hr T hT X
  cases hv
  rw [h0] at hz hk
  have up : ∀ z, vv_A Y H.size z → vv_A Y H0.size z := fun z hz => hz.elim Or.inl (fun w => Or.inr (Nat.le_trans hS.1 w))
  obtain ⟨t2, a1, b1⟩ := kk v σ1 T'.heap (locs ++ Lc) hp (by rw [e1]; exact hb)
    ⟨Nat.le_trans hS.1 (by rw [e1]; exact hz), fun z h1 h2 => by rw [e1, hk z (Nat.lt_of_lt_of_le h1 hS.1) (fun w => h2 (up z w))]; exact hS.2.1 z h1 h2, fun z hz => by
      rcases List.mem_append.mp hz with h | h
      · exact hS.2.2 z h
      · exact up _ (hL z h)⟩ T' rfl X'
  exact ⟨t2, st t2 a1, b1⟩
theorem vv_callV (hC : vv_C Y nL Z cc ret Ts own rm) {y : MethodName} {bytes : ByteArray} {maxL n index : Nat} {rt : Option FieldType} {ws ws' : List Cond} {rm1 : Room} {As : List Value} {post : Option Value → vv_S → Prop} {k ci N : Nat} {C : String} {T : u_T} {fs : List Value} (hk : k < Y.1) (he : Y.2.2.1 k (σ k) = .inr (ci, fs)) (hc : Y.2.2.2.2.1[ci]? = some (C, T, N)) (hM : vv_M (vv_l Z) Y y ws rm1 (.ref (Y.2.1 k) :: As) σ post) (hG : GoodIn Ts (wsV own index C y ws)) (hw : ws = Cond.code y bytes maxL rt :: ws') (hdd : y.cls = C ∧ y.cls ≠ "java/lang/invoke/MethodHandle" ∧ y.cls ≠ "java/lang/invoke/VarHandle" ∧ (parseMethodDescriptor y.desc).map (fun d => d.parameters.length) = some n) (hd : decode cc pc = .ok (.invokevirtual index, 3)) (hRb : (Nat.ble (rm1.frames + 1) rm.frames && Nat.ble (8 + (maxL + 11) + rm1.locals) rm.locals && Nat.beq rm1.cells 0 && Nat.beq rm1.slots 0 && Nat.ble ((st.map fun v => v.category).sum) 8) = true) (hn : As.length = n) (hq : pc + 3 = q) (kk : ∀ (v : Option Value) (σ1 : vv_S), post v σ1 → vv_V Y nL Z σ1 q L (v.toList ++ st)) : vv_V Y nL Z σ pc L (As.reverse ++ .ref (Y.2.1 k) :: st) := by
  obtain ⟨p, l, e, R, s, m, args, below, meth, c, post⟩ := Z
  obtain ⟨ok, hx, hb, hml, hr, hown, hlk, hts, hK, hR⟩ := hC
  subst hq
  subst hR
  simp only [Bool.and_eq_true] at hRb
  obtain ⟨⟨⟨⟨hR1, hR2⟩, hR3⟩, hR4⟩, hR5⟩ := hRb
  have hR1 := Nat.le_of_ble_eq_true hR1
  have hR2 := Nat.le_of_ble_eq_true hR2
  have hR3 := Nat.eq_of_beq_eq_true hR3
  have hR4 := Nat.eq_of_beq_eq_true hR4
  have hR5 := Nat.le_of_ble_eq_true hR5
  intro H locs ls hP hS hl
  have hrecv : ∃ cellB : Cell, H[Y.2.1 k]? = some cellB ∧ cellB.vm.isStatics = false ∧ s.vm.findClass C = some cellB.cls := va_recv hK.1 hP hc (vv_atc hk he)
  refine vv_back (rest := st) (va_runV (As := As) (rest := st) ⟨hx, hb, hml, hown, hts⟩ (hM H.size) (cwV n hts hG hw hR3 hR4 hdd ⟨hR1, hR2⟩) ⟨vv_blind, hrecv, fun U hU hW => ⟨rfl, by rw [hU], by rw [hU]; exact hP, hK.warm hW⟩⟩ rfl hn hl.1 rfl (vv_room hR5) hd ⟨Nat.zero_le _, Nat.zero_le _⟩) hS (fun v σ1 H1 locs1 hp hP1 hS1 => kk v σ1 hp H1 locs1 ls hP1 hS1 hl)
theorem vv_callVN (hC : vv_C Y nL Z cc ret Ts own rm) {y : MethodName} {bytes : ByteArray} {maxL n index : Nat} {rt : Option FieldType} {ws ws' : List Cond} {rm1 : Room} {As : List Value} {post : Option Value → vv_S → Prop} {k ci N : Nat} {C : String} {T : u_T} {fs : List Value} (hk : k < Y.1) (he : Y.2.2.1 k (σ k) = .inr (ci, fs)) (hc : Y.2.2.2.2.1[ci]? = some (C, T, N)) (hM : vv_M (vv_l Z) Y y ws rm1 (.ref (Y.2.1 k) :: As) σ post) {host : String} (hG : GoodIn Ts ws) (hw : ws = Cond.code y bytes maxL rt :: ws') (hlink : Cond.methodLinkNest own index y host ∈ Y.2.2.2.2.2.2) (hini : Cond.initialized y.cls ∈ Ts) (hinst : Cond.instanceMethod y ∈ Ts) (hsel : Cond.selects C y y ∈ Ts) (hdd : y.cls ≠ "java/lang/invoke/MethodHandle" ∧ y.cls ≠ "java/lang/invoke/VarHandle" ∧ (parseMethodDescriptor y.desc).map (fun d => d.parameters.length) = some n) (hd : decode cc pc = .ok (.invokevirtual index, 3)) (hRb : (Nat.ble (rm1.frames + 1) rm.frames && Nat.ble (8 + (maxL + 11) + rm1.locals) rm.locals && Nat.beq rm1.cells 0 && Nat.beq rm1.slots 0 && Nat.ble ((st.map fun v => v.category).sum) 8) = true) (hn : As.length = n) (hq : pc + 3 = q) (kk : ∀ (v : Option Value) (σ1 : vv_S), post v σ1 → vv_V Y nL Z σ1 q L (v.toList ++ st)) : vv_V Y nL Z σ pc L (As.reverse ++ .ref (Y.2.1 k) :: st) := by
  obtain ⟨p, l, e, R, s, m, args, below, meth, c, post⟩ := Z
  obtain ⟨ok, hx, hb, hml, hr, hown, hlk, hts, hK, hR⟩ := hC
  subst hq
  subst hR
  simp only [Bool.and_eq_true] at hRb
  obtain ⟨⟨⟨⟨hR1, hR2⟩, hR3⟩, hR4⟩, hR5⟩ := hRb
  have hR1 := Nat.le_of_ble_eq_true hR1
  have hR2 := Nat.le_of_ble_eq_true hR2
  have hR3 := Nat.eq_of_beq_eq_true hR3
  have hR4 := Nat.eq_of_beq_eq_true hR4
  have hR5 := Nat.le_of_ble_eq_true hR5
  intro H locs ls hP hS hl
  have hrecv : ∃ cellB : Cell, H[Y.2.1 k]? = some cellB ∧ cellB.vm.isStatics = false ∧ s.vm.findClass C = some cellB.cls := va_recv hK.1 hP hc (vv_atc hk he)
  refine vv_back (rest := st) (va_runVN (As := As) (rest := st) ⟨hx, hb, hml, hown, hts⟩ (hM H.size) ⟨va_cnB n hts hG hw hR3 hR4 (hK.2 _ hlink).2 (hts _ hini) hdd ⟨hR1, hR2⟩, hts _ hinst, hts _ hsel⟩ ⟨vv_blind, hrecv, fun U hU hW => ⟨rfl, by rw [hU], by rw [hU]; exact hP, hK.warm hW⟩⟩ rfl hn hl.1 rfl (vv_room hR5) hd ⟨Nat.zero_le _, Nat.zero_le _⟩) hS (fun v σ1 H1 locs1 hp hP1 hS1 => kk v σ1 hp H1 locs1 ls hP1 hS1 hl)
theorem vv_callS (hC : vv_C Y nL Z cc ret Ts own rm) {y : MethodName} {bytes : ByteArray} {maxL n index : Nat} {rt : Option FieldType} {ws ws' : List Cond} {rm1 : Room} {As : List Value} {post : Option Value → vv_S → Prop} (hM : vv_M (vv_l Z) Y y ws rm1 As σ post) (hG : GoodIn Ts (va_wsS own index y ws)) (hw : ws = Cond.code y bytes maxL rt :: ws') (hdd : y.cls ≠ "java/lang/invoke/MethodHandle" ∧ y.cls ≠ "java/lang/invoke/VarHandle" ∧ (parseMethodDescriptor y.desc).map (fun d => d.parameters.length) = some n) (hd : decode cc pc = .ok (.invokestatic index, 3)) (hRb : (Nat.ble (rm1.frames + 1) rm.frames && Nat.ble (8 + (maxL + 11) + rm1.locals) rm.locals && Nat.beq rm1.cells 0 && Nat.beq rm1.slots 0 && Nat.ble ((st.map fun v => v.category).sum) 8) = true) (hn : As.length = n) (hq : pc + 3 = q) (kk : ∀ (v : Option Value) (σ1 : vv_S), post v σ1 → vv_V Y nL Z σ1 q L (v.toList ++ st)) : vv_V Y nL Z σ pc L (As.reverse ++ st) := by
  obtain ⟨p, l, e, R, s, m, args, below, meth, c, post⟩ := Z
  obtain ⟨ok, hx, hb, hml, hr, hown, hlk, hts, hK, hR⟩ := hC
  subst hq
  subst hR
  simp only [Bool.and_eq_true] at hRb
  obtain ⟨⟨⟨⟨hR1, hR2⟩, hR3⟩, hR4⟩, hR5⟩ := hRb
  have hR1 := Nat.le_of_ble_eq_true hR1
  have hR2 := Nat.le_of_ble_eq_true hR2
  have hR3 := Nat.eq_of_beq_eq_true hR3
  have hR4 := Nat.eq_of_beq_eq_true hR4
  have hR5 := Nat.le_of_ble_eq_true hR5
  intro H locs ls hP hS hl
  refine vv_back (rest := st) (va_runS (As := As) (rest := st) ⟨hx, hb, hml, hown, hts⟩ (hM H.size) (va_cwS n hts hG hw hR3 hR4 hdd ⟨hR1, hR2⟩) ⟨vv_blind, fun U hU hW => ⟨rfl, by rw [hU], by rw [hU]; exact hP, hK.warm hW⟩⟩ rfl hn hl.1 rfl (vv_room hR5) hd ⟨Nat.zero_le _, Nat.zero_le _⟩) hS (fun v σ1 H1 locs1 hp hP1 hS1 => kk v σ1 hp H1 locs1 ls hP1 hS1 hl)
end VROWS
