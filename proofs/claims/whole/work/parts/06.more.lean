/-! MORE ROWS: answers as equations, switches, loops, whole rows of the store -/
def vv_R (r : Value) (S : vv_S) : Option Value → vv_S → Prop := fun v σ1 => v = some r ∧ σ1 = S
def vv_Rv (S : vv_S) : Option Value → vv_S → Prop := fun v σ1 => v = none ∧ σ1 = S
/-- the store with one row changed -/
def vv_row (σ : vv_S) (k : Nat) (f : Nat → Int32) : vv_S := fun i => if i = k then f else σ i
theorem vv_row_s {σ : vv_S} {k : Nat} {f : Nat → Int32} : vv_row σ k f k = f := if_pos rfl
theorem vv_row_n {σ : vv_S} {k i : Nat} {f : Nat → Int32} (h : i ≠ k) : vv_row σ k f i = σ i := if_neg h
theorem vv_row_self {σ : vv_S} {k : Nat} : vv_row σ k (σ k) = σ := by
  funext i
  by_cases h : i = k
  · rw [h, vv_row_s]
  · rw [vv_row_n h]
theorem vv_row_of {σ : vv_S} {k : Nat} {f : Nat → Int32} (h : f = σ k) : vv_row σ k f = σ := by rw [h, vv_row_self]
theorem vv_row_row {σ : vv_S} {k : Nat} {f g : Nat → Int32} : vv_row (vv_row σ k f) k g = vv_row σ k g := by
  funext i
  by_cases h : i = k
  · rw [h, vv_row_s, vv_row_s]
  · rw [vv_row_n h, vv_row_n h, vv_row_n h]
theorem vv_up_row {σ : vv_S} {k j : Nat} {f : Nat → Int32} {v : Int32} : vv_up (vv_row σ k f) k j v = vv_row σ k (upd f j v) := by
  funext i
  by_cases h : i = k
  · rw [h, vv_up_s, vv_row_s, vv_row_s]
  · rw [vv_up_n h, vv_row_n h, vv_row_n h]
theorem vv_up_is {σ : vv_S} {k j : Nat} {v : Int32} : vv_up σ k j v = vv_row σ k (upd (σ k) j v) := rfl
theorem vv_upd_s {f : Nat → Int32} {j : Nat} {v : Int32} : upd f j v j = v := pk_us
theorem vv_upd_n {f : Nat → Int32} {j i : Nat} {v : Int32} (h : i ≠ j) : upd f j v i = f i := pk_un h
/-- a loop: by what falls -/
theorem vv_ind {α : Type} (μ : α → Nat) {P : α → Prop} (h : ∀ a, (∀ b, μ b < μ a → P b) → P a) (a : α) : P a := by
  have : ∀ n a, μ a < n → P a := by
    intro n
    induction n with
    | zero => intro a ha; exact absurd ha (Nat.not_lt_zero _)
    | succ n ih => intro a ha; exact h a (fun b hb => ih b (by omega))
  exact this (μ a + 1) a (Nat.lt_succ_self _)
section VMORE
variable {Y : vv_Y} {nL : Nat} {Z : vv_Z} {cc : ByteArray} {ret : Option FieldType} {Ts : List Cond} {own : String} {rm : Room} {σ : vv_S} {pc q : Nat} {L L' : List (Nat × Value)} {st : List Value}
theorem vv_kR {r : Value} {S : vv_S} (h : vv_V Y nL Z S q L (r :: st)) : ∀ (v : Option Value) (σ1 : vv_S), vv_R r S v σ1 → vv_V Y nL Z σ1 q L (v.toList ++ st) := by
  rintro v σ1 ⟨rfl, rfl⟩
  exact h
theorem vv_kRv {S : vv_S} (h : vv_V Y nL Z S q L st) : ∀ (v : Option Value) (σ1 : vv_S), vv_Rv S v σ1 → vv_V Y nL Z σ1 q L (v.toList ++ st) := by
  rintro v σ1 ⟨rfl, rfl⟩
  exact h
theorem vv_M.eq {l : Launch} {y : MethodName} {ws : List Cond} {av : List Value} {r r' : Value} {S S' : vv_S} (h : vv_M l Y y ws rm av σ (vv_R r S)) (hr : r = r') (hS : S = S') : vv_M l Y y ws rm av σ (vv_R r' S') := by rw [← hr, ← hS]; exact h
theorem vv_M.imp {l : Launch} {y : MethodName} {ws : List Cond} {av : List Value} {po po' : Option Value → vv_S → Prop} (h : vv_M l Y y ws rm av σ po) (hp : ∀ v σ1, po v σ1 → po' v σ1) : vv_M l Y y ws rm av σ po' := by
  intro sz p e ha hc hk s m args below hf happ hpre htr
  obtain ⟨k, o, h1, h2, h3, h4, h5⟩ := h sz p e ha hc hk s m args below hf happ hpre htr
  obtain ⟨⟨v, σ1, g1, g2, g3⟩, g4⟩ := h4
  exact ⟨k, o, h1, h2, h3, ⟨⟨v, σ1, g1, hp v σ1 g2, g3⟩, g4⟩, h5⟩
theorem vv_tabIn (hC : vv_C Y nL Z cc ret Ts own rm) {dflt lo hi : Int} {offs : Array Int} {len : Nat} {x : Int32} {off : Int} {tgt : Nat} (hd : decode cc pc = .ok (.tableswitch dflt lo hi offs, len)) (h1 : ¬ x.toInt < lo) (h2 : ¬ hi < x.toInt) (ho : offs[(x.toInt - lo).toNat]? = some off) (ht : (pc : Int) + off = (tgt : Int)) (h : vv_V Y nL Z σ tgt L st) : vv_V Y nL Z σ pc L (.int x :: st) := by
  obtain ⟨p, l, e, R, s, m, args, below, meth, c, post⟩ := Z
  obtain ⟨ok, hx, hb, hml, hr, hown, hlk, hts, hK, hR⟩ := hC
  intro H locs ls hP hS hl
  exact lv_tableIn hx hb hd h1 h2 ho ht (h H locs ls hP hS hl)
theorem vv_tabOut (hC : vv_C Y nL Z cc ret Ts own rm) {dflt lo hi : Int} {offs : Array Int} {len : Nat} {x : Int32} {tgt : Nat} (hd : decode cc pc = .ok (.tableswitch dflt lo hi offs, len)) (ho : x.toInt < lo ∨ hi < x.toInt) (ht : (pc : Int) + dflt = (tgt : Int)) (h : vv_V Y nL Z σ tgt L st) : vv_V Y nL Z σ pc L (.int x :: st) := by
  obtain ⟨p, l, e, R, s, m, args, below, meth, c, post⟩ := Z
  obtain ⟨ok, hx, hb, hml, hr, hown, hlk, hts, hK, hR⟩ := hC
  intro H locs ls hP hS hl
  exact lv_tableOut hx hb hd ho ht (h H locs ls hP hS hl)
theorem vv_ldc (hC : vv_C Y nL Z cc ret Ts own rm) {index : Nat} {v : Int32} (hc : Jvm.Cond.constant own index v ∈ Ts) (hd : decode cc pc = .ok (.ldc_w index, 3)) (hq : pc + 3 = q) (h : vv_V Y nL Z σ q L (.int v :: st)) : vv_V Y nL Z σ pc L st := by
  obtain ⟨p, l, e, R, s, m, args, below, meth, c, post⟩ := Z
  obtain ⟨ok, hx, hb, hml, hr, hown, hlk, hts, hK, hR⟩ := hC
  subst hq
  intro H locs ls hP hS hl
  exact lv_ldcw hx hb hown (hts _ hc) hd (h H locs ls hP hS hl)
theorem vv_ldc2 (hC : vv_C Y nL Z cc ret Ts own rm) {index : Nat} {v : Int64} (hc : Jvm.Cond.constantLong own index v ∈ Ts) (hd : decode cc pc = .ok (.ldc2_w index, 3)) (hq : pc + 3 = q) (h : vv_V Y nL Z σ q L (.long v :: st)) : vv_V Y nL Z σ pc L st := by
  obtain ⟨p, l, e, R, s, m, args, below, meth, c, post⟩ := Z
  obtain ⟨ok, hx, hb, hml, hr, hown, hlk, hts, hK, hR⟩ := hC
  subst hq
  intro H locs ls hP hS hl
  exact lv_ldc2 hx hb hown (hts _ hc) hd (h H locs ls hP hS hl)
theorem vv_max (hC : vv_C Y nL Z cc ret Ts own rm) {index : Nat} {x y : Int32} (h1 : Cond.methodLink own index Lib.Math.max.name ∈ Ts) (h2 : Cond.static Lib.Math.max.name ∈ Ts) (h3 : Cond.initialized "java/lang/Math" ∈ Ts) (h4 : Cond.code Lib.Math.max.name Lib.Math.max.code 2 (some .int) ∈ Ts) (hf : Nat.ble 1 rm.frames = true) (hlo : Nat.ble ((st.map fun v => v.category).sum + 13) rm.locals = true) (hd : decode cc pc = .ok (.invokestatic index, 3)) (hq : pc + 3 = q) (h : vv_V Y nL Z σ q L (.int (if x < y then y else x) :: st)) : vv_V Y nL Z σ pc L (.int y :: .int x :: st) := by
  obtain ⟨p, l, e, R, s, m, args, below, meth, c, post⟩ := Z
  obtain ⟨ok, hx, hb, hml, hr, hown, hlk, hts, hK, hR⟩ := hC
  subst hq
  subst hR
  intro H locs ls hP hS hl
  exact va_mmax hx hb (hml.trans hl.1.symm) hown (hts _ h1) (hts _ h2) (hts _ h3) (hts _ h4) (Nat.le_of_ble_eq_true hf) (Nat.le_of_ble_eq_true hlo) (Nat.zero_le _) (Nat.zero_le _) hd (h H locs ls hP hS hl)
theorem vv_min (hC : vv_C Y nL Z cc ret Ts own rm) {index : Nat} {x y : Int32} (h1 : Cond.methodLink own index Lib.Math.min.name ∈ Ts) (h2 : Cond.static Lib.Math.min.name ∈ Ts) (h3 : Cond.initialized "java/lang/Math" ∈ Ts) (h4 : Cond.code Lib.Math.min.name Lib.Math.min.code 2 (some .int) ∈ Ts) (hf : Nat.ble 1 rm.frames = true) (hlo : Nat.ble ((st.map fun v => v.category).sum + 13) rm.locals = true) (hd : decode cc pc = .ok (.invokestatic index, 3)) (hq : pc + 3 = q) (h : vv_V Y nL Z σ q L (.int (if y < x then y else x) :: st)) : vv_V Y nL Z σ pc L (.int y :: .int x :: st) := by
  obtain ⟨p, l, e, R, s, m, args, below, meth, c, post⟩ := Z
  obtain ⟨ok, hx, hb, hml, hr, hown, hlk, hts, hK, hR⟩ := hC
  subst hq
  subst hR
  intro H locs ls hP hS hl
  exact va_mmin hx hb (hml.trans hl.1.symm) hown (hts _ h1) (hts _ h2) (hts _ h3) (hts _ h4) (Nat.le_of_ble_eq_true hf) (Nat.le_of_ble_eq_true hlo) (Nat.zero_le _) (Nat.zero_le _) hd (h H locs ls hP hS hl)
end VMORE
/-! THE CLASS AS A SYSTEM: cells 0 the object, 1 its row of disks, 2 the journal, 3 its row of entries, 4 tally, 5 mixed, 6 + 2 e an entry and behind it its words, 28 + 4 m a disk and behind it words, sums, torn -/
def pc_e (e : Nat) : Nat := 6 + 2 * e
def pc_d (m : Nat) : Nat := 28 + 4 * m
def pc_fD (ad : Nat → Nat) (k : Nat) (f : Nat → Int32) : List Value := [.ref (ad (k + 1)), .ref (ad (k + 2)), .ref (ad (k + 3)), .int (f 3), .int (f 4), .int (f 5)]
def pc_fE (ad : Nat → Nat) (k : Nat) (f : Nat → Int32) : List Value := [.ref (ad (k + 1)), .int (f 1), .int (f 2), .int (f 3)]
def pc_fJ (ad : Nat → Nat) (f : Nat → Int32) : List Value := [.ref (ad 3), .int (f 1), .int (f 2), .int (f 3), .int (f 4), .int (f 5)]
def pc_fP (n : Nat) (ad : Nat → Nat) (f : Nat → Int32) : List Value := [.int (nI n), .int (nI (n - 1)), .ref (ad 1), .ref (ad 2), .ref (ad 4), .ref (ad 5), .int (f 6), .int (f 7), .int (f 8), .int (f 9)]
def pc_ct (n : Nat) (ad : Nat → Nat) (K : Nat → ClassId) (k : Nat) (f : Nat → Int32) : va_E :=
  if k = 0 then .inr (3, pc_fP n ad f) else if k = 1 then .inl (K 2, n, .inr (.inr (.inr (.inr (fun m => some (ad (pc_d m))))))) else
  if k = 2 then .inr (2, pc_fJ ad f) else if k = 3 then .inl (K 3, 11, .inr (.inr (.inr (.inr (fun e => some (ad (pc_e e))))))) else
  if k = 4 then .inl (K 0, 13, .inl f) else if k = 5 then .inl (K 0, 8, .inl f) else
  if k < 28 then (if k % 2 = 0 then .inr (1, pc_fE ad k f) else .inl (K 0, 8 * n, .inl f)) else
  if k % 4 = 0 then .inr (0, pc_fD ad k f) else if k % 4 = 1 then .inl (K 0, 192, .inl f) else if k % 4 = 2 then .inl (K 0, 24, .inl f) else .inl (K 1, 24, .inl f)
def pc_sys (Y : vv_Y) (n : Nat) : Prop := vv_ok Y ∧ (3 ≤ n ∧ n ≤ 6) ∧ Y.1 = 28 + 4 * n ∧ (∃ K : Nat → ClassId, Y.2.2.1 = pc_ct n Y.2.1 K ∧ Y.2.2.2.2.2.1 = [(K 0, .int), (K 1, .boolean), (K 2, .object RX0), (K 3, .object RX1)]) ∧ Y.2.2.2.2.1 = vwCl ∧ Y.2.2.2.2.2.2 = pc_nw
section PCSYS
variable {Y : vv_Y} {n : Nat}
theorem pc_sys.ok (h : pc_sys Y n) : vv_ok Y := h.1
theorem pc_sys.lo (h : pc_sys Y n) : 3 ≤ n := h.2.1.1
theorem pc_sys.hi (h : pc_sys Y n) : n ≤ 6 := h.2.1.2
theorem pc_sys.cl (h : pc_sys Y n) : Y.2.2.2.2.1 = vwCl := h.2.2.2.2.1
theorem pc_sys.nw (h : pc_sys Y n) {w : Cond} (hw : w ∈ pc_nw) : w ∈ Y.2.2.2.2.2.2 := by rw [h.2.2.2.2.2]; exact hw
theorem pc_sys.k (h : pc_sys Y n) {k : Nat} (hk : k < 28) : k < Y.1 := by rw [h.2.2.1]; omega
theorem pc_sys.kd (h : pc_sys Y n) {m j : Nat} (hm : m < n) (hj : j < 4) : pc_d m + j < Y.1 := by rw [h.2.2.1]; unfold pc_d; omega
theorem pc_sys.ke (h : pc_sys Y n) {e j : Nat} (he : e < 11) (hj : j < 2) : pc_e e + j < Y.1 := by rw [h.2.2.1]; unfold pc_e; omega
theorem pc_sys.P (h : pc_sys Y n) (f : Nat → Int32) : Y.2.2.1 0 f = .inr (3, pc_fP n Y.2.1 f) := by obtain ⟨-, -, -, ⟨K, e, -⟩, -⟩ := h; rw [e]; rfl
theorem pc_sys.J (h : pc_sys Y n) (f : Nat → Int32) : Y.2.2.1 2 f = .inr (2, pc_fJ Y.2.1 f) := by obtain ⟨-, -, -, ⟨K, e, -⟩, -⟩ := h; rw [e]; rfl
theorem pc_sys.E (h : pc_sys Y n) {e : Nat} (he : e < 11) (f : Nat → Int32) : Y.2.2.1 (pc_e e) f = .inr (1, pc_fE Y.2.1 (pc_e e) f) := by
  obtain ⟨-, -, -, ⟨K, q, -⟩, -⟩ := h
  rw [q]
  have : pc_e e = 6 + 2 * e := rfl
  unfold pc_ct
  rw [if_neg (by omega), if_neg (by omega), if_neg (by omega), if_neg (by omega), if_neg (by omega), if_neg (by omega), if_pos (by omega), if_pos (by omega)]
theorem pc_sys.D (h : pc_sys Y n) {m : Nat} (f : Nat → Int32) : Y.2.2.1 (pc_d m) f = .inr (0, pc_fD Y.2.1 (pc_d m) f) := by
  obtain ⟨-, -, -, ⟨K, q, -⟩, -⟩ := h
  rw [q]
  have : pc_d m = 28 + 4 * m := rfl
  unfold pc_ct
  rw [if_neg (by omega), if_neg (by omega), if_neg (by omega), if_neg (by omega), if_neg (by omega), if_neg (by omega), if_neg (by omega), if_pos (by omega)]
theorem pc_sys.disks (h : pc_sys Y n) : ∃ K : ClassId, (∀ f, Y.2.2.1 1 f = .inl (K, n, .inr (.inr (.inr (.inr (fun m => some (Y.2.1 (pc_d m)))))))) ∧ Y.2.2.2.2.2.1[2]? = some (K, .object RX0) := by
  obtain ⟨-, -, -, ⟨K, e, t⟩, -⟩ := h
  exact ⟨K 2, fun f => by rw [e]; rfl, by rw [t]; rfl⟩
theorem pc_sys.slots (h : pc_sys Y n) : ∃ K : ClassId, (∀ f, Y.2.2.1 3 f = .inl (K, 11, .inr (.inr (.inr (.inr (fun m => some (Y.2.1 (pc_e m)))))))) ∧ Y.2.2.2.2.2.1[3]? = some (K, .object RX1) := by
  obtain ⟨-, -, -, ⟨K, e, t⟩, -⟩ := h
  exact ⟨K 3, fun f => by rw [e]; rfl, by rw [t]; rfl⟩
/-- which cells are rows of ints, and how long -/
def pc_len (n k : Nat) : Nat := if k = 4 then 13 else if k = 5 then 8 else if k < 28 then 8 * n else if k % 4 = 1 then 192 else 24
theorem pc_sys.row (h : pc_sys Y n) {k : Nat} (hk : k = 4 ∨ k = 5 ∨ (6 ≤ k ∧ k < 28 ∧ k % 2 = 1) ∨ (28 ≤ k ∧ (k % 4 = 1 ∨ k % 4 = 2))) : ∃ K : ClassId, (∀ f, Y.2.2.1 k f = .inl (K, pc_len n k, .inl f)) ∧ Y.2.2.2.2.2.1[0]? = some (K, .int) := by
  obtain ⟨-, -, -, ⟨K, e, t⟩, -⟩ := h
  refine ⟨K 0, fun f => ?_, by rw [t]; rfl⟩
  rw [e]
  rcases hk with rfl | rfl | ⟨h1, h2, h3⟩ | ⟨h1, h2⟩
  · rfl
  · rfl
  · unfold pc_ct pc_len
    rw [if_neg (by omega), if_neg (by omega), if_neg (by omega), if_neg (by omega), if_neg (by omega), if_neg (by omega), if_pos h2, if_neg (by omega), if_neg (by omega), if_neg (by omega), if_pos h2]
  · rcases h2 with h2 | h2
    · have a : pc_ct n Y.2.1 K k f = .inl (K 0, 192, .inl f) := by unfold pc_ct; rw [if_neg (by omega), if_neg (by omega), if_neg (by omega), if_neg (by omega), if_neg (by omega), if_neg (by omega), if_neg (by omega), if_neg (by omega), if_pos h2]
      have b : pc_len n k = 192 := by unfold pc_len; rw [if_neg (by omega), if_neg (by omega), if_neg (by omega), if_pos h2]
      rw [a, b]
    · have a : pc_ct n Y.2.1 K k f = .inl (K 0, 24, .inl f) := by unfold pc_ct; rw [if_neg (by omega), if_neg (by omega), if_neg (by omega), if_neg (by omega), if_neg (by omega), if_neg (by omega), if_neg (by omega), if_neg (by omega), if_neg (by omega), if_pos h2]
      have b : pc_len n k = 24 := by unfold pc_len; rw [if_neg (by omega), if_neg (by omega), if_neg (by omega), if_neg (by omega)]
      rw [a, b]
theorem pc_sys.zrow (h : pc_sys Y n) {m : Nat} : ∃ K : ClassId, (∀ f, Y.2.2.1 (pc_d m + 3) f = .inl (K, 24, .inl f)) ∧ Y.2.2.2.2.2.1[1]? = some (K, .boolean) := by
  obtain ⟨-, -, -, ⟨K, e, t⟩, -⟩ := h
  refine ⟨K 1, fun f => ?_, by rw [t]; rfl⟩
  rw [e]
  have : pc_d m = 28 + 4 * m := rfl
  unfold pc_ct
  rw [if_neg (by omega), if_neg (by omega), if_neg (by omega), if_neg (by omega), if_neg (by omega), if_neg (by omega), if_neg (by omega), if_neg (by omega), if_neg (by omega), if_neg (by omega)]
end PCSYS
