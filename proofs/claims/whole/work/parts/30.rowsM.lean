/-! THE MODEL AS A SYSTEM: cell 0 the object, cells 1 .. 15 its rows (by program: wip/tools/mkrowsM.py) -/
def pm_fM (n : Nat) (ad : Nat → Nat) (f : Nat → Int32) : List Value := [.int (f 0), .int (nI n), .ref (ad 1), .ref (ad 2), .ref (ad 3), .ref (ad 4), .ref (ad 5), .ref (ad 6), .int (f 8), .ref (ad 7), .ref (ad 8), .ref (ad 9), .ref (ad 10), .ref (ad 11), .ref (ad 12), .int (f 15), .int (f 16), .int (f 17), .int (f 18), .int (f 19), .int (f 20), .int (f 21), .ref (ad 13), .ref (ad 14), .ref (ad 15)]
def pm_len (k : Nat) : Nat := if k = 1 then 1152 else if k = 2 then 144 else if k = 3 then 144 else if k = 4 then 6 else if k = 5 then 6 else if k = 6 then 6 else if k = 7 then 16 else if k = 8 then 16 else if k = 9 then 16 else if k = 10 then 16 else if k = 11 then 16 else if k = 12 then 768 else if k = 13 then 13 else if k = 14 then 8 else if k = 15 then 48 else 0
def pm_ct (n : Nat) (ad : Nat → Nat) (K : Nat → ClassId) (k : Nat) (f : Nat → Int32) : va_E := if k = 0 then .inr (4, pm_fM n ad f) else if k = 3 ∨ k = 10 then .inl (K 1, pm_len k, .inl f) else .inl (K 0, pm_len k, .inl f)
def pm_sys (Y : vv_Y) (n : Nat) : Prop := vv_ok Y ∧ (3 ≤ n ∧ n ≤ 6) ∧ Y.1 = 16 ∧ (∃ K : Nat → ClassId, Y.2.2.1 = pm_ct n Y.2.1 K ∧ Y.2.2.2.2.2.1 = [(K 0, .int), (K 1, .boolean), (K 2, .object RX0), (K 3, .object RX1)]) ∧ Y.2.2.2.2.1 = vwCl
section PMSYS
variable {Y : vv_Y} {n : Nat}
theorem pm_sys.ok (h : pm_sys Y n) : vv_ok Y := h.1
theorem pm_sys.lo (h : pm_sys Y n) : 3 ≤ n := h.2.1.1
theorem pm_sys.hi (h : pm_sys Y n) : n ≤ 6 := h.2.1.2
theorem pm_sys.cl (h : pm_sys Y n) : Y.2.2.2.2.1 = vwCl := h.2.2.2.2
theorem pm_sys.k (h : pm_sys Y n) {k : Nat} (hk : k < 16) : k < Y.1 := by rw [h.2.2.1]; exact hk
theorem pm_sys.M (h : pm_sys Y n) (f : Nat → Int32) : Y.2.2.1 0 f = .inr (4, pm_fM n Y.2.1 f) := by obtain ⟨-, -, -, ⟨K, e, -⟩, -⟩ := h; rw [e]; rfl
theorem pm_sys.a1 (h : pm_sys Y n) : ∃ K : ClassId, (∀ f, Y.2.2.1 1 f = .inl (K, 1152, .inl f)) ∧ Y.2.2.2.2.2.1[0]? = some (K, .int) := by
  obtain ⟨-, -, -, ⟨K, e, t⟩, -⟩ := h
  exact ⟨K 0, fun f => by rw [e]; rfl, by rw [t]; rfl⟩
theorem pm_sys.a2 (h : pm_sys Y n) : ∃ K : ClassId, (∀ f, Y.2.2.1 2 f = .inl (K, 144, .inl f)) ∧ Y.2.2.2.2.2.1[0]? = some (K, .int) := by
  obtain ⟨-, -, -, ⟨K, e, t⟩, -⟩ := h
  exact ⟨K 0, fun f => by rw [e]; rfl, by rw [t]; rfl⟩
theorem pm_sys.a3 (h : pm_sys Y n) : ∃ K : ClassId, (∀ f, Y.2.2.1 3 f = .inl (K, 144, .inl f)) ∧ Y.2.2.2.2.2.1[1]? = some (K, .boolean) := by
  obtain ⟨-, -, -, ⟨K, e, t⟩, -⟩ := h
  exact ⟨K 1, fun f => by rw [e]; rfl, by rw [t]; rfl⟩
theorem pm_sys.a4 (h : pm_sys Y n) : ∃ K : ClassId, (∀ f, Y.2.2.1 4 f = .inl (K, 6, .inl f)) ∧ Y.2.2.2.2.2.1[0]? = some (K, .int) := by
  obtain ⟨-, -, -, ⟨K, e, t⟩, -⟩ := h
  exact ⟨K 0, fun f => by rw [e]; rfl, by rw [t]; rfl⟩
theorem pm_sys.a5 (h : pm_sys Y n) : ∃ K : ClassId, (∀ f, Y.2.2.1 5 f = .inl (K, 6, .inl f)) ∧ Y.2.2.2.2.2.1[0]? = some (K, .int) := by
  obtain ⟨-, -, -, ⟨K, e, t⟩, -⟩ := h
  exact ⟨K 0, fun f => by rw [e]; rfl, by rw [t]; rfl⟩
theorem pm_sys.a6 (h : pm_sys Y n) : ∃ K : ClassId, (∀ f, Y.2.2.1 6 f = .inl (K, 6, .inl f)) ∧ Y.2.2.2.2.2.1[0]? = some (K, .int) := by
  obtain ⟨-, -, -, ⟨K, e, t⟩, -⟩ := h
  exact ⟨K 0, fun f => by rw [e]; rfl, by rw [t]; rfl⟩
theorem pm_sys.a7 (h : pm_sys Y n) : ∃ K : ClassId, (∀ f, Y.2.2.1 7 f = .inl (K, 16, .inl f)) ∧ Y.2.2.2.2.2.1[0]? = some (K, .int) := by
  obtain ⟨-, -, -, ⟨K, e, t⟩, -⟩ := h
  exact ⟨K 0, fun f => by rw [e]; rfl, by rw [t]; rfl⟩
theorem pm_sys.a8 (h : pm_sys Y n) : ∃ K : ClassId, (∀ f, Y.2.2.1 8 f = .inl (K, 16, .inl f)) ∧ Y.2.2.2.2.2.1[0]? = some (K, .int) := by
  obtain ⟨-, -, -, ⟨K, e, t⟩, -⟩ := h
  exact ⟨K 0, fun f => by rw [e]; rfl, by rw [t]; rfl⟩
theorem pm_sys.a9 (h : pm_sys Y n) : ∃ K : ClassId, (∀ f, Y.2.2.1 9 f = .inl (K, 16, .inl f)) ∧ Y.2.2.2.2.2.1[0]? = some (K, .int) := by
  obtain ⟨-, -, -, ⟨K, e, t⟩, -⟩ := h
  exact ⟨K 0, fun f => by rw [e]; rfl, by rw [t]; rfl⟩
theorem pm_sys.a10 (h : pm_sys Y n) : ∃ K : ClassId, (∀ f, Y.2.2.1 10 f = .inl (K, 16, .inl f)) ∧ Y.2.2.2.2.2.1[1]? = some (K, .boolean) := by
  obtain ⟨-, -, -, ⟨K, e, t⟩, -⟩ := h
  exact ⟨K 1, fun f => by rw [e]; rfl, by rw [t]; rfl⟩
theorem pm_sys.a11 (h : pm_sys Y n) : ∃ K : ClassId, (∀ f, Y.2.2.1 11 f = .inl (K, 16, .inl f)) ∧ Y.2.2.2.2.2.1[0]? = some (K, .int) := by
  obtain ⟨-, -, -, ⟨K, e, t⟩, -⟩ := h
  exact ⟨K 0, fun f => by rw [e]; rfl, by rw [t]; rfl⟩
theorem pm_sys.a12 (h : pm_sys Y n) : ∃ K : ClassId, (∀ f, Y.2.2.1 12 f = .inl (K, 768, .inl f)) ∧ Y.2.2.2.2.2.1[0]? = some (K, .int) := by
  obtain ⟨-, -, -, ⟨K, e, t⟩, -⟩ := h
  exact ⟨K 0, fun f => by rw [e]; rfl, by rw [t]; rfl⟩
theorem pm_sys.a13 (h : pm_sys Y n) : ∃ K : ClassId, (∀ f, Y.2.2.1 13 f = .inl (K, 13, .inl f)) ∧ Y.2.2.2.2.2.1[0]? = some (K, .int) := by
  obtain ⟨-, -, -, ⟨K, e, t⟩, -⟩ := h
  exact ⟨K 0, fun f => by rw [e]; rfl, by rw [t]; rfl⟩
theorem pm_sys.a14 (h : pm_sys Y n) : ∃ K : ClassId, (∀ f, Y.2.2.1 14 f = .inl (K, 8, .inl f)) ∧ Y.2.2.2.2.2.1[0]? = some (K, .int) := by
  obtain ⟨-, -, -, ⟨K, e, t⟩, -⟩ := h
  exact ⟨K 0, fun f => by rw [e]; rfl, by rw [t]; rfl⟩
theorem pm_sys.a15 (h : pm_sys Y n) : ∃ K : ClassId, (∀ f, Y.2.2.1 15 f = .inl (K, 48, .inl f)) ∧ Y.2.2.2.2.2.1[0]? = some (K, .int) := by
  obtain ⟨-, -, -, ⟨K, e, t⟩, -⟩ := h
  exact ⟨K 0, fun f => by rw [e]; rfl, by rw [t]; rfl⟩
end PMSYS
section PMROWS
variable {Y : vv_Y} {n : Nat} {nL : Nat} {Z : vv_Z} {cc : ByteArray} {ret : Option FieldType} {Ts : List Cond} {own : String} {rm : Room} {σ : vv_S} {pc q : Nat} {L L' : List (Nat × Value)} {st : List Value}
theorem pm_gM (hY : pm_sys Y n) (hC : vv_C Y nL Z cc ret Ts own rm) (j : Nat) (hin : ∀ w ∈ u_ws RX4 TX4 25, w ∈ Ts) {index : Nat} (hlink : Cond.fieldLink own index "ParityRowModel" (TX4 j).2.1 (TX4 j).2.2.1 ∈ Ts) (hj : j < 25) (hsame : (TX4 j).1 = "ParityRowModel") {v : Value} (hv : (pm_fM n Y.2.1 (σ 0))[j]? = some v) (hd : decode cc pc = .ok (.getfield index, 3)) (hq : pc + 3 = q) (h : vv_V Y nL Z σ q L (v :: st)) : vv_V Y nL Z σ pc L (.ref (Y.2.1 0) :: st) :=
  vv_get hC hin (hY.k (by decide)) (hY.M _) (by rw [hY.cl]; rfl) hj hlink hsame hv hd hq h
theorem pm_pM (hY : pm_sys Y n) (hC : vv_C Y nL Z cc ret Ts own rm) (j : Nat) (hin : ∀ w ∈ u_ws RX4 TX4 25, w ∈ Ts) {index : Nat} (hlink : Cond.fieldLink own index "ParityRowModel" (TX4 j).2.1 (TX4 j).2.2.1 ∈ Ts) (hj : j < 25) (hsame : (TX4 j).1 = "ParityRowModel") (hfin : (TX4 j).2.2.2 = false) {x : Int32} {ty : FieldType} (hty : parseFieldDescriptor (TX4 j).2.2.1 = some ty) (hn : narrow ty (.int x) = .int x) (hfit : fits ty (.int x) = true) (hset : ∀ f : Nat → Int32, pm_fM n Y.2.1 (upd f j x) = (pm_fM n Y.2.1 f).set j (.int x)) (hd : decode cc pc = .ok (.putfield index, 3)) (hq : pc + 3 = q) (h : vv_V Y nL Z (vv_up σ 0 j x) q L st) : vv_V Y nL Z σ pc L (.int x :: .ref (Y.2.1 0) :: st) :=
  vv_put hC tyX4 tyX4_ok nmX4 hin (hY.k (by decide)) (hY.M _) (by rw [hY.cl]; rfl) hj hlink hsame hfin hty hn hfit hj (by rw [hY.M, hset]) hd hq h
theorem pm_ld_words (hY : pm_sys Y n) (hC : vv_C Y nL Z cc ret Ts own rm) {i : Nat} (hi : i < 1152) (hd : decode cc pc = .ok (.iaload, 1)) (hq : pc + 1 = q) (h : vv_V Y nL Z σ q L (.int (σ 1 i) :: st)) : vv_V Y nL Z σ pc L (.int (nI i) :: .ref (Y.2.1 1) :: st) := by
  obtain ⟨K, hK, hT⟩ := hY.a1
  exact vv_ild hC (hY.k (by decide)) hK hT hi (by omega) hd hq h
theorem pm_st_words (hY : pm_sys Y n) (hC : vv_C Y nL Z cc ret Ts own rm) {i : Nat} {x : Int32} (hi : i < 1152) (hd : decode cc pc = .ok (.iastore, 1)) (hq : pc + 1 = q) (h : vv_V Y nL Z (vv_up σ 1 i x) q L st) : vv_V Y nL Z σ pc L (.int x :: .int (nI i) :: .ref (Y.2.1 1) :: st) := by
  obtain ⟨K, hK, hT⟩ := hY.a1
  exact vv_ist hC (hY.k (by decide)) hK hT hi (by omega) hd hq h
theorem pm_ld_sums (hY : pm_sys Y n) (hC : vv_C Y nL Z cc ret Ts own rm) {i : Nat} (hi : i < 144) (hd : decode cc pc = .ok (.iaload, 1)) (hq : pc + 1 = q) (h : vv_V Y nL Z σ q L (.int (σ 2 i) :: st)) : vv_V Y nL Z σ pc L (.int (nI i) :: .ref (Y.2.1 2) :: st) := by
  obtain ⟨K, hK, hT⟩ := hY.a2
  exact vv_ild hC (hY.k (by decide)) hK hT hi (by omega) hd hq h
theorem pm_st_sums (hY : pm_sys Y n) (hC : vv_C Y nL Z cc ret Ts own rm) {i : Nat} {x : Int32} (hi : i < 144) (hd : decode cc pc = .ok (.iastore, 1)) (hq : pc + 1 = q) (h : vv_V Y nL Z (vv_up σ 2 i x) q L st) : vv_V Y nL Z σ pc L (.int x :: .int (nI i) :: .ref (Y.2.1 2) :: st) := by
  obtain ⟨K, hK, hT⟩ := hY.a2
  exact vv_ist hC (hY.k (by decide)) hK hT hi (by omega) hd hq h
theorem pm_ld_torn (hY : pm_sys Y n) (hC : vv_C Y nL Z cc ret Ts own rm) {i : Nat} (hi : i < 144) (hd : decode cc pc = .ok (.baload, 1)) (hq : pc + 1 = q) (h : vv_V Y nL Z σ q L (.int (σ 3 i) :: st)) : vv_V Y nL Z σ pc L (.int (nI i) :: .ref (Y.2.1 3) :: st) := by
  obtain ⟨K, hK, hT⟩ := hY.a3
  exact vv_zld hC (hY.k (by decide)) hK hT hi (by omega) hd hq h
theorem pm_st_torn (hY : pm_sys Y n) (hC : vv_C Y nL Z cc ret Ts own rm) {i : Nat} {x : Int32} (hi : i < 144) (hd : decode cc pc = .ok (.bastore, 1)) (hq : pc + 1 = q) (h : vv_V Y nL Z (vv_up σ 3 i (vp_nar .boolean x)) q L st) : vv_V Y nL Z σ pc L (.int x :: .int (nI i) :: .ref (Y.2.1 3) :: st) := by
  obtain ⟨K, hK, hT⟩ := hY.a3
  exact vv_zst hC (hY.k (by decide)) hK hT hi (by omega) hd hq h
theorem pm_ld_state (hY : pm_sys Y n) (hC : vv_C Y nL Z cc ret Ts own rm) {i : Nat} (hi : i < 6) (hd : decode cc pc = .ok (.iaload, 1)) (hq : pc + 1 = q) (h : vv_V Y nL Z σ q L (.int (σ 4 i) :: st)) : vv_V Y nL Z σ pc L (.int (nI i) :: .ref (Y.2.1 4) :: st) := by
  obtain ⟨K, hK, hT⟩ := hY.a4
  exact vv_ild hC (hY.k (by decide)) hK hT hi (by omega) hd hq h
theorem pm_st_state (hY : pm_sys Y n) (hC : vv_C Y nL Z cc ret Ts own rm) {i : Nat} {x : Int32} (hi : i < 6) (hd : decode cc pc = .ok (.iastore, 1)) (hq : pc + 1 = q) (h : vv_V Y nL Z (vv_up σ 4 i x) q L st) : vv_V Y nL Z σ pc L (.int x :: .int (nI i) :: .ref (Y.2.1 4) :: st) := by
  obtain ⟨K, hK, hT⟩ := hY.a4
  exact vv_ist hC (hY.k (by decide)) hK hT hi (by omega) hd hq h
theorem pm_ld_built (hY : pm_sys Y n) (hC : vv_C Y nL Z cc ret Ts own rm) {i : Nat} (hi : i < 6) (hd : decode cc pc = .ok (.iaload, 1)) (hq : pc + 1 = q) (h : vv_V Y nL Z σ q L (.int (σ 5 i) :: st)) : vv_V Y nL Z σ pc L (.int (nI i) :: .ref (Y.2.1 5) :: st) := by
  obtain ⟨K, hK, hT⟩ := hY.a5
  exact vv_ild hC (hY.k (by decide)) hK hT hi (by omega) hd hq h
theorem pm_st_built (hY : pm_sys Y n) (hC : vv_C Y nL Z cc ret Ts own rm) {i : Nat} {x : Int32} (hi : i < 6) (hd : decode cc pc = .ok (.iastore, 1)) (hq : pc + 1 = q) (h : vv_V Y nL Z (vv_up σ 5 i x) q L st) : vv_V Y nL Z σ pc L (.int x :: .int (nI i) :: .ref (Y.2.1 5) :: st) := by
  obtain ⟨K, hK, hT⟩ := hY.a5
  exact vv_ist hC (hY.k (by decide)) hK hT hi (by omega) hd hq h
theorem pm_ld_writes (hY : pm_sys Y n) (hC : vv_C Y nL Z cc ret Ts own rm) {i : Nat} (hi : i < 6) (hd : decode cc pc = .ok (.iaload, 1)) (hq : pc + 1 = q) (h : vv_V Y nL Z σ q L (.int (σ 6 i) :: st)) : vv_V Y nL Z σ pc L (.int (nI i) :: .ref (Y.2.1 6) :: st) := by
  obtain ⟨K, hK, hT⟩ := hY.a6
  exact vv_ild hC (hY.k (by decide)) hK hT hi (by omega) hd hq h
theorem pm_st_writes (hY : pm_sys Y n) (hC : vv_C Y nL Z cc ret Ts own rm) {i : Nat} {x : Int32} (hi : i < 6) (hd : decode cc pc = .ok (.iastore, 1)) (hq : pc + 1 = q) (h : vv_V Y nL Z (vv_up σ 6 i x) q L st) : vv_V Y nL Z σ pc L (.int x :: .int (nI i) :: .ref (Y.2.1 6) :: st) := by
  obtain ⟨K, hK, hT⟩ := hY.a6
  exact vv_ist hC (hY.k (by decide)) hK hT hi (by omega) hd hq h
theorem pm_ld_stripes (hY : pm_sys Y n) (hC : vv_C Y nL Z cc ret Ts own rm) {i : Nat} (hi : i < 16) (hd : decode cc pc = .ok (.iaload, 1)) (hq : pc + 1 = q) (h : vv_V Y nL Z σ q L (.int (σ 7 i) :: st)) : vv_V Y nL Z σ pc L (.int (nI i) :: .ref (Y.2.1 7) :: st) := by
  obtain ⟨K, hK, hT⟩ := hY.a7
  exact vv_ild hC (hY.k (by decide)) hK hT hi (by omega) hd hq h
theorem pm_st_stripes (hY : pm_sys Y n) (hC : vv_C Y nL Z cc ret Ts own rm) {i : Nat} {x : Int32} (hi : i < 16) (hd : decode cc pc = .ok (.iastore, 1)) (hq : pc + 1 = q) (h : vv_V Y nL Z (vv_up σ 7 i x) q L st) : vv_V Y nL Z σ pc L (.int x :: .int (nI i) :: .ref (Y.2.1 7) :: st) := by
  obtain ⟨K, hK, hT⟩ := hY.a7
  exact vv_ist hC (hY.k (by decide)) hK hT hi (by omega) hd hq h
theorem pm_ld_serials (hY : pm_sys Y n) (hC : vv_C Y nL Z cc ret Ts own rm) {i : Nat} (hi : i < 16) (hd : decode cc pc = .ok (.iaload, 1)) (hq : pc + 1 = q) (h : vv_V Y nL Z σ q L (.int (σ 8 i) :: st)) : vv_V Y nL Z σ pc L (.int (nI i) :: .ref (Y.2.1 8) :: st) := by
  obtain ⟨K, hK, hT⟩ := hY.a8
  exact vv_ild hC (hY.k (by decide)) hK hT hi (by omega) hd hq h
theorem pm_st_serials (hY : pm_sys Y n) (hC : vv_C Y nL Z cc ret Ts own rm) {i : Nat} {x : Int32} (hi : i < 16) (hd : decode cc pc = .ok (.iastore, 1)) (hq : pc + 1 = q) (h : vv_V Y nL Z (vv_up σ 8 i x) q L st) : vv_V Y nL Z σ pc L (.int x :: .int (nI i) :: .ref (Y.2.1 8) :: st) := by
  obtain ⟨K, hK, hT⟩ := hY.a8
  exact vv_ist hC (hY.k (by decide)) hK hT hi (by omega) hd hq h
theorem pm_ld_bits (hY : pm_sys Y n) (hC : vv_C Y nL Z cc ret Ts own rm) {i : Nat} (hi : i < 16) (hd : decode cc pc = .ok (.iaload, 1)) (hq : pc + 1 = q) (h : vv_V Y nL Z σ q L (.int (σ 9 i) :: st)) : vv_V Y nL Z σ pc L (.int (nI i) :: .ref (Y.2.1 9) :: st) := by
  obtain ⟨K, hK, hT⟩ := hY.a9
  exact vv_ild hC (hY.k (by decide)) hK hT hi (by omega) hd hq h
theorem pm_st_bits (hY : pm_sys Y n) (hC : vv_C Y nL Z cc ret Ts own rm) {i : Nat} {x : Int32} (hi : i < 16) (hd : decode cc pc = .ok (.iastore, 1)) (hq : pc + 1 = q) (h : vv_V Y nL Z (vv_up σ 9 i x) q L st) : vv_V Y nL Z σ pc L (.int x :: .int (nI i) :: .ref (Y.2.1 9) :: st) := by
  obtain ⟨K, hK, hT⟩ := hY.a9
  exact vv_ist hC (hY.k (by decide)) hK hT hi (by omega) hd hq h
theorem pm_ld_hasParity (hY : pm_sys Y n) (hC : vv_C Y nL Z cc ret Ts own rm) {i : Nat} (hi : i < 16) (hd : decode cc pc = .ok (.baload, 1)) (hq : pc + 1 = q) (h : vv_V Y nL Z σ q L (.int (σ 10 i) :: st)) : vv_V Y nL Z σ pc L (.int (nI i) :: .ref (Y.2.1 10) :: st) := by
  obtain ⟨K, hK, hT⟩ := hY.a10
  exact vv_zld hC (hY.k (by decide)) hK hT hi (by omega) hd hq h
theorem pm_st_hasParity (hY : pm_sys Y n) (hC : vv_C Y nL Z cc ret Ts own rm) {i : Nat} {x : Int32} (hi : i < 16) (hd : decode cc pc = .ok (.bastore, 1)) (hq : pc + 1 = q) (h : vv_V Y nL Z (vv_up σ 10 i (vp_nar .boolean x)) q L st) : vv_V Y nL Z σ pc L (.int x :: .int (nI i) :: .ref (Y.2.1 10) :: st) := by
  obtain ⟨K, hK, hT⟩ := hY.a10
  exact vv_zst hC (hY.k (by decide)) hK hT hi (by omega) hd hq h
theorem pm_ld_ways (hY : pm_sys Y n) (hC : vv_C Y nL Z cc ret Ts own rm) {i : Nat} (hi : i < 16) (hd : decode cc pc = .ok (.iaload, 1)) (hq : pc + 1 = q) (h : vv_V Y nL Z σ q L (.int (σ 11 i) :: st)) : vv_V Y nL Z σ pc L (.int (nI i) :: .ref (Y.2.1 11) :: st) := by
  obtain ⟨K, hK, hT⟩ := hY.a11
  exact vv_ild hC (hY.k (by decide)) hK hT hi (by omega) hd hq h
theorem pm_st_ways (hY : pm_sys Y n) (hC : vv_C Y nL Z cc ret Ts own rm) {i : Nat} {x : Int32} (hi : i < 16) (hd : decode cc pc = .ok (.iastore, 1)) (hq : pc + 1 = q) (h : vv_V Y nL Z (vv_up σ 11 i x) q L st) : vv_V Y nL Z σ pc L (.int x :: .int (nI i) :: .ref (Y.2.1 11) :: st) := by
  obtain ⟨K, hK, hT⟩ := hY.a11
  exact vv_ist hC (hY.k (by decide)) hK hT hi (by omega) hd hq h
theorem pm_ld_kept (hY : pm_sys Y n) (hC : vv_C Y nL Z cc ret Ts own rm) {i : Nat} (hi : i < 768) (hd : decode cc pc = .ok (.iaload, 1)) (hq : pc + 1 = q) (h : vv_V Y nL Z σ q L (.int (σ 12 i) :: st)) : vv_V Y nL Z σ pc L (.int (nI i) :: .ref (Y.2.1 12) :: st) := by
  obtain ⟨K, hK, hT⟩ := hY.a12
  exact vv_ild hC (hY.k (by decide)) hK hT hi (by omega) hd hq h
theorem pm_st_kept (hY : pm_sys Y n) (hC : vv_C Y nL Z cc ret Ts own rm) {i : Nat} {x : Int32} (hi : i < 768) (hd : decode cc pc = .ok (.iastore, 1)) (hq : pc + 1 = q) (h : vv_V Y nL Z (vv_up σ 12 i x) q L st) : vv_V Y nL Z σ pc L (.int x :: .int (nI i) :: .ref (Y.2.1 12) :: st) := by
  obtain ⟨K, hK, hT⟩ := hY.a12
  exact vv_ist hC (hY.k (by decide)) hK hT hi (by omega) hd hq h
theorem pm_ld_counts (hY : pm_sys Y n) (hC : vv_C Y nL Z cc ret Ts own rm) {i : Nat} (hi : i < 13) (hd : decode cc pc = .ok (.iaload, 1)) (hq : pc + 1 = q) (h : vv_V Y nL Z σ q L (.int (σ 13 i) :: st)) : vv_V Y nL Z σ pc L (.int (nI i) :: .ref (Y.2.1 13) :: st) := by
  obtain ⟨K, hK, hT⟩ := hY.a13
  exact vv_ild hC (hY.k (by decide)) hK hT hi (by omega) hd hq h
theorem pm_st_counts (hY : pm_sys Y n) (hC : vv_C Y nL Z cc ret Ts own rm) {i : Nat} {x : Int32} (hi : i < 13) (hd : decode cc pc = .ok (.iastore, 1)) (hq : pc + 1 = q) (h : vv_V Y nL Z (vv_up σ 13 i x) q L st) : vv_V Y nL Z σ pc L (.int x :: .int (nI i) :: .ref (Y.2.1 13) :: st) := by
  obtain ⟨K, hK, hT⟩ := hY.a13
  exact vv_ist hC (hY.k (by decide)) hK hT hi (by omega) hd hq h
theorem pm_ld_fresh (hY : pm_sys Y n) (hC : vv_C Y nL Z cc ret Ts own rm) {i : Nat} (hi : i < 8) (hd : decode cc pc = .ok (.iaload, 1)) (hq : pc + 1 = q) (h : vv_V Y nL Z σ q L (.int (σ 14 i) :: st)) : vv_V Y nL Z σ pc L (.int (nI i) :: .ref (Y.2.1 14) :: st) := by
  obtain ⟨K, hK, hT⟩ := hY.a14
  exact vv_ild hC (hY.k (by decide)) hK hT hi (by omega) hd hq h
theorem pm_st_fresh (hY : pm_sys Y n) (hC : vv_C Y nL Z cc ret Ts own rm) {i : Nat} {x : Int32} (hi : i < 8) (hd : decode cc pc = .ok (.iastore, 1)) (hq : pc + 1 = q) (h : vv_V Y nL Z (vv_up σ 14 i x) q L st) : vv_V Y nL Z σ pc L (.int x :: .int (nI i) :: .ref (Y.2.1 14) :: st) := by
  obtain ⟨K, hK, hT⟩ := hY.a14
  exact vv_ist hC (hY.k (by decide)) hK hT hi (by omega) hd hq h
theorem pm_ld_given (hY : pm_sys Y n) (hC : vv_C Y nL Z cc ret Ts own rm) {i : Nat} (hi : i < 48) (hd : decode cc pc = .ok (.iaload, 1)) (hq : pc + 1 = q) (h : vv_V Y nL Z σ q L (.int (σ 15 i) :: st)) : vv_V Y nL Z σ pc L (.int (nI i) :: .ref (Y.2.1 15) :: st) := by
  obtain ⟨K, hK, hT⟩ := hY.a15
  exact vv_ild hC (hY.k (by decide)) hK hT hi (by omega) hd hq h
theorem pm_st_given (hY : pm_sys Y n) (hC : vv_C Y nL Z cc ret Ts own rm) {i : Nat} {x : Int32} (hi : i < 48) (hd : decode cc pc = .ok (.iastore, 1)) (hq : pc + 1 = q) (h : vv_V Y nL Z (vv_up σ 15 i x) q L st) : vv_V Y nL Z σ pc L (.int x :: .int (nI i) :: .ref (Y.2.1 15) :: st) := by
  obtain ⟨K, hK, hT⟩ := hY.a15
  exact vv_ist hC (hY.k (by decide)) hK hT hi (by omega) hd hq h
theorem vv_topl {x y : Int64} (e : x = y) (h : vv_V Y nL Z σ pc L (.long y :: st)) : vv_V Y nL Z σ pc L (.long x :: st) := by rw [e]; exact h
theorem vv_lcmp (hC : vv_C Y nL Z cc ret Ts own rm) {x y : Int64} (hd : decode cc pc = .ok (.lcmp, 1)) (hq : pc + 1 = q) (h : vv_V Y nL Z σ q L (.int (lg_cmp x y) :: st)) : vv_V Y nL Z σ pc L (.long y :: .long x :: st) := by
  obtain ⟨p, l, e, R, s, m, args, below, meth, c, post⟩ := Z
  obtain ⟨ok, hx, hb, hml, hr, hown, hlk, hts, hK, hR⟩ := hC
  subst hq
  intro H locs ls hP hS hl
  exact W.lcmp hx hb hd (h H locs ls hP hS hl)
theorem vv_lcmp_gt (hC : vv_C Y nL Z cc ret Ts own rm) {x y : Int64} {off : Int} {tgt : Nat} (hd : decode cc pc = .ok (.ifCond .gt off, 3)) (ht : (pc : Int) + off = (tgt : Int)) (hq : pc + 3 = q) (kt : y < x → vv_V Y nL Z σ tgt L st) (kf : ¬ y < x → vv_V Y nL Z σ q L st) : vv_V Y nL Z σ pc L (.int (lg_cmp x y) :: st) :=
  vv_if_gt hC hd ht hq (fun c => kt ((lg_cmp_gt x y).mp c)) (fun c => kf (fun d => c ((lg_cmp_gt x y).mpr d)))
end PMROWS
theorem vv_B_congr {c d : Prop} [Decidable c] [Decidable d] (h : c ↔ d) : vv_B c = vv_B d := by
  by_cases hc : c
  · rw [vv_B1 hc, vv_B1 (h.mp hc)]
  · rw [vv_B0 hc, vv_B0 (fun z => hc (h.mpr z))]
theorem pm_i64 (x : Int32) : x.toInt64.toInt = x.toInt := Int32.toInt_toInt64 x
theorem pm_in0 {x : Int32} {k : Nat} (hk : k + 1 < 2 ^ 31) : (lN 0 ≤ x.toInt64 ∧ x.toInt64 ≤ lN k) ↔ (¬ x < 0 ∧ x < nI (k + 1)) := by
  rw [Int64.le_iff_toInt_le, Int64.le_iff_toInt_le, Int32.lt_iff_toInt_lt, Int32.lt_iff_toInt_lt, pm_i64, lN_toInt (by omega), lN_toInt (by omega), nI_toInt (by omega)]
  show ((0 : Nat) : Int) ≤ x.toInt ∧ x.toInt ≤ (k : Int) ↔ ¬ x.toInt < 0 ∧ x.toInt < ((k + 1 : Nat) : Int)
  omega
theorem pm_in1 {x : Int32} {k : Nat} (hk : k < 2 ^ 31) : (lN 1 ≤ x.toInt64 ∧ x.toInt64 ≤ lN k) ↔ (¬ x < nI 1 ∧ x ≤ nI k) := by
  rw [Int64.le_iff_toInt_le, Int64.le_iff_toInt_le, Int32.lt_iff_toInt_lt, Int32.le_iff_toInt_le, pm_i64, lN_toInt (by omega), lN_toInt (by omega), nI_toInt (by omega), nI_toInt (by omega)]
  omega
theorem pm_inc {x : Int32} : ((-1 : Int64) ≤ x.toInt64 ∧ x.toInt64 ≤ 1000) ↔ pc_isc x := by
  unfold pc_isc
  rw [Int64.le_iff_toInt_le, Int64.le_iff_toInt_le, Int32.lt_iff_toInt_lt, Int32.lt_iff_toInt_lt, pm_i64, nI_toInt (by omega)]
  show (-1 : Int) ≤ x.toInt ∧ x.toInt ≤ 1000 ↔ ¬ x.toInt < -1 ∧ ¬ ((1000 : Nat) : Int) < x.toInt
  omega
theorem pm_l {k : Nat} (h : k < 2 ^ 31) : (nI k).toInt64 = lN k := nI_l h
theorem pm_blkN {n : Nat} (h : 3 ≤ n) (h6 : n ≤ 6) : 24 * ((nI n).toInt64 - lN 1) - lN 1 = lN (24 * (n - 1) - 1) := by
  rw [pm_l (by omega), lN_sub (by omega), show (24 : Int64) = lN 24 from rfl, lN_mul, lN_sub (by omega)]
theorem pm_blk {n : Nat} {x : Int32} (h : 3 ≤ n) (h6 : n ≤ 6) : (lN 0 ≤ x.toInt64 ∧ x.toInt64 ≤ lN (24 * (n - 1) - 1)) ↔ pc_isb n x := by
  rw [pm_in0 (by omega), show 24 * (n - 1) - 1 + 1 = 24 * (n - 1) by omega]
theorem pm_bit01 (x : Int32) (d : Nat) : (x >>> (nI d &&& 31)) &&& nI 1 = nI (if pc_bit x d then 1 else 0) := by
  obtain ⟨j, h1, h2⟩ := pk_andE (x >>> (nI d &&& 31)) (m := nI 1) 1 (by decide)
  by_cases h : pc_bit x d
  · rw [if_pos h]; exact h
  · rw [if_neg h, h2]
    have : j = 0 := by
      rcases (show j = 0 ∨ j = 1 by omega) with z | z
      · exact z
      · exact absurd (show pc_bit x d by unfold pc_bit; rw [h2, z]) h
    rw [this]
