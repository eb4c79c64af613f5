/-! ROWS OVER THE CLASS'S CELLS (by program: wip/tools/mkrowsC.py) -/
section PCROWS
variable {Y : vv_Y} {n : Nat} {nL : Nat} {Z : vv_Z} {cc : ByteArray} {ret : Option FieldType} {Ts : List Cond} {own : String} {rm : Room} {σ : vv_S} {pc q : Nat} {L L' : List (Nat × Value)} {st : List Value}
theorem pc_gP (hY : pc_sys Y n) (hC : vv_C Y nL Z cc ret Ts own rm) (j : Nat) (hin : ∀ w ∈ u_ws RX3 TX3 10, w ∈ Ts) {index : Nat} (hlink : Cond.fieldLink own index "ParityRow" (TX3 j).2.1 (TX3 j).2.2.1 ∈ Ts) (hj : j < 10) (hsame : (TX3 j).1 = "ParityRow") {v : Value} (hv : (pc_fP n Y.2.1 (σ 0))[j]? = some v) (hd : decode cc pc = .ok (.getfield index, 3)) (hq : pc + 3 = q) (h : vv_V Y nL Z σ q L (v :: st)) : vv_V Y nL Z σ pc L (.ref (Y.2.1 0) :: st) :=
  vv_get hC hin (hY.k (by decide)) (hY.P _) (by rw [hY.cl]; rfl) hj hlink hsame hv hd hq h
theorem pc_pP (hY : pc_sys Y n) (hC : vv_C Y nL Z cc ret Ts own rm) (j : Nat) (hin : ∀ w ∈ u_ws RX3 TX3 10, w ∈ Ts) {index : Nat} (hlink : Cond.fieldLink own index "ParityRow" (TX3 j).2.1 (TX3 j).2.2.1 ∈ Ts) (hj : j < 10) (hsame : (TX3 j).1 = "ParityRow") (hfin : (TX3 j).2.2.2 = false) {x : Int32} {ty : FieldType} (hty : parseFieldDescriptor (TX3 j).2.2.1 = some ty) (hn : narrow ty (.int x) = .int x) (hfit : fits ty (.int x) = true) (hset : ∀ f : Nat → Int32, pc_fP n Y.2.1 (upd f j x) = (pc_fP n Y.2.1 f).set j (.int x)) (hd : decode cc pc = .ok (.putfield index, 3)) (hq : pc + 3 = q) (h : vv_V Y nL Z (vv_up σ 0 j x) q L st) : vv_V Y nL Z σ pc L (.int x :: .ref (Y.2.1 0) :: st) :=
  vv_put hC tyX3 tyX3_ok nmX3 hin (hY.k (by decide)) (hY.P _) (by rw [hY.cl]; rfl) hj hlink hsame hfin hty hn hfit hj (by rw [hY.P, hset]) hd hq h
theorem pc_gJ (hY : pc_sys Y n) (hC : vv_C Y nL Z cc ret Ts own rm) (j : Nat) (hin : ∀ w ∈ u_ws RX2 TX2 6, w ∈ Ts) {index : Nat} (hlink : Cond.fieldLink own index "ParityRow$Journal" (TX2 j).2.1 (TX2 j).2.2.1 ∈ Ts) (hj : j < 6) (hsame : (TX2 j).1 = "ParityRow$Journal") {v : Value} (hv : (pc_fJ Y.2.1 (σ 2))[j]? = some v) (hd : decode cc pc = .ok (.getfield index, 3)) (hq : pc + 3 = q) (h : vv_V Y nL Z σ q L (v :: st)) : vv_V Y nL Z σ pc L (.ref (Y.2.1 2) :: st) :=
  vv_get hC hin (hY.k (by decide)) (hY.J _) (by rw [hY.cl]; rfl) hj hlink hsame hv hd hq h
theorem pc_pJ (hY : pc_sys Y n) (hC : vv_C Y nL Z cc ret Ts own rm) (j : Nat) (hin : ∀ w ∈ u_ws RX2 TX2 6, w ∈ Ts) {index : Nat} (hlink : Cond.fieldLink own index "ParityRow$Journal" (TX2 j).2.1 (TX2 j).2.2.1 ∈ Ts) (hj : j < 6) (hsame : (TX2 j).1 = "ParityRow$Journal") (hfin : (TX2 j).2.2.2 = false) {x : Int32} {ty : FieldType} (hty : parseFieldDescriptor (TX2 j).2.2.1 = some ty) (hn : narrow ty (.int x) = .int x) (hfit : fits ty (.int x) = true) (hset : ∀ f : Nat → Int32, pc_fJ Y.2.1 (upd f j x) = (pc_fJ Y.2.1 f).set j (.int x)) (hd : decode cc pc = .ok (.putfield index, 3)) (hq : pc + 3 = q) (h : vv_V Y nL Z (vv_up σ 2 j x) q L st) : vv_V Y nL Z σ pc L (.int x :: .ref (Y.2.1 2) :: st) :=
  vv_put hC tyX2 tyX2_ok nmX2 hin (hY.k (by decide)) (hY.J _) (by rw [hY.cl]; rfl) hj hlink hsame hfin hty hn hfit hj (by rw [hY.J, hset]) hd hq h
theorem pc_gJN (hY : pc_sys Y n) (hC : vv_C Y nL Z cc ret Ts own rm) (j : Nat) (hin : ∀ w ∈ u_ws RX2 TX2 6, w ∈ Ts) {index : Nat} (hlink : Cond.fieldLinkNest own index "ParityRow$Journal" (TX2 j).2.1 (TX2 j).2.2.1 "ParityRow" ∈ pc_nw) (hj : j < 6) (hsame : (TX2 j).1 = "ParityRow$Journal") {v : Value} (hv : (pc_fJ Y.2.1 (σ 2))[j]? = some v) (hd : decode cc pc = .ok (.getfield index, 3)) (hq : pc + 3 = q) (h : vv_V Y nL Z σ q L (v :: st)) : vv_V Y nL Z σ pc L (.ref (Y.2.1 2) :: st) :=
  vv_getN hC hin (hY.k (by decide)) (hY.J _) (by rw [hY.cl]; rfl) hj (hY.nw hlink) hsame hv hd hq h
theorem pc_pJN (hY : pc_sys Y n) (hC : vv_C Y nL Z cc ret Ts own rm) (j : Nat) (hin : ∀ w ∈ u_ws RX2 TX2 6, w ∈ Ts) {index : Nat} (hlink : Cond.fieldLinkNest own index "ParityRow$Journal" (TX2 j).2.1 (TX2 j).2.2.1 "ParityRow" ∈ pc_nw) (hj : j < 6) (hsame : (TX2 j).1 = "ParityRow$Journal") (hfin : (TX2 j).2.2.2 = false) {x : Int32} {ty : FieldType} (hty : parseFieldDescriptor (TX2 j).2.2.1 = some ty) (hn : narrow ty (.int x) = .int x) (hfit : fits ty (.int x) = true) (hset : ∀ f : Nat → Int32, pc_fJ Y.2.1 (upd f j x) = (pc_fJ Y.2.1 f).set j (.int x)) (hd : decode cc pc = .ok (.putfield index, 3)) (hq : pc + 3 = q) (h : vv_V Y nL Z (vv_up σ 2 j x) q L st) : vv_V Y nL Z σ pc L (.int x :: .ref (Y.2.1 2) :: st) :=
  vv_putN hC tyX2 tyX2_ok nmX2 hin (hY.k (by decide)) (hY.J _) (by rw [hY.cl]; rfl) hj (hY.nw hlink) hsame hfin hty hn hfit hj (by rw [hY.J, hset]) hd hq h
theorem pc_gE (hY : pc_sys Y n) (hC : vv_C Y nL Z cc ret Ts own rm) {e : Nat} (he : e < 11) (j : Nat) (hin : ∀ w ∈ u_ws RX1 TX1 4, w ∈ Ts) {index : Nat} (hlink : Cond.fieldLink own index "ParityRow$Entry" (TX1 j).2.1 (TX1 j).2.2.1 ∈ Ts) (hj : j < 4) (hsame : (TX1 j).1 = "ParityRow$Entry") {v : Value} (hv : (pc_fE Y.2.1 (pc_e e) (σ (pc_e e)))[j]? = some v) (hd : decode cc pc = .ok (.getfield index, 3)) (hq : pc + 3 = q) (h : vv_V Y nL Z σ q L (v :: st)) : vv_V Y nL Z σ pc L (.ref (Y.2.1 (pc_e e)) :: st) :=
  vv_get hC hin (hY.ke (j := 0) he (by decide)) (hY.E he _) (by rw [hY.cl]; rfl) hj hlink hsame hv hd hq h
theorem pc_pE (hY : pc_sys Y n) (hC : vv_C Y nL Z cc ret Ts own rm) {e : Nat} (he : e < 11) (j : Nat) (hin : ∀ w ∈ u_ws RX1 TX1 4, w ∈ Ts) {index : Nat} (hlink : Cond.fieldLink own index "ParityRow$Entry" (TX1 j).2.1 (TX1 j).2.2.1 ∈ Ts) (hj : j < 4) (hsame : (TX1 j).1 = "ParityRow$Entry") (hfin : (TX1 j).2.2.2 = false) {x : Int32} {ty : FieldType} (hty : parseFieldDescriptor (TX1 j).2.2.1 = some ty) (hn : narrow ty (.int x) = .int x) (hfit : fits ty (.int x) = true) (hset : ∀ f : Nat → Int32, pc_fE Y.2.1 (pc_e e) (upd f j x) = (pc_fE Y.2.1 (pc_e e) f).set j (.int x)) (hd : decode cc pc = .ok (.putfield index, 3)) (hq : pc + 3 = q) (h : vv_V Y nL Z (vv_up σ (pc_e e) j x) q L st) : vv_V Y nL Z σ pc L (.int x :: .ref (Y.2.1 (pc_e e)) :: st) :=
  vv_put hC tyX1 tyX1_ok nmX1 hin (hY.ke (j := 0) he (by decide)) (hY.E he _) (by rw [hY.cl]; rfl) hj hlink hsame hfin hty hn hfit hj (by rw [(hY.E he), hset]) hd hq h
theorem pc_gEN (hY : pc_sys Y n) (hC : vv_C Y nL Z cc ret Ts own rm) {e : Nat} (he : e < 11) (j : Nat) (hin : ∀ w ∈ u_ws RX1 TX1 4, w ∈ Ts) {index : Nat} (hlink : Cond.fieldLinkNest own index "ParityRow$Entry" (TX1 j).2.1 (TX1 j).2.2.1 "ParityRow" ∈ pc_nw) (hj : j < 4) (hsame : (TX1 j).1 = "ParityRow$Entry") {v : Value} (hv : (pc_fE Y.2.1 (pc_e e) (σ (pc_e e)))[j]? = some v) (hd : decode cc pc = .ok (.getfield index, 3)) (hq : pc + 3 = q) (h : vv_V Y nL Z σ q L (v :: st)) : vv_V Y nL Z σ pc L (.ref (Y.2.1 (pc_e e)) :: st) :=
  vv_getN hC hin (hY.ke (j := 0) he (by decide)) (hY.E he _) (by rw [hY.cl]; rfl) hj (hY.nw hlink) hsame hv hd hq h
theorem pc_pEN (hY : pc_sys Y n) (hC : vv_C Y nL Z cc ret Ts own rm) {e : Nat} (he : e < 11) (j : Nat) (hin : ∀ w ∈ u_ws RX1 TX1 4, w ∈ Ts) {index : Nat} (hlink : Cond.fieldLinkNest own index "ParityRow$Entry" (TX1 j).2.1 (TX1 j).2.2.1 "ParityRow" ∈ pc_nw) (hj : j < 4) (hsame : (TX1 j).1 = "ParityRow$Entry") (hfin : (TX1 j).2.2.2 = false) {x : Int32} {ty : FieldType} (hty : parseFieldDescriptor (TX1 j).2.2.1 = some ty) (hn : narrow ty (.int x) = .int x) (hfit : fits ty (.int x) = true) (hset : ∀ f : Nat → Int32, pc_fE Y.2.1 (pc_e e) (upd f j x) = (pc_fE Y.2.1 (pc_e e) f).set j (.int x)) (hd : decode cc pc = .ok (.putfield index, 3)) (hq : pc + 3 = q) (h : vv_V Y nL Z (vv_up σ (pc_e e) j x) q L st) : vv_V Y nL Z σ pc L (.int x :: .ref (Y.2.1 (pc_e e)) :: st) :=
  vv_putN hC tyX1 tyX1_ok nmX1 hin (hY.ke (j := 0) he (by decide)) (hY.E he _) (by rw [hY.cl]; rfl) hj (hY.nw hlink) hsame hfin hty hn hfit hj (by rw [(hY.E he), hset]) hd hq h
theorem pc_gD (hY : pc_sys Y n) (hC : vv_C Y nL Z cc ret Ts own rm) {m : Nat} (hm : m < n) (j : Nat) (hin : ∀ w ∈ u_ws RX0 TX0 6, w ∈ Ts) {index : Nat} (hlink : Cond.fieldLink own index "ParityRow$Disk" (TX0 j).2.1 (TX0 j).2.2.1 ∈ Ts) (hj : j < 6) (hsame : (TX0 j).1 = "ParityRow$Disk") {v : Value} (hv : (pc_fD Y.2.1 (pc_d m) (σ (pc_d m)))[j]? = some v) (hd : decode cc pc = .ok (.getfield index, 3)) (hq : pc + 3 = q) (h : vv_V Y nL Z σ q L (v :: st)) : vv_V Y nL Z σ pc L (.ref (Y.2.1 (pc_d m)) :: st) :=
  vv_get hC hin (hY.kd (j := 0) hm (by decide)) (hY.D _) (by rw [hY.cl]; rfl) hj hlink hsame hv hd hq h
theorem pc_pD (hY : pc_sys Y n) (hC : vv_C Y nL Z cc ret Ts own rm) {m : Nat} (hm : m < n) (j : Nat) (hin : ∀ w ∈ u_ws RX0 TX0 6, w ∈ Ts) {index : Nat} (hlink : Cond.fieldLink own index "ParityRow$Disk" (TX0 j).2.1 (TX0 j).2.2.1 ∈ Ts) (hj : j < 6) (hsame : (TX0 j).1 = "ParityRow$Disk") (hfin : (TX0 j).2.2.2 = false) {x : Int32} {ty : FieldType} (hty : parseFieldDescriptor (TX0 j).2.2.1 = some ty) (hn : narrow ty (.int x) = .int x) (hfit : fits ty (.int x) = true) (hset : ∀ f : Nat → Int32, pc_fD Y.2.1 (pc_d m) (upd f j x) = (pc_fD Y.2.1 (pc_d m) f).set j (.int x)) (hd : decode cc pc = .ok (.putfield index, 3)) (hq : pc + 3 = q) (h : vv_V Y nL Z (vv_up σ (pc_d m) j x) q L st) : vv_V Y nL Z σ pc L (.int x :: .ref (Y.2.1 (pc_d m)) :: st) :=
  vv_put hC tyX0 tyX0_ok nmX0 hin (hY.kd (j := 0) hm (by decide)) (hY.D _) (by rw [hY.cl]; rfl) hj hlink hsame hfin hty hn hfit hj (by rw [hY.D, hset]) hd hq h
theorem pc_gDN (hY : pc_sys Y n) (hC : vv_C Y nL Z cc ret Ts own rm) {m : Nat} (hm : m < n) (j : Nat) (hin : ∀ w ∈ u_ws RX0 TX0 6, w ∈ Ts) {index : Nat} (hlink : Cond.fieldLinkNest own index "ParityRow$Disk" (TX0 j).2.1 (TX0 j).2.2.1 "ParityRow" ∈ pc_nw) (hj : j < 6) (hsame : (TX0 j).1 = "ParityRow$Disk") {v : Value} (hv : (pc_fD Y.2.1 (pc_d m) (σ (pc_d m)))[j]? = some v) (hd : decode cc pc = .ok (.getfield index, 3)) (hq : pc + 3 = q) (h : vv_V Y nL Z σ q L (v :: st)) : vv_V Y nL Z σ pc L (.ref (Y.2.1 (pc_d m)) :: st) :=
  vv_getN hC hin (hY.kd (j := 0) hm (by decide)) (hY.D _) (by rw [hY.cl]; rfl) hj (hY.nw hlink) hsame hv hd hq h
theorem pc_pDN (hY : pc_sys Y n) (hC : vv_C Y nL Z cc ret Ts own rm) {m : Nat} (hm : m < n) (j : Nat) (hin : ∀ w ∈ u_ws RX0 TX0 6, w ∈ Ts) {index : Nat} (hlink : Cond.fieldLinkNest own index "ParityRow$Disk" (TX0 j).2.1 (TX0 j).2.2.1 "ParityRow" ∈ pc_nw) (hj : j < 6) (hsame : (TX0 j).1 = "ParityRow$Disk") (hfin : (TX0 j).2.2.2 = false) {x : Int32} {ty : FieldType} (hty : parseFieldDescriptor (TX0 j).2.2.1 = some ty) (hn : narrow ty (.int x) = .int x) (hfit : fits ty (.int x) = true) (hset : ∀ f : Nat → Int32, pc_fD Y.2.1 (pc_d m) (upd f j x) = (pc_fD Y.2.1 (pc_d m) f).set j (.int x)) (hd : decode cc pc = .ok (.putfield index, 3)) (hq : pc + 3 = q) (h : vv_V Y nL Z (vv_up σ (pc_d m) j x) q L st) : vv_V Y nL Z σ pc L (.int x :: .ref (Y.2.1 (pc_d m)) :: st) :=
  vv_putN hC tyX0 tyX0_ok nmX0 hin (hY.kd (j := 0) hm (by decide)) (hY.D _) (by rw [hY.cl]; rfl) hj (hY.nw hlink) hsame hfin hty hn hfit hj (by rw [hY.D, hset]) hd hq h
theorem pc_ld_tally (hY : pc_sys Y n) (hC : vv_C Y nL Z cc ret Ts own rm) {i : Nat} (hi : i < 13) (hd : decode cc pc = .ok (.iaload, 1)) (hq : pc + 1 = q) (h : vv_V Y nL Z σ q L (.int (σ 4 i) :: st)) : vv_V Y nL Z σ pc L (.int (nI i) :: .ref (Y.2.1 4) :: st) := by
  obtain ⟨K, hK, hT⟩ := hY.row (k := 4) (Or.inl rfl)
  have hlen : pc_len n 4 = 13 := by unfold pc_len; rfl
  rw [hlen] at hK
  exact vv_ild hC (hY.k (by decide)) hK hT hi (by omega) hd hq h
theorem pc_st_tally (hY : pc_sys Y n) (hC : vv_C Y nL Z cc ret Ts own rm) {i : Nat} {x : Int32} (hi : i < 13) (hd : decode cc pc = .ok (.iastore, 1)) (hq : pc + 1 = q) (h : vv_V Y nL Z (vv_up σ 4 i x) q L st) : vv_V Y nL Z σ pc L (.int x :: .int (nI i) :: .ref (Y.2.1 4) :: st) := by
  obtain ⟨K, hK, hT⟩ := hY.row (k := 4) (Or.inl rfl)
  have hlen : pc_len n 4 = 13 := by unfold pc_len; rfl
  rw [hlen] at hK
  exact vv_ist hC (hY.k (by decide)) hK hT hi (by omega) hd hq h
theorem pc_ld_mixed (hY : pc_sys Y n) (hC : vv_C Y nL Z cc ret Ts own rm) {i : Nat} (hi : i < 8) (hd : decode cc pc = .ok (.iaload, 1)) (hq : pc + 1 = q) (h : vv_V Y nL Z σ q L (.int (σ 5 i) :: st)) : vv_V Y nL Z σ pc L (.int (nI i) :: .ref (Y.2.1 5) :: st) := by
  obtain ⟨K, hK, hT⟩ := hY.row (k := 5) (Or.inr (Or.inl rfl))
  have hlen : pc_len n 5 = 8 := by unfold pc_len; rfl
  rw [hlen] at hK
  exact vv_ild hC (hY.k (by decide)) hK hT hi (by omega) hd hq h
theorem pc_st_mixed (hY : pc_sys Y n) (hC : vv_C Y nL Z cc ret Ts own rm) {i : Nat} {x : Int32} (hi : i < 8) (hd : decode cc pc = .ok (.iastore, 1)) (hq : pc + 1 = q) (h : vv_V Y nL Z (vv_up σ 5 i x) q L st) : vv_V Y nL Z σ pc L (.int x :: .int (nI i) :: .ref (Y.2.1 5) :: st) := by
  obtain ⟨K, hK, hT⟩ := hY.row (k := 5) (Or.inr (Or.inl rfl))
  have hlen : pc_len n 5 = 8 := by unfold pc_len; rfl
  rw [hlen] at hK
  exact vv_ist hC (hY.k (by decide)) hK hT hi (by omega) hd hq h
theorem pc_ld_ew (hY : pc_sys Y n) (hC : vv_C Y nL Z cc ret Ts own rm) {e : Nat} (he : e < 11) {i : Nat} (hi : i < 8 * n) (hd : decode cc pc = .ok (.iaload, 1)) (hq : pc + 1 = q) (h : vv_V Y nL Z σ q L (.int (σ (pc_e e + 1) i) :: st)) : vv_V Y nL Z σ pc L (.int (nI i) :: .ref (Y.2.1 (pc_e e + 1)) :: st) := by
  obtain ⟨K, hK, hT⟩ := hY.row (k := (pc_e e + 1)) (Or.inr (Or.inr (Or.inl (by unfold pc_e; omega))))
  have hlen : pc_len n (pc_e e + 1) = 8 * n := by unfold pc_len pc_e; rw [if_neg (by omega), if_neg (by omega), if_pos (by omega)]
  rw [hlen] at hK
  exact vv_ild hC (hY.ke he (by decide)) hK hT hi (by have := hY.hi; omega) hd hq h
theorem pc_st_ew (hY : pc_sys Y n) (hC : vv_C Y nL Z cc ret Ts own rm) {e : Nat} (he : e < 11) {i : Nat} {x : Int32} (hi : i < 8 * n) (hd : decode cc pc = .ok (.iastore, 1)) (hq : pc + 1 = q) (h : vv_V Y nL Z (vv_up σ (pc_e e + 1) i x) q L st) : vv_V Y nL Z σ pc L (.int x :: .int (nI i) :: .ref (Y.2.1 (pc_e e + 1)) :: st) := by
  obtain ⟨K, hK, hT⟩ := hY.row (k := (pc_e e + 1)) (Or.inr (Or.inr (Or.inl (by unfold pc_e; omega))))
  have hlen : pc_len n (pc_e e + 1) = 8 * n := by unfold pc_len pc_e; rw [if_neg (by omega), if_neg (by omega), if_pos (by omega)]
  rw [hlen] at hK
  exact vv_ist hC (hY.ke he (by decide)) hK hT hi (by have := hY.hi; omega) hd hq h
theorem pc_ld_dw (hY : pc_sys Y n) (hC : vv_C Y nL Z cc ret Ts own rm) {m : Nat} (hm : m < n) {i : Nat} (hi : i < 192) (hd : decode cc pc = .ok (.iaload, 1)) (hq : pc + 1 = q) (h : vv_V Y nL Z σ q L (.int (σ (pc_d m + 1) i) :: st)) : vv_V Y nL Z σ pc L (.int (nI i) :: .ref (Y.2.1 (pc_d m + 1)) :: st) := by
  obtain ⟨K, hK, hT⟩ := hY.row (k := (pc_d m + 1)) (Or.inr (Or.inr (Or.inr (by unfold pc_d; omega))))
  have hlen : pc_len n (pc_d m + 1) = 192 := by unfold pc_len pc_d; rw [if_neg (by omega), if_neg (by omega), if_neg (by omega), if_pos (by omega)]
  rw [hlen] at hK
  exact vv_ild hC (hY.kd hm (by decide)) hK hT hi (by omega) hd hq h
theorem pc_st_dw (hY : pc_sys Y n) (hC : vv_C Y nL Z cc ret Ts own rm) {m : Nat} (hm : m < n) {i : Nat} {x : Int32} (hi : i < 192) (hd : decode cc pc = .ok (.iastore, 1)) (hq : pc + 1 = q) (h : vv_V Y nL Z (vv_up σ (pc_d m + 1) i x) q L st) : vv_V Y nL Z σ pc L (.int x :: .int (nI i) :: .ref (Y.2.1 (pc_d m + 1)) :: st) := by
  obtain ⟨K, hK, hT⟩ := hY.row (k := (pc_d m + 1)) (Or.inr (Or.inr (Or.inr (by unfold pc_d; omega))))
  have hlen : pc_len n (pc_d m + 1) = 192 := by unfold pc_len pc_d; rw [if_neg (by omega), if_neg (by omega), if_neg (by omega), if_pos (by omega)]
  rw [hlen] at hK
  exact vv_ist hC (hY.kd hm (by decide)) hK hT hi (by omega) hd hq h
theorem pc_ld_ds (hY : pc_sys Y n) (hC : vv_C Y nL Z cc ret Ts own rm) {m : Nat} (hm : m < n) {i : Nat} (hi : i < 24) (hd : decode cc pc = .ok (.iaload, 1)) (hq : pc + 1 = q) (h : vv_V Y nL Z σ q L (.int (σ (pc_d m + 2) i) :: st)) : vv_V Y nL Z σ pc L (.int (nI i) :: .ref (Y.2.1 (pc_d m + 2)) :: st) := by
  obtain ⟨K, hK, hT⟩ := hY.row (k := (pc_d m + 2)) (Or.inr (Or.inr (Or.inr (by unfold pc_d; omega))))
  have hlen : pc_len n (pc_d m + 2) = 24 := by unfold pc_len pc_d; rw [if_neg (by omega), if_neg (by omega), if_neg (by omega), if_neg (by omega)]
  rw [hlen] at hK
  exact vv_ild hC (hY.kd hm (by decide)) hK hT hi (by omega) hd hq h
theorem pc_st_ds (hY : pc_sys Y n) (hC : vv_C Y nL Z cc ret Ts own rm) {m : Nat} (hm : m < n) {i : Nat} {x : Int32} (hi : i < 24) (hd : decode cc pc = .ok (.iastore, 1)) (hq : pc + 1 = q) (h : vv_V Y nL Z (vv_up σ (pc_d m + 2) i x) q L st) : vv_V Y nL Z σ pc L (.int x :: .int (nI i) :: .ref (Y.2.1 (pc_d m + 2)) :: st) := by
  obtain ⟨K, hK, hT⟩ := hY.row (k := (pc_d m + 2)) (Or.inr (Or.inr (Or.inr (by unfold pc_d; omega))))
  have hlen : pc_len n (pc_d m + 2) = 24 := by unfold pc_len pc_d; rw [if_neg (by omega), if_neg (by omega), if_neg (by omega), if_neg (by omega)]
  rw [hlen] at hK
  exact vv_ist hC (hY.kd hm (by decide)) hK hT hi (by omega) hd hq h
theorem pc_ld_dt (hY : pc_sys Y n) (hC : vv_C Y nL Z cc ret Ts own rm) {m : Nat} (hm : m < n) {i : Nat} (hi : i < 24) (hd : decode cc pc = .ok (.baload, 1)) (hq : pc + 1 = q) (h : vv_V Y nL Z σ q L (.int (σ (pc_d m + 3) i) :: st)) : vv_V Y nL Z σ pc L (.int (nI i) :: .ref (Y.2.1 (pc_d m + 3)) :: st) := by
  obtain ⟨K, hK, hT⟩ := hY.zrow (m := m)
  exact vv_zld hC (hY.kd hm (by decide)) hK hT hi (by omega) hd hq h
theorem pc_st_dt (hY : pc_sys Y n) (hC : vv_C Y nL Z cc ret Ts own rm) {m : Nat} (hm : m < n) {i : Nat} {x : Int32} (hi : i < 24) (hd : decode cc pc = .ok (.bastore, 1)) (hq : pc + 1 = q) (h : vv_V Y nL Z (vv_up σ (pc_d m + 3) i (vp_nar .boolean x)) q L st) : vv_V Y nL Z σ pc L (.int x :: .int (nI i) :: .ref (Y.2.1 (pc_d m + 3)) :: st) := by
  obtain ⟨K, hK, hT⟩ := hY.zrow (m := m)
  exact vv_zst hC (hY.kd hm (by decide)) hK hT hi (by omega) hd hq h
theorem pc_ld_disks (hY : pc_sys Y n) (hC : vv_C Y nL Z cc ret Ts own rm) {m : Nat} (hm : m < n) (hd : decode cc pc = .ok (.aaload, 1)) (hq : pc + 1 = q) (h : vv_V Y nL Z σ q L (.ref (Y.2.1 (pc_d m)) :: st)) : vv_V Y nL Z σ pc L (.int (nI m) :: .ref (Y.2.1 1) :: st) := by
  obtain ⟨K, hK, hT⟩ := hY.disks
  exact vv_ald hC (hY.k (by decide)) (hK _) hT hm (by have := hY.hi; omega) rfl hd hq h
theorem pc_ld_slots (hY : pc_sys Y n) (hC : vv_C Y nL Z cc ret Ts own rm) {e : Nat} (he : e < 11) (hd : decode cc pc = .ok (.aaload, 1)) (hq : pc + 1 = q) (h : vv_V Y nL Z σ q L (.ref (Y.2.1 (pc_e e)) :: st)) : vv_V Y nL Z σ pc L (.int (nI e) :: .ref (Y.2.1 3) :: st) := by
  obtain ⟨K, hK, hT⟩ := hY.slots
  exact vv_ald hC (hY.k (by decide)) (hK _) hT he (by decide) rfl hd hq h
end PCROWS
