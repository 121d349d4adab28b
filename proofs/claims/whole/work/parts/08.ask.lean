-- FerryDecks$Bodies.askAbove
def f_X0_askAbove_k24 (K : Int32 → Int32 → Int32 → BS → Int32 × BS) (q24 : Int32 × BS) : Int32 × BS :=
  (q24.1, q24.2)
def f_X0_askAbove_k4 (K : Int32 → Int32 → Int32 → BS → Int32 × BS) (kd : Int32) (mb : Int32) (n : Int32) (u : BS) (q4 : Int32) : Int32 × BS :=
  (if q4 = 0 then ((0 : Int32), u) else (f_X0_askAbove_k24 K (K (abvF (kd : Int32).toNatClampNeg) mb n u)))
def f_X0_askAbove (K : Int32 → Int32 → Int32 → BS → Int32 × BS) (kd : Int32) (mb : Int32) (n : Int32) (u : BS) : Int32 × BS :=
  (f_X0_askAbove_k4 K kd mb n u (f_X4_within kd (0 : Int32) (9 : Int32)))
set_option maxHeartbeats 4000000 in
set_option maxRecDepth 100000 in
theorem c_X0_askAbove_0 {p : Program} {e : Env} {s : State} {m : MethodId} {args : Array Value} {below : List Frame} {meth : Method} {c : Code} (l : Launch) (G : gC) (A : Nat → Prop) (hB hT hW hEn hV : Nat) (k : Nat) (dp : Int32) (K : Int32 → Int32 → Int32 → BS → Int32 × BS) (hK : ∀ (kd mb n : Int32) (u : BS), b_ok u → CI l yX0_start wsX0_start ({ frames := 4 * k + 4, cells := 0, slots := 0, locals := 120 * k + 60 } : Room) G A (b_W (gI G) hB hT hW hEn hV) b_ok [.ref hB, .ref hV, .int kd, .int mb, .int n, .int (dp + 1)] u (K kd mb n u)) (C0 : gX p s m args meth c cX0_askAbove 6 wsX0_askAbove RX0 (some .int)) (hE : gE G A s) (kd : Int32) (mb : Int32) (n : Int32) (u : BS) {H : Heap} {locs : List Loc} (hP : va_P (gD G) vwCl ((b_W (gI G) hB hT hW hEn hV) u) H) (hD : va_D A ((b_W (gI G) hB hT hW hEn hV) u)) (hok : b_ok u) (hS : va_S A s.heap H locs) {ls : Array Slot} (hl : lv_has ls 6 [(0, .ref hB), (1, .ref hV), (2, .int kd), (3, .int mb), (4, .int n), (5, .int dp)]) {fv : Int32 × BS} (hfv : f_X0_askAbove K kd mb n u = fv) : W p l e ({ frames := 4 * k + 5, cells := 0, slots := 0, locals := 120 * k + 86 } : Room) s m args below meth c H locs 0 0 (MQ below (gQi G A (b_W (gI G) hB hT hW hEn hV) b_ok fv) args s 0 0 A) (F0 m 0 ls []) := by
  obtain ⟨⟨hx, hb, hml, hown, hts⟩, hr, hlk⟩ := id C0
  have hok0 := hok
  have k0 := hts (.initialized RX4) (by decide +kernel)
  have k1 := hts (.static yX4_within) (by decide +kernel)
  refine lv_iload_n hx hb dX0_askAbove_0 rfl (lv_at hl 2 rfl) ?_
  refine lv_iconst (v := 0) hx hb dX0_askAbove_1 (by decide) ?_
  refine lv_bipush (v := 9) hx hb dX0_askAbove_2 (by decide) ?_
  refine gNi (As := [.int kd, .int (0 : Int32), .int (9 : Int32)]) (rest := []) ⟨hx, hb, hml, hown, hts⟩ (c_X4_within l G A kd (0 : Int32) (9 : Int32)) ⟨va_cnB 3 hts gX0_askAbove_X4_within_n73 rfl rfl rfl hE.2.1.2.2.1 k0 (by decide +kernel) ⟨by show 0 + 1 ≤ 4 * k + 5; omega, by show 8 + (3 + 11) + 0 ≤ 120 * k + 86; omega⟩, k1, trivial⟩ hE hS rfl hl.1 rfl (Nat.le_of_ble_eq_true rfl) dX0_askAbove_4 ⟨Nat.zero_le _, Nat.zero_le _⟩ (fun q4 e4 => ?_)
  refine lv_if_eq (tgt := 30) hx hb dX0_askAbove_7 (by decide) (fun c7 => ?_) (fun c7 => ?_)
  · refine lv_iconst (v := 0) hx hb dX0_askAbove_30 (by decide) ?_
    exact gRi (u := u) hx hb hr hlk hP hD hok hS (by rw [← hfv, f_X0_askAbove, ← e4, f_X0_askAbove_k4, if_pos c7]) dX0_askAbove_31
  · refine lv_aload_n hx hb dX0_askAbove_10 rfl (lv_at hl 0 rfl) ?_
    refine lv_aload_n hx hb dX0_askAbove_11 rfl (lv_at hl 1 rfl) ?_
    refine va_getsN hx hb hE.2.2.2.1 hS hown (va_Nw.use rfl hE.2.1.1) (fun _ h9 => h9) dX0_askAbove_12 ?_
    refine lv_iload_n hx hb dX0_askAbove_15 rfl (lv_at hl 2 rfl) ?_
    refine va_ti (v := .int (abvF (kd : Int32).toNatClampNeg)) hx hb hE.2.2.2.2 hS (abvIn (by rw [← e4]; exact c7)) rfl dX0_askAbove_16 ?_
    refine lv_iload_n hx hb dX0_askAbove_17 rfl (lv_at hl 3 rfl) ?_
    refine lv_iload hx hb dX0_askAbove_18 (lv_at hl 4 rfl) ?_
    refine lv_iload hx hb dX0_askAbove_20 (lv_at hl 5 rfl) ?_
    refine lv_iconst (v := 1) hx hb dX0_askAbove_22 (by decide) ?_
    refine lv_iadd hx hb dX0_askAbove_23 ?_
    refine gVi (u := u) (Wd := (b_W (gI G) hB hT hW hEn hV)) (ok := b_ok) (As := [.ref hV, .int (abvF (kd : Int32).toNatClampNeg), .int mb, .int n, .int (dp + (1 : Int32))]) (rest := []) ⟨hx, hb, hml, hown, hts⟩ (hK (abvF (kd : Int32).toNatClampNeg) mb n u hok) (cwV 5 hts gX0_askAbove_X0_start rfl rfl rfl (by decide +kernel) ⟨by show 4 * k + 4 + 1 ≤ 4 * k + 5; omega, by show 8 + (7 + 11) + (120 * k + 60) ≤ 120 * k + 86; omega⟩) hE hP hD hS (va_recv hE.1 hP (ci := 0) (q0 := 0) rfl rfl) rfl hl.1 rfl (Nat.le_of_ble_eq_true rfl) dX0_askAbove_24 ⟨Nat.zero_le _, Nat.zero_le _⟩ (fun q24 H locs e24 hP hD hok hS => ?_)
    refine lv_goto (tgt := 31) hx hb dX0_askAbove_27 (by decide) ?_
    exact gRi (u := q24.2) hx hb hr hlk hP hD hok hS (by rw [← hfv, f_X0_askAbove, ← e4, f_X0_askAbove_k4, if_neg c7, ← e24, f_X0_askAbove_k24]) dX0_askAbove_31
set_option maxHeartbeats 4000000 in
set_option maxRecDepth 100000 in
theorem c_X0_askAbove (l : Launch) (G : gC) (A : Nat → Prop) (hB hT hW hEn hV : Nat) (k : Nat) (dp : Int32) (K : Int32 → Int32 → Int32 → BS → Int32 × BS) (hK : ∀ (kd mb n : Int32) (u : BS), b_ok u → CI l yX0_start wsX0_start ({ frames := 4 * k + 4, cells := 0, slots := 0, locals := 120 * k + 60 } : Room) G A (b_W (gI G) hB hT hW hEn hV) b_ok [.ref hB, .ref hV, .int kd, .int mb, .int n, .int (dp + 1)] u (K kd mb n u)) (kd : Int32) (mb : Int32) (n : Int32) (u : BS) (hok : b_ok u) : CI l yX0_askAbove wsX0_askAbove ({ frames := 4 * k + 5, cells := 0, slots := 0, locals := 120 * k + 86 } : Room) G A (b_W (gI G) hB hT hW hEn hV) b_ok [.ref hB, .ref hV, .int kd, .int mb, .int n, .int dp] u (f_X0_askAbove K kd mb n u) := by
  refine Met.ofW (cc := cX0_askAbove) (maxL := 6) (ret := (some .int)) (by decide) rfl ?_
  intro p e s m args below meth c s₁ B hml hv
  obtain ⟨rfl, hE, hP, hD⟩ := hv
  have hl := lv_entry ([.ref hB, .ref hV, .int kd, .int mb, .int n, .int dp]) (n := 6) (Nat.le_of_ble_eq_true rfl)
  rw [lg_entry_eq]
  generalize (lg_sl ([.ref hB, .ref hV, .int kd, .int mb, .int n, .int dp]) ++ List.replicate (6 - (lg_sl ([.ref hB, .ref hV, .int kd, .int mb, .int n, .int dp])).length) Slot.unset).toArray = ls at hl ⊢
  exact c_X0_askAbove_0 l G A hB hT hW hEn hV k dp K hK ⟨⟨B.exec, B.bytes, hml, findClass_of_methodNamed B.named, atoms_spec (ws := wsX0_askAbove) B.pre⟩, B.returns, B.notSynchronized⟩ hE kd mb n u hP hD hok va_S.rf hl rfl

-- FerryDecks$Bodies.askVehicle
def f_X0_askVehicle_k12 (K : Int32 → Int32 → Int32 → BS → Int32 × BS) (q12 : Int32 × BS) : Int32 × BS :=
  (q12.1, q12.2)
def f_X0_askVehicle (K : Int32 → Int32 → Int32 → BS → Int32 × BS) (mb : Int32) (n : Int32) (u : BS) : Int32 × BS :=
  (f_X0_askVehicle_k12 K (K (b_kd u) mb n u))
set_option maxHeartbeats 4000000 in
set_option maxRecDepth 100000 in
theorem c_X0_askVehicle_0 {p : Program} {e : Env} {s : State} {m : MethodId} {args : Array Value} {below : List Frame} {meth : Method} {c : Code} (l : Launch) (G : gC) (A : Nat → Prop) (hB hT hW hEn hV : Nat) (k : Nat) (dp : Int32) (K : Int32 → Int32 → Int32 → BS → Int32 × BS) (hK : ∀ (kd mb n : Int32) (u : BS), b_ok u → CI l yX0_start wsX0_start ({ frames := 4 * k + 4, cells := 0, slots := 0, locals := 120 * k + 60 } : Room) G A (b_W (gI G) hB hT hW hEn hV) b_ok [.ref hB, .ref hV, .int kd, .int mb, .int n, .int (dp + 1)] u (K kd mb n u)) (C0 : gX p s m args meth c cX0_askVehicle 5 wsX0_askVehicle RX0 (some .int)) (hE : gE G A s) (mb : Int32) (n : Int32) (u : BS) {H : Heap} {locs : List Loc} (hP : va_P (gD G) vwCl ((b_W (gI G) hB hT hW hEn hV) u) H) (hD : va_D A ((b_W (gI G) hB hT hW hEn hV) u)) (hok : b_ok u) (hS : va_S A s.heap H locs) {ls : Array Slot} (hl : lv_has ls 5 [(0, .ref hB), (1, .ref hV), (2, .int mb), (3, .int n), (4, .int dp)]) {fv : Int32 × BS} (hfv : f_X0_askVehicle K mb n u = fv) : W p l e ({ frames := 4 * k + 5, cells := 0, slots := 0, locals := 120 * k + 86 } : Room) s m args below meth c H locs 0 0 (MQ below (gQi G A (b_W (gI G) hB hT hW hEn hV) b_ok fv) args s 0 0 A) (F0 m 0 ls []) := by
  obtain ⟨⟨hx, hb, hml, hown, hts⟩, hr, hlk⟩ := id C0
  have hok0 := hok
  have k0 := hts (.fieldLink RX0 29 "FerryDecks$Vehicle" "kind" "I") (by decide +kernel)
  have iX3 : ∀ w ∈ wsX30, w ∈ wsX0_askVehicle := by decide +kernel
  refine lv_aload_n hx hb dX0_askVehicle_0 rfl (lv_at hl 0 rfl) ?_
  refine lv_aload_n hx hb dX0_askVehicle_1 rfl (lv_at hl 1 rfl) ?_
  refine lv_aload_n hx hb dX0_askVehicle_2 rfl (lv_at hl 1 rfl) ?_
  refine va_get (D := gD G) (ci := 3) (v := .int (b_kd u)) (C := RX3) (T := TX3) (N := 6) hx hb hts iX3 hown hE.1 hP 4 rfl rfl 0 (by decide) k0 (fun _ h9 => h9) rfl dX0_askVehicle_3 ?_
  refine lv_iload_n hx hb dX0_askVehicle_6 rfl (lv_at hl 2 rfl) ?_
  refine lv_iload_n hx hb dX0_askVehicle_7 rfl (lv_at hl 3 rfl) ?_
  refine lv_iload hx hb dX0_askVehicle_8 (lv_at hl 4 rfl) ?_
  refine lv_iconst (v := 1) hx hb dX0_askVehicle_10 (by decide) ?_
  refine lv_iadd hx hb dX0_askVehicle_11 ?_
  refine gVi (u := u) (Wd := (b_W (gI G) hB hT hW hEn hV)) (ok := b_ok) (As := [.ref hV, .int (b_kd u), .int mb, .int n, .int (dp + (1 : Int32))]) (rest := []) ⟨hx, hb, hml, hown, hts⟩ (hK (b_kd u) mb n u hok) (cwV 5 hts gX0_askVehicle_X0_start rfl rfl rfl (by decide +kernel) ⟨by show 4 * k + 4 + 1 ≤ 4 * k + 5; omega, by show 8 + (7 + 11) + (120 * k + 60) ≤ 120 * k + 86; omega⟩) hE hP hD hS (va_recv hE.1 hP (ci := 0) (q0 := 0) rfl rfl) rfl hl.1 rfl (Nat.le_of_ble_eq_true rfl) dX0_askVehicle_12 ⟨Nat.zero_le _, Nat.zero_le _⟩ (fun q12 H locs e12 hP hD hok hS => ?_)
  exact gRi (u := q12.2) hx hb hr hlk hP hD hok hS (by rw [← hfv, f_X0_askVehicle, ← e12, f_X0_askVehicle_k12]) dX0_askVehicle_15
set_option maxHeartbeats 4000000 in
set_option maxRecDepth 100000 in
theorem c_X0_askVehicle (l : Launch) (G : gC) (A : Nat → Prop) (hB hT hW hEn hV : Nat) (k : Nat) (dp : Int32) (K : Int32 → Int32 → Int32 → BS → Int32 × BS) (hK : ∀ (kd mb n : Int32) (u : BS), b_ok u → CI l yX0_start wsX0_start ({ frames := 4 * k + 4, cells := 0, slots := 0, locals := 120 * k + 60 } : Room) G A (b_W (gI G) hB hT hW hEn hV) b_ok [.ref hB, .ref hV, .int kd, .int mb, .int n, .int (dp + 1)] u (K kd mb n u)) (mb : Int32) (n : Int32) (u : BS) (hok : b_ok u) : CI l yX0_askVehicle wsX0_askVehicle ({ frames := 4 * k + 5, cells := 0, slots := 0, locals := 120 * k + 86 } : Room) G A (b_W (gI G) hB hT hW hEn hV) b_ok [.ref hB, .ref hV, .int mb, .int n, .int dp] u (f_X0_askVehicle K mb n u) := by
  refine Met.ofW (cc := cX0_askVehicle) (maxL := 5) (ret := (some .int)) (by decide) rfl ?_
  intro p e s m args below meth c s₁ B hml hv
  obtain ⟨rfl, hE, hP, hD⟩ := hv
  have hl := lv_entry ([.ref hB, .ref hV, .int mb, .int n, .int dp]) (n := 5) (Nat.le_of_ble_eq_true rfl)
  rw [lg_entry_eq]
  generalize (lg_sl ([.ref hB, .ref hV, .int mb, .int n, .int dp]) ++ List.replicate (5 - (lg_sl ([.ref hB, .ref hV, .int mb, .int n, .int dp])).length) Slot.unset).toArray = ls at hl ⊢
  exact c_X0_askVehicle_0 l G A hB hT hW hEn hV k dp K hK ⟨⟨B.exec, B.bytes, hml, findClass_of_methodNamed B.named, atoms_spec (ws := wsX0_askVehicle) B.pre⟩, B.returns, B.notSynchronized⟩ hE mb n u hP hD hok va_S.rf hl rfl

-- FerryDecks$Bodies.lashMixed
def f_X0_lashMixed_k35 (K : Int32 → Int32 → Int32 → BS → Int32 × BS) (q35 : Int32 × BS) : Int32 × BS :=
  (q35.1, q35.2)
def f_X0_lashMixed_k14 (K : Int32 → Int32 → Int32 → BS → Int32 × BS) (n : Int32) (q7 : Int32 × BS) (q14 : Int32 × BS) : Int32 × BS :=
  (if q14.1 = 0 then (q7.1, q14.2) else (f_X0_lashMixed_k35 K (f_X0_askAbove K (9 : Int32) (3 : Int32) n (b_sCh q14.2 (0 : Int32)))))
def f_X0_lashMixed_k7 (K : Int32 → Int32 → Int32 → BS → Int32 × BS) (n : Int32) (q7 : Int32 × BS) : Int32 × BS :=
  (f_X0_lashMixed_k14 K n q7 (f_X0_takes (4 : Int32) q7.2))
def f_X0_lashMixed (K : Int32 → Int32 → Int32 → BS → Int32 × BS) (n : Int32) (u : BS) : Int32 × BS :=
  (f_X0_lashMixed_k7 K n (f_X0_askAbove K (9 : Int32) (3 : Int32) n u))
set_option maxHeartbeats 4000000 in
set_option maxRecDepth 100000 in
theorem c_X0_lashMixed_0 {p : Program} {e : Env} {s : State} {m : MethodId} {args : Array Value} {below : List Frame} {meth : Method} {c : Code} (l : Launch) (G : gC) (A : Nat → Prop) (hB hT hW hEn hV : Nat) (k : Nat) (dp : Int32) (K : Int32 → Int32 → Int32 → BS → Int32 × BS) (hK : ∀ (kd mb n : Int32) (u : BS), b_ok u → CI l yX0_start wsX0_start ({ frames := 4 * k + 4, cells := 0, slots := 0, locals := 120 * k + 60 } : Room) G A (b_W (gI G) hB hT hW hEn hV) b_ok [.ref hB, .ref hV, .int kd, .int mb, .int n, .int (dp + 1)] u (K kd mb n u)) (C0 : gX p s m args meth c cX0_lashMixed 5 wsX0_lashMixed RX0 (some .int)) (hE : gE G A s) (n : Int32) (u : BS) {H : Heap} {locs : List Loc} (hP : va_P (gD G) vwCl ((b_W (gI G) hB hT hW hEn hV) u) H) (hD : va_D A ((b_W (gI G) hB hT hW hEn hV) u)) (hok : b_ok u) (hS : va_S A s.heap H locs) {ls : Array Slot} (hl : lv_has ls 5 [(0, .ref hB), (1, .ref hV), (2, .int n), (3, .int dp)]) {fv : Int32 × BS} (hfv : f_X0_lashMixed K n u = fv) : W p l e ({ frames := 4 * k + 6, cells := 0, slots := 0, locals := 120 * k + 111 } : Room) s m args below meth c H locs 0 0 (MQ below (gQi G A (b_W (gI G) hB hT hW hEn hV) b_ok fv) args s 0 0 A) (F0 m 0 ls []) := by
  obtain ⟨⟨hx, hb, hml, hown, hts⟩, hr, hlk⟩ := id C0
  have hok0 := hok
  have k0 := hts (.fieldLink RX0 103 "FerryDecks$Vehicle" "chains" "I") (by decide +kernel)
  have iX3 : ∀ w ∈ wsX30, w ∈ wsX0_lashMixed := by decide +kernel
  refine lv_aload_n hx hb dX0_lashMixed_0 rfl (lv_at hl 0 rfl) ?_
  refine lv_aload_n hx hb dX0_lashMixed_1 rfl (lv_at hl 1 rfl) ?_
  refine lv_bipush (v := 9) hx hb dX0_lashMixed_2 (by decide) ?_
  refine lv_iconst (v := 3) hx hb dX0_lashMixed_4 (by decide) ?_
  refine lv_iload_n hx hb dX0_lashMixed_5 rfl (lv_at hl 2 rfl) ?_
  refine lv_iload_n hx hb dX0_lashMixed_6 rfl (lv_at hl 3 rfl) ?_
  refine gVi (u := u) (Wd := (b_W (gI G) hB hT hW hEn hV)) (ok := b_ok) (As := [.ref hV, .int (9 : Int32), .int (3 : Int32), .int n, .int dp]) (rest := []) ⟨hx, hb, hml, hown, hts⟩ (c_X0_askAbove l G A hB hT hW hEn hV k dp K hK (9 : Int32) (3 : Int32) n u hok) (cwV 5 hts gX0_lashMixed_X0_askAbove rfl rfl rfl (by decide +kernel) ⟨by show 4 * k + 5 + 1 ≤ 4 * k + 6; omega, by show 8 + (6 + 11) + (120 * k + 86) ≤ 120 * k + 111; omega⟩) hE hP hD hS (va_recv hE.1 hP (ci := 0) (q0 := 0) rfl rfl) rfl hl.1 rfl (Nat.le_of_ble_eq_true rfl) dX0_lashMixed_7 ⟨Nat.zero_le _, Nat.zero_le _⟩ (fun q7 H locs e7 hP hD hok hS => ?_)
  refine lv_istore (lv' := [(4, .int q7.1), (0, .ref hB), (1, .ref hV), (2, .int n), (3, .int dp)]) hx hb dX0_lashMixed_10 hl (by decide) rfl (fun ls hl => ?_)
  refine lv_aload_n hx hb dX0_lashMixed_12 rfl (lv_at hl 1 rfl) ?_
  refine lv_iconst (v := 4) hx hb dX0_lashMixed_13 (by decide) ?_
  refine gVi (u := q7.2) (Wd := (b_W (gI G) hB hT hW hEn hV)) (ok := b_ok) (As := [.int (4 : Int32)]) (rest := []) ⟨hx, hb, hml, hown, hts⟩ (c_X0_takes l G A hB hT hW hEn hV (4 : Int32) q7.2 hok) (cwV 1 hts gX0_lashMixed_X0_takes rfl rfl rfl (by decide +kernel) ⟨by show 0 + 1 ≤ 4 * k + 6; omega, by show 8 + (2 + 11) + 0 ≤ 120 * k + 111; omega⟩) hE hP hD hS (va_recv hE.1 hP (ci := 0) (q0 := 0) rfl rfl) rfl hl.1 rfl (Nat.le_of_ble_eq_true rfl) dX0_lashMixed_14 ⟨Nat.zero_le _, Nat.zero_le _⟩ (fun q14 H locs e14 hP hD hok hS => ?_)
  refine lv_if_ne (tgt := 23) hx hb dX0_lashMixed_17 (by decide) (fun c17 => ?_) (fun c17 => ?_)
  · refine lv_aload_n hx hb dX0_lashMixed_23 rfl (lv_at hl 2 rfl) ?_
    refine lv_iconst (v := 0) hx hb dX0_lashMixed_24 (by decide) ?_
    refine va_put (D := gD G) (ci := 3) (v := .int (0 : Int32)) (ty := .int) (C := RX3) (T := TX3) (N := 6) hx hb hts iX3 tyX3 tyX3_ok nmX3 hown hE.1 hP hD hS 4 rfl rfl 3 (by decide) k0 (fun _ h9 => h9) rfl (by decide +kernel) rfl rfl (Nat.le_of_ble_eq_true rfl) dX0_lashMixed_25 (fun H locs hP hD hS => ?_)
    have hP : va_P (gD G) vwCl ((b_W (gI G) hB hT hW hEn hV) (b_sCh q14.2 (0 : Int32))) H := hP
    have hD : va_D A ((b_W (gI G) hB hT hW hEn hV) (b_sCh q14.2 (0 : Int32))) := hD
    have hok : b_ok (b_sCh q14.2 (0 : Int32)) := hok
    refine lv_aload_n hx hb dX0_lashMixed_28 rfl (lv_at hl 1 rfl) ?_
    refine lv_aload_n hx hb dX0_lashMixed_29 rfl (lv_at hl 2 rfl) ?_
    refine lv_bipush (v := 9) hx hb dX0_lashMixed_30 (by decide) ?_
    refine lv_iconst (v := 3) hx hb dX0_lashMixed_32 (by decide) ?_
    refine lv_iload_n hx hb dX0_lashMixed_33 rfl (lv_at hl 3 rfl) ?_
    refine lv_iload_n hx hb dX0_lashMixed_34 rfl (lv_at hl 4 rfl) ?_
    refine gVi (u := b_sCh q14.2 (0 : Int32)) (Wd := (b_W (gI G) hB hT hW hEn hV)) (ok := b_ok) (As := [.ref hV, .int (9 : Int32), .int (3 : Int32), .int n, .int dp]) (rest := []) ⟨hx, hb, hml, hown, hts⟩ (c_X0_askAbove l G A hB hT hW hEn hV k dp K hK (9 : Int32) (3 : Int32) n (b_sCh q14.2 (0 : Int32)) hok) (cwV 5 hts gX0_lashMixed_X0_askAbove rfl rfl rfl (by decide +kernel) ⟨by show 4 * k + 5 + 1 ≤ 4 * k + 6; omega, by show 8 + (6 + 11) + (120 * k + 86) ≤ 120 * k + 111; omega⟩) hE hP hD hS (va_recv hE.1 hP (ci := 0) (q0 := 0) rfl rfl) rfl hl.1 rfl (Nat.le_of_ble_eq_true rfl) dX0_lashMixed_35 ⟨Nat.zero_le _, Nat.zero_le _⟩ (fun q35 H locs e35 hP hD hok hS => ?_)
    exact gRi (u := q35.2) hx hb hr hlk hP hD hok hS (by rw [← hfv, f_X0_lashMixed, ← e7, f_X0_lashMixed_k7, ← e14, f_X0_lashMixed_k14, if_neg c17, ← e35, f_X0_lashMixed_k35]) dX0_lashMixed_38
  · refine lv_iload hx hb dX0_lashMixed_20 (lv_at hl 0 rfl) ?_
    exact gRi (u := q14.2) hx hb hr hlk hP hD hok hS (by rw [← hfv, f_X0_lashMixed, ← e7, f_X0_lashMixed_k7, ← e14, f_X0_lashMixed_k14, if_pos c17]) dX0_lashMixed_22
set_option maxHeartbeats 4000000 in
set_option maxRecDepth 100000 in
theorem c_X0_lashMixed (l : Launch) (G : gC) (A : Nat → Prop) (hB hT hW hEn hV : Nat) (k : Nat) (dp : Int32) (K : Int32 → Int32 → Int32 → BS → Int32 × BS) (hK : ∀ (kd mb n : Int32) (u : BS), b_ok u → CI l yX0_start wsX0_start ({ frames := 4 * k + 4, cells := 0, slots := 0, locals := 120 * k + 60 } : Room) G A (b_W (gI G) hB hT hW hEn hV) b_ok [.ref hB, .ref hV, .int kd, .int mb, .int n, .int (dp + 1)] u (K kd mb n u)) (n : Int32) (u : BS) (hok : b_ok u) : CI l yX0_lashMixed wsX0_lashMixed ({ frames := 4 * k + 6, cells := 0, slots := 0, locals := 120 * k + 111 } : Room) G A (b_W (gI G) hB hT hW hEn hV) b_ok [.ref hB, .ref hV, .int n, .int dp] u (f_X0_lashMixed K n u) := by
  refine Met.ofW (cc := cX0_lashMixed) (maxL := 5) (ret := (some .int)) (by decide) rfl ?_
  intro p e s m args below meth c s₁ B hml hv
  obtain ⟨rfl, hE, hP, hD⟩ := hv
  have hl := lv_entry ([.ref hB, .ref hV, .int n, .int dp]) (n := 5) (Nat.le_of_ble_eq_true rfl)
  rw [lg_entry_eq]
  generalize (lg_sl ([.ref hB, .ref hV, .int n, .int dp]) ++ List.replicate (5 - (lg_sl ([.ref hB, .ref hV, .int n, .int dp])).length) Slot.unset).toArray = ls at hl ⊢
  exact c_X0_lashMixed_0 l G A hB hT hW hEn hV k dp K hK ⟨⟨B.exec, B.bytes, hml, findClass_of_methodNamed B.named, atoms_spec (ws := wsX0_lashMixed) B.pre⟩, B.returns, B.notSynchronized⟩ hE n u hP hD hok va_S.rf hl rfl
