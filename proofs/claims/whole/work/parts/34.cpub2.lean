-- FerryDecks.pull
def f_X4_pull_w42 (N : Nat) (w42 : FS) : Int32 × FS :=
  ((1 : Int32), w42)
def f_X4_pull_w39 (N : Nat) (q39 : Int32 × BS) (w39 : FS) : Int32 × FS :=
  (f_X4_pull_w42 N (c_s_lp w39 q39.1))
def f_X4_pull_k39 (N : Nat) (v : Int32) (q13 : FS) (q39 : Int32 × BS) : Int32 × FS :=
  (f_X4_pull_w39 N q39 (frB q13 ((v : Int32).toNatClampNeg) q39.2))
def f_X4_pull_k21 (N : Nat) (v : Int32) (n : Int32) (q13 : FS) (q21 : Int32) : Int32 × FS :=
  (if q21 = (-1 : Int32) then ((-5 : Int32), q13) else (f_X4_pull_k39 N v q13 (f_X0_answer (5 : Int32) n (toB q13 ((v : Int32).toNatClampNeg)))))
def f_X4_pull_k13 (N : Nat) (v : Int32) (n : Int32) (q13 : FS) : Int32 × FS :=
  (f_X4_pull_k21 N v n q13 (f_X4_ownerOf (5 : Int32) (c_kd q13 ((v : Int32).toNatClampNeg))))
def f_X4_pull (N : Nat) (v : Int32) (n : Int32) (u : FS) : Int32 × FS :=
  (if f_X4_within v (0 : Int32) (nI N - (1 : Int32)) = 0 then ((-1 : Int32), u) else (f_X4_pull_k13 N v n (f_X4_beginAct N u)))
set_option maxHeartbeats 4000000 in
set_option maxRecDepth 100000 in
theorem c_X4_pull_0 {p : Program} {e : Env} {s : State} {m : MethodId} {args : Array Value} {below : List Frame} {meth : Method} {c : Code} (l : Launch) (G : gC) (A : Nat → Prop) (hF hVs hDs hB hT hW hEn : Nat) (dd : Nat → Nat) (N : Nat) (ad : Nat → Nat) (hN : N ≤ 70) (C0 : gX p s m args meth c cX4_pull 4 wsX4_pull RX4 (some .int)) (hE : gE G A s) (v : Int32) (n : Int32) (u : FS) {H : Heap} {locs : List Loc} (hP : va_P (gD G) vwCl ((c_W G hF hVs hDs hB hT hW hEn dd N ad) u) H) (hD : va_D A ((c_W G hF hVs hDs hB hT hW hEn dd N ad) u)) (hok : c_ok u) (hS : va_S A s.heap H locs) {ls : Array Slot} (hl : lv_has ls 4 [(0, .ref hF), (1, .int v), (2, .int n)]) {fv : Int32 × FS} (hfv : f_X4_pull N v n u = fv) : W p l e ({ frames := 90, cells := 0, slots := 0, locals := 2629 } : Room) s m args below meth c H locs 0 0 (MQ below (gQi G A (c_W G hF hVs hDs hB hT hW hEn dd N ad) c_ok fv) args s 0 0 A) (F0 m 0 ls []) := by
  obtain ⟨⟨hx, hb, hml, hown, hts⟩, hr, hlk⟩ := id C0
  have hok0 := hok
  have k0 := hts (.fieldLink RX4 64 "FerryDecks$Vehicle" "kind" "I") (by decide +kernel)
  have k1 := hts (.fieldLink RX4 25 "FerryDecks" "bodies" "LFerryDecks$Bodies;") (by decide +kernel)
  have k2 := hts (.fieldLink RX4 124 "FerryDecks" "latestPull" "I") (by decide +kernel)
  have iX3 : ∀ w ∈ wsX30, w ∈ wsX4_pull := by decide +kernel
  have iX4 : ∀ w ∈ wsX40, w ∈ wsX4_pull := by decide +kernel
  refine lv_aload_n hx hb dX4_pull_0 rfl (lv_at hl 0 rfl) ?_
  refine lv_iload_n hx hb dX4_pull_1 rfl (lv_at hl 1 rfl) ?_
  refine gVq (As := [.int v]) (rest := []) ⟨hx, hb, hml, hown, hts⟩ (c_X4_vehicleAt l G A hF hVs hDs hB hT hW hEn dd N ad hN v u) (cwV 1 hts gX4_pull_X4_vehicleAt rfl rfl rfl (by decide +kernel) ⟨Nat.le_of_ble_eq_true rfl, Nat.le_of_ble_eq_true rfl⟩) hE hP hD hS (va_recv hE.1 hP (ci := 4) (q0 := 0) rfl rfl) rfl hl.1 rfl (Nat.le_of_ble_eq_true rfl) dX4_pull_2 ⟨Nat.zero_le _, Nat.zero_le _⟩ (fun n2 => ?_) (fun a2 n2 => ?_)
  · have c2 := vAt_none hN n2
    refine lv_astore_nN (lv' := [(3, .null), (0, .ref hF), (1, .int v), (2, .int n)]) hx hb dX4_pull_5 rfl hl (by decide) rfl (fun ls hl => ?_)
    refine lv_aload_nN hx hb dX4_pull_6 rfl (lv_at hl 0 rfl) ?_
    refine lv_ifnonnullN hx hb dX4_pull_7 ?_
    refine lv_iconst (v := -1) hx hb dX4_pull_10 (by decide) ?_
    exact gRi (u := u) hx hb hr hlk hP hD hok hS (by rw [← hfv, f_X4_pull, if_pos c2]) dX4_pull_11
  · obtain ⟨c2, hjv, rfl⟩ := vAt_some hN n2
    refine lv_astore_n (lv' := [(3, .ref (ad (v : Int32).toNatClampNeg)), (0, .ref hF), (1, .int v), (2, .int n)]) hx hb dX4_pull_5 rfl hl (by decide) rfl (fun ls hl => ?_)
    refine lv_aload_n hx hb dX4_pull_6 rfl (lv_at hl 0 rfl) ?_
    refine lv_ifnonnull (tgt := 12) hx hb dX4_pull_7 (by decide) ?_
    refine lv_aload_n hx hb dX4_pull_12 rfl (lv_at hl 1 rfl) ?_
    refine gVv (u := u) (Wd := (c_W G hF hVs hDs hB hT hW hEn dd N ad)) (ok := c_ok) (As := []) (rest := []) ⟨hx, hb, hml, hown, hts⟩ (c_X4_beginAct l G A hF hVs hDs hB hT hW hEn dd N ad hN u hok) (cwV 0 hts gX4_pull_X4_beginAct rfl rfl rfl (by decide +kernel) ⟨Nat.le_of_ble_eq_true rfl, Nat.le_of_ble_eq_true rfl⟩) hE hP hD hS (va_recv hE.1 hP (ci := 4) (q0 := 0) rfl rfl) rfl hl.1 rfl (Nat.le_of_ble_eq_true rfl) dX4_pull_13 ⟨Nat.zero_le _, Nat.zero_le _⟩ (fun q13 H locs e13 hP hD hok hS => ?_)
    refine lv_iconst (v := 5) hx hb dX4_pull_16 (by decide) ?_
    refine lv_aload_n hx hb dX4_pull_17 rfl (lv_at hl 0 rfl) ?_
    refine va_get (D := gD G) (ci := 3) (v := .int (c_kd q13 ((v : Int32).toNatClampNeg))) (C := RX3) (T := TX3) (N := 6) hx hb hts iX3 hown hE.1 hP (7 + 3 + (v : Int32).toNatClampNeg) (c_getV _ hjv) rfl 0 (by decide) k0 (fun _ h9 => h9) rfl dX4_pull_18 ?_
    refine gSi (As := [.int (5 : Int32), .int (c_kd q13 ((v : Int32).toNatClampNeg))]) (rest := []) ⟨hx, hb, hml, hown, hts⟩ (c_X4_ownerOf l G A (5 : Int32) (c_kd q13 ((v : Int32).toNatClampNeg))) (va_cwS 2 hts gX4_pull_X4_ownerOf rfl rfl rfl (by decide +kernel) ⟨Nat.le_of_ble_eq_true rfl, Nat.le_of_ble_eq_true rfl⟩) hE hS rfl hl.1 rfl (Nat.le_of_ble_eq_true rfl) dX4_pull_21 ⟨Nat.zero_le _, Nat.zero_le _⟩ (fun q21 e21 => ?_)
    refine lv_iconst (v := -1) hx hb dX4_pull_24 (by decide) ?_
    refine lv_icmp_ne (tgt := 31) hx hb dX4_pull_25 (by decide) (fun c25 => ?_) (fun c25 => ?_)
    · refine lv_aload_n hx hb dX4_pull_31 rfl (lv_at hl 1 rfl) ?_
      refine lv_aload_n hx hb dX4_pull_32 rfl (lv_at hl 1 rfl) ?_
      refine va_get (D := gD G) (ci := 4) (v := .ref hB) (C := RX4) (T := TX4) (N := 9) hx hb hts iX4 hown hE.1 hP 0 rfl rfl 3 (by decide) k1 (fun _ h9 => h9) rfl dX4_pull_33 ?_
      refine lv_aload_n hx hb dX4_pull_36 rfl (lv_at hl 0 rfl) ?_
      refine lv_iconst (v := 5) hx hb dX4_pull_37 (by decide) ?_
      refine lv_iload_n hx hb dX4_pull_38 rfl (lv_at hl 3 rfl) ?_
      refine gAi (u := q13) (j := (v : Int32).toNatClampNeg) (rest := [.ref hF]) ⟨hx, hb, hml, hown, hts⟩ hjv (cwV 3 hts gX4_pull_X0_answer rfl rfl rfl (by decide +kernel) ⟨Nat.le_of_ble_eq_true rfl, Nat.le_of_ble_eq_true rfl⟩) hE hP hD hok hS hl.1 rfl (Nat.le_of_ble_eq_true rfl) dX4_pull_39 ⟨Nat.zero_le _, Nat.zero_le _⟩ (fun q39 H locs e39 hP hD hok hS => ?_)
      obtain ⟨w39, ew39⟩ : ∃ z : FS, z = frB q13 ((v : Int32).toNatClampNeg) q39.2 := ⟨_, rfl⟩
      have hP : va_P (gD G) vwCl ((c_W G hF hVs hDs hB hT hW hEn dd N ad) w39) H := by rw [ew39]; exact hP
      have hD : va_D A ((c_W G hF hVs hDs hB hT hW hEn dd N ad) w39) := by rw [ew39]; exact hD
      have hok : c_ok w39 := by rw [ew39]; exact hok
      refine va_put (D := gD G) (ci := 4) (v := .int q39.1) (ty := .int) (C := RX4) (T := TX4) (N := 9) hx hb hts iX4 tyX4 tyX4_ok nmX4 hown hE.1 hP hD hS 0 rfl rfl 7 (by decide) k2 (fun _ h9 => h9) rfl (by decide +kernel) rfl rfl (Nat.le_of_ble_eq_true rfl) dX4_pull_42 (fun H locs hP hD hS => ?_)
      obtain ⟨w42, ew42⟩ : ∃ z : FS, z = c_s_lp w39 q39.1 := ⟨_, rfl⟩
      have hP : va_P (gD G) vwCl ((c_W G hF hVs hDs hB hT hW hEn dd N ad) w42) H := by rw [ew42]; exact hP
      have hD : va_D A ((c_W G hF hVs hDs hB hT hW hEn dd N ad) w42) := by rw [ew42]; exact hD
      have hok : c_ok w42 := by rw [ew42]; exact hok
      refine lv_iconst (v := 1) hx hb dX4_pull_45 (by decide) ?_
      exact gRi (u := w42) hx hb hr hlk hP hD hok hS (by rw [← hfv, f_X4_pull, if_neg c2, ← e13, f_X4_pull_k13, ← e21, f_X4_pull_k21, if_neg c25, ← e39, f_X4_pull_k39, ← ew39, f_X4_pull_w39, ← ew42, f_X4_pull_w42]) dX4_pull_46
    · refine lv_bipush (v := -5) hx hb dX4_pull_28 (by decide) ?_
      exact gRi (u := q13) hx hb hr hlk hP hD hok hS (by rw [← hfv, f_X4_pull, if_neg c2, ← e13, f_X4_pull_k13, ← e21, f_X4_pull_k21, if_pos c25]) dX4_pull_30
set_option maxHeartbeats 4000000 in
set_option maxRecDepth 100000 in
theorem c_X4_pull (l : Launch) (G : gC) (A : Nat → Prop) (hF hVs hDs hB hT hW hEn : Nat) (dd : Nat → Nat) (N : Nat) (ad : Nat → Nat) (hN : N ≤ 70) (v : Int32) (n : Int32) (u : FS) (hok : c_ok u) : CI l yX4_pull wsX4_pull ({ frames := 90, cells := 0, slots := 0, locals := 2629 } : Room) G A (c_W G hF hVs hDs hB hT hW hEn dd N ad) c_ok [.ref hF, .int v, .int n] u (f_X4_pull N v n u) := by
  refine Met.ofW (cc := cX4_pull) (maxL := 4) (ret := (some .int)) (by decide) rfl ?_
  intro p e s m args below meth c s₁ B hml hv
  obtain ⟨rfl, hE, hP, hD⟩ := hv
  have hl := lv_entry ([.ref hF, .int v, .int n]) (n := 4) (Nat.le_of_ble_eq_true rfl)
  rw [lg_entry_eq]
  generalize (lg_sl ([.ref hF, .int v, .int n]) ++ List.replicate (4 - (lg_sl ([.ref hF, .int v, .int n])).length) Slot.unset).toArray = ls at hl ⊢
  exact c_X4_pull_0 l G A hF hVs hDs hB hT hW hEn dd N ad hN ⟨⟨B.exec, B.bytes, hml, findClass_of_methodNamed B.named, atoms_spec (ws := wsX4_pull) B.pre⟩, B.returns, B.notSynchronized⟩ hE v n u hP hD hok va_S.rf hl rfl

-- FerryDecks.ask
def f_X4_ask_k74 (N : Nat) (q74 : Int32 × FS) : Int64 × FS :=
  ((-9223372036854775798 : Int64) + ((q74.1 : Int32).toInt64), q74.2)
def f_X4_ask_k64 (N : Nat) (q55 : Int32 × BS) (q64 : Int32 × FS) : Int64 × FS :=
  (if q64.1 = 0 then ((q55.1 : Int32).toInt64, q64.2) else (f_X4_ask_k74 N (f_X4_endByFailure N q64.2)))
def f_X4_ask_w55 (N : Nat) (q55 : Int32 × BS) (w55 : FS) : Int64 × FS :=
  (f_X4_ask_k64 N q55 (f_X0_failedC N w55))
def f_X4_ask_k55 (N : Nat) (v : Int32) (q27 : FS) (q55 : Int32 × BS) : Int64 × FS :=
  (f_X4_ask_w55 N q55 (frB q27 ((v : Int32).toNatClampNeg) q55.2))
def f_X4_ask_k36 (N : Nat) (v : Int32) (mb : Int32) (n : Int32) (q27 : FS) (q36 : Int32) : Int64 × FS :=
  (if q36 = (-1 : Int32) then ((-9223372036854775807 : Int64), q27) else (f_X4_ask_k55 N v q27 (f_X0_answer mb n (toB q27 ((v : Int32).toNatClampNeg)))))
def f_X4_ask_k27 (N : Nat) (v : Int32) (mb : Int32) (n : Int32) (q27 : FS) : Int64 × FS :=
  (f_X4_ask_k36 N v mb n q27 (f_X4_ownerOf mb (c_kd q27 ((v : Int32).toNatClampNeg))))
def f_X4_ask_k16 (N : Nat) (v : Int32) (mb : Int32) (n : Int32) (u : FS) (q16 : Int32) : Int64 × FS :=
  (if q16 = 0 then ((-9223372036854775808 : Int64), u) else (f_X4_ask_k27 N v mb n (f_X4_beginAct N u)))
def f_X4_ask (N : Nat) (v : Int32) (mb : Int32) (n : Int32) (u : FS) : Int64 × FS :=
  (if f_X4_within v (0 : Int32) (nI N - (1 : Int32)) = 0 then ((-9223372036854775808 : Int64), u) else (f_X4_ask_k16 N v mb n u (f_X4_within mb (0 : Int32) (6 : Int32))))
set_option maxHeartbeats 4000000 in
set_option maxRecDepth 100000 in
theorem c_X4_ask_0 {p : Program} {e : Env} {s : State} {m : MethodId} {args : Array Value} {below : List Frame} {meth : Method} {c : Code} (l : Launch) (G : gC) (A : Nat → Prop) (hF hVs hDs hB hT hW hEn : Nat) (dd : Nat → Nat) (N : Nat) (ad : Nat → Nat) (hN : N ≤ 70) (C0 : gX p s m args meth c cX4_ask 6 wsX4_ask RX4 (some .long)) (hE : gE G A s) (v : Int32) (mb : Int32) (n : Int32) (u : FS) {H : Heap} {locs : List Loc} (hP : va_P (gD G) vwCl ((c_W G hF hVs hDs hB hT hW hEn dd N ad) u) H) (hD : va_D A ((c_W G hF hVs hDs hB hT hW hEn dd N ad) u)) (hok : c_ok u) (hS : va_S A s.heap H locs) {ls : Array Slot} (hl : lv_has ls 6 [(0, .ref hF), (1, .int v), (2, .int mb), (3, .int n)]) {fv : Int64 × FS} (hfv : f_X4_ask N v mb n u = fv) : W p l e ({ frames := 90, cells := 0, slots := 0, locals := 2629 } : Room) s m args below meth c H locs 0 0 (MQ below (gQl G A (c_W G hF hVs hDs hB hT hW hEn dd N ad) c_ok fv) args s 0 0 A) (F0 m 0 ls []) := by
  obtain ⟨⟨hx, hb, hml, hown, hts⟩, hr, hlk⟩ := id C0
  have hok0 := hok
  have k0 := hts (.constantLong RX4 59 (-9223372036854775808)) (by decide +kernel)
  have k1 := hts (.fieldLink RX4 64 "FerryDecks$Vehicle" "kind" "I") (by decide +kernel)
  have k2 := hts (.fieldLink RX4 25 "FerryDecks" "bodies" "LFerryDecks$Bodies;") (by decide +kernel)
  have k3 := hts (.constantLong RX4 81 (-9223372036854775798)) (by decide +kernel)
  have k4 := hts (.constantLong RX4 71 (-9223372036854775807)) (by decide +kernel)
  have iX3 : ∀ w ∈ wsX30, w ∈ wsX4_ask := by decide +kernel
  have iX4 : ∀ w ∈ wsX40, w ∈ wsX4_ask := by decide +kernel
  refine lv_aload_n hx hb dX4_ask_0 rfl (lv_at hl 0 rfl) ?_
  refine lv_iload_n hx hb dX4_ask_1 rfl (lv_at hl 1 rfl) ?_
  refine gVq (As := [.int v]) (rest := []) ⟨hx, hb, hml, hown, hts⟩ (c_X4_vehicleAt l G A hF hVs hDs hB hT hW hEn dd N ad hN v u) (cwV 1 hts gX4_ask_X4_vehicleAt rfl rfl rfl (by decide +kernel) ⟨Nat.le_of_ble_eq_true rfl, Nat.le_of_ble_eq_true rfl⟩) hE hP hD hS (va_recv hE.1 hP (ci := 4) (q0 := 0) rfl rfl) rfl hl.1 rfl (Nat.le_of_ble_eq_true rfl) dX4_ask_2 ⟨Nat.zero_le _, Nat.zero_le _⟩ (fun n2 => ?_) (fun a2 n2 => ?_)
  · have c2 := vAt_none hN n2
    refine lv_astoreN (lv' := [(4, .null), (0, .ref hF), (1, .int v), (2, .int mb), (3, .int n)]) hx hb dX4_ask_5 hl (by decide) rfl (fun ls hl => ?_)
    refine lv_aloadN hx hb dX4_ask_7 (lv_at hl 0 rfl) ?_
    refine lv_ifnullN (tgt := 22) hx hb dX4_ask_9 (by decide) ?_
    refine lv_ldc2 hx hb hown k0 dX4_ask_22 ?_
    exact gRl (u := u) hx hb hr hlk hP hD hok hS (by rw [← hfv, f_X4_ask, if_pos c2]) dX4_ask_25
  · obtain ⟨c2, hjv, rfl⟩ := vAt_some hN n2
    refine lv_astore (lv' := [(4, .ref (ad (v : Int32).toNatClampNeg)), (0, .ref hF), (1, .int v), (2, .int mb), (3, .int n)]) hx hb dX4_ask_5 hl (by decide) rfl (fun ls hl => ?_)
    refine lv_aload hx hb dX4_ask_7 (lv_at hl 0 rfl) ?_
    refine lv_ifnull hx hb dX4_ask_9 ?_
    refine lv_iload_n hx hb dX4_ask_12 rfl (lv_at hl 3 rfl) ?_
    refine lv_iconst (v := 0) hx hb dX4_ask_13 (by decide) ?_
    refine lv_bipush (v := 6) hx hb dX4_ask_14 (by decide) ?_
    refine gSi (As := [.int mb, .int (0 : Int32), .int (6 : Int32)]) (rest := []) ⟨hx, hb, hml, hown, hts⟩ (c_X4_within l G A mb (0 : Int32) (6 : Int32)) (va_cwS 3 hts gX4_ask_X4_within rfl rfl rfl (by decide +kernel) ⟨Nat.le_of_ble_eq_true rfl, Nat.le_of_ble_eq_true rfl⟩) hE hS rfl hl.1 rfl (Nat.le_of_ble_eq_true rfl) dX4_ask_16 ⟨Nat.zero_le _, Nat.zero_le _⟩ (fun q16 e16 => ?_)
    refine lv_if_ne (tgt := 26) hx hb dX4_ask_19 (by decide) (fun c19 => ?_) (fun c19 => ?_)
    · refine lv_aload_n hx hb dX4_ask_26 rfl (lv_at hl 1 rfl) ?_
      refine gVv (u := u) (Wd := (c_W G hF hVs hDs hB hT hW hEn dd N ad)) (ok := c_ok) (As := []) (rest := []) ⟨hx, hb, hml, hown, hts⟩ (c_X4_beginAct l G A hF hVs hDs hB hT hW hEn dd N ad hN u hok) (cwV 0 hts gX4_ask_X4_beginAct rfl rfl rfl (by decide +kernel) ⟨Nat.le_of_ble_eq_true rfl, Nat.le_of_ble_eq_true rfl⟩) hE hP hD hS (va_recv hE.1 hP (ci := 4) (q0 := 0) rfl rfl) rfl hl.1 rfl (Nat.le_of_ble_eq_true rfl) dX4_ask_27 ⟨Nat.zero_le _, Nat.zero_le _⟩ (fun q27 H locs e27 hP hD hok hS => ?_)
      refine lv_iload_n hx hb dX4_ask_30 rfl (lv_at hl 3 rfl) ?_
      refine lv_aload hx hb dX4_ask_31 (lv_at hl 0 rfl) ?_
      refine va_get (D := gD G) (ci := 3) (v := .int (c_kd q27 ((v : Int32).toNatClampNeg))) (C := RX3) (T := TX3) (N := 6) hx hb hts iX3 hown hE.1 hP (7 + 3 + (v : Int32).toNatClampNeg) (c_getV _ hjv) rfl 0 (by decide) k1 (fun _ h9 => h9) rfl dX4_ask_33 ?_
      refine gSi (As := [.int mb, .int (c_kd q27 ((v : Int32).toNatClampNeg))]) (rest := []) ⟨hx, hb, hml, hown, hts⟩ (c_X4_ownerOf l G A mb (c_kd q27 ((v : Int32).toNatClampNeg))) (va_cwS 2 hts gX4_ask_X4_ownerOf rfl rfl rfl (by decide +kernel) ⟨Nat.le_of_ble_eq_true rfl, Nat.le_of_ble_eq_true rfl⟩) hE hS rfl hl.1 rfl (Nat.le_of_ble_eq_true rfl) dX4_ask_36 ⟨Nat.zero_le _, Nat.zero_le _⟩ (fun q36 e36 => ?_)
      refine lv_iconst (v := -1) hx hb dX4_ask_39 (by decide) ?_
      refine lv_icmp_ne (tgt := 47) hx hb dX4_ask_40 (by decide) (fun c40 => ?_) (fun c40 => ?_)
      · refine lv_aload_n hx hb dX4_ask_47 rfl (lv_at hl 1 rfl) ?_
        refine va_get (D := gD G) (ci := 4) (v := .ref hB) (C := RX4) (T := TX4) (N := 9) hx hb hts iX4 hown hE.1 hP 0 rfl rfl 3 (by decide) k2 (fun _ h9 => h9) rfl dX4_ask_48 ?_
        refine lv_aload hx hb dX4_ask_51 (lv_at hl 0 rfl) ?_
        refine lv_iload_n hx hb dX4_ask_53 rfl (lv_at hl 3 rfl) ?_
        refine lv_iload_n hx hb dX4_ask_54 rfl (lv_at hl 4 rfl) ?_
        refine gAi (u := q27) (j := (v : Int32).toNatClampNeg) (rest := []) ⟨hx, hb, hml, hown, hts⟩ hjv (cwV 3 hts gX4_ask_X0_answer rfl rfl rfl (by decide +kernel) ⟨Nat.le_of_ble_eq_true rfl, Nat.le_of_ble_eq_true rfl⟩) hE hP hD hok hS hl.1 rfl (Nat.le_of_ble_eq_true rfl) dX4_ask_55 ⟨Nat.zero_le _, Nat.zero_le _⟩ (fun q55 H locs e55 hP hD hok hS => ?_)
        obtain ⟨w55, ew55⟩ : ∃ z : FS, z = frB q27 ((v : Int32).toNatClampNeg) q55.2 := ⟨_, rfl⟩
        have hP : va_P (gD G) vwCl ((c_W G hF hVs hDs hB hT hW hEn dd N ad) w55) H := by rw [ew55]; exact hP
        have hD : va_D A ((c_W G hF hVs hDs hB hT hW hEn dd N ad) w55) := by rw [ew55]; exact hD
        have hok : c_ok w55 := by rw [ew55]; exact hok
        refine lv_istore (lv' := [(5, .int q55.1), (4, .ref (ad (v : Int32).toNatClampNeg)), (0, .ref hF), (1, .int v), (2, .int mb), (3, .int n)]) hx hb dX4_ask_58 hl (by decide) rfl (fun ls hl => ?_)
        refine lv_aload_n hx hb dX4_ask_60 rfl (lv_at hl 2 rfl) ?_
        refine va_get (D := gD G) (ci := 4) (v := .ref hB) (C := RX4) (T := TX4) (N := 9) hx hb hts iX4 hown hE.1 hP 0 rfl rfl 3 (by decide) k2 (fun _ h9 => h9) rfl dX4_ask_61 ?_
        refine gVi (u := w55) (Wd := (c_W G hF hVs hDs hB hT hW hEn dd N ad)) (ok := c_ok) (As := []) (rest := []) ⟨hx, hb, hml, hown, hts⟩ (c_X0_failedC l G A hF hVs hDs hB hT hW hEn dd N ad hN w55 hok) (cwV 0 hts gX4_ask_X0_failed rfl rfl rfl (by decide +kernel) ⟨Nat.le_of_ble_eq_true rfl, Nat.le_of_ble_eq_true rfl⟩) hE hP hD hS (va_recv hE.1 hP (ci := 0) (q0 := 3) rfl rfl) rfl hl.1 rfl (Nat.le_of_ble_eq_true rfl) dX4_ask_64 ⟨Nat.zero_le _, Nat.zero_le _⟩ (fun q64 H locs e64 hP hD hok hS => ?_)
        refine lv_if_eq (tgt := 82) hx hb dX4_ask_67 (by decide) (fun c67 => ?_) (fun c67 => ?_)
        · refine lv_iload hx hb dX4_ask_82 (lv_at hl 0 rfl) ?_
          refine lv_i2l (v := (q55.1 : Int32).toInt64) hx hb dX4_ask_84 rfl ?_
          exact gRl (u := q64.2) hx hb hr hlk hP hD hok hS (by rw [← hfv, f_X4_ask, if_neg c2, ← e16, f_X4_ask_k16, if_neg c19, ← e27, f_X4_ask_k27, ← e36, f_X4_ask_k36, if_neg c40, ← e55, f_X4_ask_k55, ← ew55, f_X4_ask_w55, ← e64, f_X4_ask_k64, if_pos c67]) dX4_ask_85
        · refine lv_ldc2 hx hb hown k3 dX4_ask_70 ?_
          refine lv_aload_n hx hb dX4_ask_73 rfl (lv_at hl 2 rfl) ?_
          refine gVi (u := q64.2) (Wd := (c_W G hF hVs hDs hB hT hW hEn dd N ad)) (ok := c_ok) (As := []) (rest := [.long (-9223372036854775798 : Int64)]) ⟨hx, hb, hml, hown, hts⟩ (c_X4_endByFailure l G A hF hVs hDs hB hT hW hEn dd N ad hN q64.2 hok) (cwV 0 hts gX4_ask_X4_endByFailure rfl rfl rfl (by decide +kernel) ⟨Nat.le_of_ble_eq_true rfl, Nat.le_of_ble_eq_true rfl⟩) hE hP hD hS (va_recv hE.1 hP (ci := 4) (q0 := 0) rfl rfl) rfl hl.1 rfl (Nat.le_of_ble_eq_true rfl) dX4_ask_74 ⟨Nat.zero_le _, Nat.zero_le _⟩ (fun q74 H locs e74 hP hD hok hS => ?_)
          refine lv_i2l (v := (q74.1 : Int32).toInt64) hx hb dX4_ask_77 rfl ?_
          refine lv_ladd hx hb dX4_ask_78 ?_
          refine lv_goto (tgt := 85) hx hb dX4_ask_79 (by decide) ?_
          exact gRl (u := q74.2) hx hb hr hlk hP hD hok hS (by rw [← hfv, f_X4_ask, if_neg c2, ← e16, f_X4_ask_k16, if_neg c19, ← e27, f_X4_ask_k27, ← e36, f_X4_ask_k36, if_neg c40, ← e55, f_X4_ask_k55, ← ew55, f_X4_ask_w55, ← e64, f_X4_ask_k64, if_neg c67, ← e74, f_X4_ask_k74]) dX4_ask_85
      · refine lv_ldc2 hx hb hown k4 dX4_ask_43 ?_
        exact gRl (u := q27) hx hb hr hlk hP hD hok hS (by rw [← hfv, f_X4_ask, if_neg c2, ← e16, f_X4_ask_k16, if_neg c19, ← e27, f_X4_ask_k27, ← e36, f_X4_ask_k36, if_pos c40]) dX4_ask_46
    · refine lv_ldc2 hx hb hown k0 dX4_ask_22 ?_
      exact gRl (u := u) hx hb hr hlk hP hD hok hS (by rw [← hfv, f_X4_ask, if_neg c2, ← e16, f_X4_ask_k16, if_pos c19]) dX4_ask_25
set_option maxHeartbeats 4000000 in
set_option maxRecDepth 100000 in
theorem c_X4_ask (l : Launch) (G : gC) (A : Nat → Prop) (hF hVs hDs hB hT hW hEn : Nat) (dd : Nat → Nat) (N : Nat) (ad : Nat → Nat) (hN : N ≤ 70) (v : Int32) (mb : Int32) (n : Int32) (u : FS) (hok : c_ok u) : CL l yX4_ask wsX4_ask ({ frames := 90, cells := 0, slots := 0, locals := 2629 } : Room) G A (c_W G hF hVs hDs hB hT hW hEn dd N ad) c_ok [.ref hF, .int v, .int mb, .int n] u (f_X4_ask N v mb n u) := by
  refine Met.ofW (cc := cX4_ask) (maxL := 6) (ret := (some .long)) (by decide) rfl ?_
  intro p e s m args below meth c s₁ B hml hv
  obtain ⟨rfl, hE, hP, hD⟩ := hv
  have hl := lv_entry ([.ref hF, .int v, .int mb, .int n]) (n := 6) (Nat.le_of_ble_eq_true rfl)
  rw [lg_entry_eq]
  generalize (lg_sl ([.ref hF, .int v, .int mb, .int n]) ++ List.replicate (6 - (lg_sl ([.ref hF, .int v, .int mb, .int n])).length) Slot.unset).toArray = ls at hl ⊢
  exact c_X4_ask_0 l G A hF hVs hDs hB hT hW hEn dd N ad hN ⟨⟨B.exec, B.bytes, hml, findClass_of_methodNamed B.named, atoms_spec (ws := wsX4_ask) B.pre⟩, B.returns, B.notSynchronized⟩ hE v mb n u hP hD hok va_S.rf hl rfl
