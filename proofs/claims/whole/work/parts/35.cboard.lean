-- FerryDecks.board
def f_X4_board_k182 (N : Nat) (q182 : Int32 × FS) : Int32 × FS :=
  (q182.1, q182.2)
def f_X4_board_k177 (N : Nat) (d : Int32) (q177 : FS) : Int32 × FS :=
  (f_X4_board_k182 N (f_X1_left N ((d : Int32).toNatClampNeg) q177))
def f_X4_board_w170 (N : Nat) (d : Int32) (q98 : Int32 × BS) (w170 : FS) : Int32 × FS :=
  (f_X4_board_k177 N d (f_X1_receive N ((d : Int32).toNatClampNeg) q98.1 w170))
def f_X4_board_w163 (N : Nat) (v : Int32) (d : Int32) (q98 : Int32 × BS) (w163 : FS) : Int32 × FS :=
  (f_X4_board_w170 N d q98 (c_s_mt w163 (upd (c_mt w163) ((v : Int32).toNatClampNeg) q98.1)))
def f_X4_board_w157 (N : Nat) (v : Int32) (d : Int32) (q98 : Int32 × BS) (w157 : FS) : Int32 × FS :=
  (f_X4_board_w163 N v d q98 (c_s_dk w157 (upd (c_dk w157) ((v : Int32).toNatClampNeg) d)))
def f_X4_board_k143 (N : Nat) (q143 : Int32 × FS) : Int32 × FS :=
  ((-10 : Int32) - q143.1, q143.2)
def f_X4_board_k134 (N : Nat) (v : Int32) (d : Int32) (q98 : Int32 × BS) (q125 : Int32 × BS) (q134 : Int32 × FS) : Int32 × FS :=
  (if q134.1 = 0 then (f_X4_board_w157 N v d q98 (c_s_til q134.2 ((c_til q134.2) + ((q125.1 : Int32).toInt64)))) else (f_X4_board_k143 N (f_X4_endByFailure N q134.2)))
def f_X4_board_w125 (N : Nat) (v : Int32) (d : Int32) (q98 : Int32 × BS) (q125 : Int32 × BS) (w125 : FS) : Int32 × FS :=
  (f_X4_board_k134 N v d q98 q125 (f_X0_failedC N w125))
def f_X4_board_k125 (N : Nat) (v : Int32) (d : Int32) (q98 : Int32 × BS) (q107 : Int32 × FS) (q125 : Int32 × BS) : Int32 × FS :=
  (f_X4_board_w125 N v d q98 q125 (frB q107.2 ((v : Int32).toNatClampNeg) q125.2))
def f_X4_board_k107 (N : Nat) (v : Int32) (d : Int32) (y : Int32) (q98 : Int32 × BS) (q107 : Int32 × FS) : Int32 × FS :=
  (if q98.1 ≤ q107.1 then (f_X4_board_k125 N v d q98 q107 (f_X0_answer (1 : Int32) y (toB q107.2 ((v : Int32).toNatClampNeg)))) else ((-4 : Int32), q107.2))
def f_X4_board_w98 (N : Nat) (v : Int32) (d : Int32) (y : Int32) (q98 : Int32 × BS) (w98 : FS) : Int32 × FS :=
  (f_X4_board_k107 N v d y q98 (f_X1_left N ((d : Int32).toNatClampNeg) w98))
def f_X4_board_k98 (N : Nat) (v : Int32) (d : Int32) (y : Int32) (w87 : FS) (q98 : Int32 × BS) : Int32 × FS :=
  (f_X4_board_w98 N v d y q98 (frB w87 ((v : Int32).toNatClampNeg) q98.2))
def f_X4_board_w87 (N : Nat) (v : Int32) (d : Int32) (y : Int32) (w87 : FS) : Int32 × FS :=
  (f_X4_board_k98 N v d y w87 (f_X0_answer (0 : Int32) (0 : Int32) (toB w87 ((v : Int32).toNatClampNeg))))
def f_X4_board_k79 (N : Nat) (q79 : Int32 × FS) : Int32 × FS :=
  ((-10 : Int32) - q79.1, q79.2)
def f_X4_board_k70 (N : Nat) (v : Int32) (d : Int32) (y : Int32) (q61 : Int32 × BS) (q70 : Int32 × FS) : Int32 × FS :=
  (if q70.1 = 0 then (f_X4_board_w87 N v d y (c_s_lr q70.2 q61.1)) else (f_X4_board_k79 N (f_X4_endByFailure N q70.2)))
def f_X4_board_w61 (N : Nat) (v : Int32) (d : Int32) (y : Int32) (q61 : Int32 × BS) (w61 : FS) : Int32 × FS :=
  (f_X4_board_k70 N v d y q61 (f_X0_failedC N w61))
def f_X4_board_k61 (N : Nat) (v : Int32) (d : Int32) (y : Int32) (q50 : FS) (q61 : Int32 × BS) : Int32 × FS :=
  (f_X4_board_w61 N v d y q61 (frB q50 ((v : Int32).toNatClampNeg) q61.2))
def f_X4_board_k50 (N : Nat) (v : Int32) (d : Int32) (w : Int32) (y : Int32) (q50 : FS) : Int32 × FS :=
  (f_X4_board_k61 N v d y q50 (f_X0_answer (2 : Int32) w (toB q50 ((v : Int32).toNatClampNeg))))
def f_X4_board_k29 (N : Nat) (v : Int32) (d : Int32) (w : Int32) (y : Int32) (u : FS) (q29 : Int32) : Int32 × FS :=
  (if q29 = 0 then ((-1 : Int32), u) else (if (c_dk u ((v : Int32).toNatClampNeg)) = (-1 : Int32) then (f_X4_board_k50 N v d w y (f_X4_beginAct N u)) else ((-3 : Int32), u)))
def f_X4_board (N : Nat) (v : Int32) (d : Int32) (w : Int32) (y : Int32) (u : FS) : Int32 × FS :=
  (if f_X4_within v (0 : Int32) (nI N - (1 : Int32)) = 0 then (if f_X4_within d (0 : Int32) (2 : Int32) = 0 then ((-1 : Int32), u) else ((-1 : Int32), u)) else (if f_X4_within d (0 : Int32) (2 : Int32) = 0 then ((-1 : Int32), u) else (f_X4_board_k29 N v d w y u (f_X4_within y (0 : Int32) (9 : Int32)))))
set_option maxHeartbeats 4000000 in
set_option maxRecDepth 100000 in
theorem c_X4_board_0 {p : Program} {e : Env} {s : State} {m : MethodId} {args : Array Value} {below : List Frame} {meth : Method} {c : Code} (l : Launch) (G : gC) (A : Nat → Prop) (hF hVs hDs hB hT hW hEn : Nat) (dd : Nat → Nat) (N : Nat) (ad : Nat → Nat) (hN : N ≤ 70) (C0 : gX p s m args meth c cX4_board 10 wsX4_board RX4 (some .int)) (hE : gE G A s) (v : Int32) (d : Int32) (w : Int32) (y : Int32) (u : FS) {H : Heap} {locs : List Loc} (hP : va_P (gD G) vwCl ((c_W G hF hVs hDs hB hT hW hEn dd N ad) u) H) (hD : va_D A ((c_W G hF hVs hDs hB hT hW hEn dd N ad) u)) (hok : c_ok u) (hS : va_S A s.heap H locs) {ls : Array Slot} (hl : lv_has ls 10 [(0, .ref hF), (1, .int v), (2, .int d), (3, .int w), (4, .int y)]) {fv : Int32 × FS} (hfv : f_X4_board N v d w y u = fv) : W p l e ({ frames := 90, cells := 0, slots := 0, locals := 2629 } : Room) s m args below meth c H locs 0 0 (MQ below (gQi G A (c_W G hF hVs hDs hB hT hW hEn dd N ad) c_ok fv) args s 0 0 A) (F0 m 0 ls []) := by
  obtain ⟨⟨hx, hb, hml, hown, hts⟩, hr, hlk⟩ := id C0
  have hok0 := hok
  have k0 := hts (.fieldLink RX4 100 "FerryDecks$Vehicle" "deckNumber" "I") (by decide +kernel)
  have k1 := hts (.fieldLink RX4 25 "FerryDecks" "bodies" "LFerryDecks$Bodies;") (by decide +kernel)
  have k2 := hts (.fieldLink RX4 103 "FerryDecks" "latestRisk" "I") (by decide +kernel)
  have k3 := hts (.fieldLink RX4 109 "FerryDecks" "theTill" "J") (by decide +kernel)
  have k4 := hts (.fieldLink RX4 113 "FerryDecks$Vehicle" "metres" "I") (by decide +kernel)
  have iX3 : ∀ w ∈ wsX30, w ∈ wsX4_board := by decide +kernel
  have iX4 : ∀ w ∈ wsX40, w ∈ wsX4_board := by decide +kernel
  refine lv_aload_n hx hb dX4_board_0 rfl (lv_at hl 0 rfl) ?_
  refine lv_iload_n hx hb dX4_board_1 rfl (lv_at hl 1 rfl) ?_
  refine gVq (As := [.int v]) (rest := []) ⟨hx, hb, hml, hown, hts⟩ (c_X4_vehicleAt l G A hF hVs hDs hB hT hW hEn dd N ad hN v u) (cwV 1 hts gX4_board_X4_vehicleAt rfl rfl rfl (by decide +kernel) ⟨Nat.le_of_ble_eq_true rfl, Nat.le_of_ble_eq_true rfl⟩) hE hP hD hS (va_recv hE.1 hP (ci := 4) (q0 := 0) rfl rfl) rfl hl.1 rfl (Nat.le_of_ble_eq_true rfl) dX4_board_2 ⟨Nat.zero_le _, Nat.zero_le _⟩ (fun n2 => ?_) (fun a2 n2 => ?_)
  · have c2 := vAt_none hN n2
    refine lv_astoreN (lv' := [(5, .null), (0, .ref hF), (1, .int v), (2, .int d), (3, .int w), (4, .int y)]) hx hb dX4_board_5 hl (by decide) rfl (fun ls hl => ?_)
    refine lv_aload_n hx hb dX4_board_7 rfl (lv_at hl 1 rfl) ?_
    refine lv_iload_n hx hb dX4_board_8 rfl (lv_at hl 3 rfl) ?_
    refine gVq (As := [.int d]) (rest := []) ⟨hx, hb, hml, hown, hts⟩ (c_X4_deckAt l G A hF hVs hDs hB hT hW hEn dd N ad hN d u) (cwV 1 hts gX4_board_X4_deckAt rfl rfl rfl (by decide +kernel) ⟨Nat.le_of_ble_eq_true rfl, Nat.le_of_ble_eq_true rfl⟩) hE hP hD hS (va_recv hE.1 hP (ci := 4) (q0 := 0) rfl rfl) rfl hl.1 rfl (Nat.le_of_ble_eq_true rfl) dX4_board_9 ⟨Nat.zero_le _, Nat.zero_le _⟩ (fun n9 => ?_) (fun a9 n9 => ?_)
    · have c9 := dAt_none n9
      refine lv_astoreN (lv' := [(6, .null), (5, .null), (0, .ref hF), (1, .int v), (2, .int d), (3, .int w), (4, .int y)]) hx hb dX4_board_12 hl (by decide) rfl (fun ls hl => ?_)
      refine lv_aloadN hx hb dX4_board_14 (lv_at hl 1 rfl) ?_
      refine lv_ifnullN (tgt := 35) hx hb dX4_board_16 (by decide) ?_
      refine lv_iconst (v := -1) hx hb dX4_board_35 (by decide) ?_
      exact gRi (u := u) hx hb hr hlk hP hD hok hS (by rw [← hfv, f_X4_board, if_pos c2, if_pos c9]) dX4_board_36
    · obtain ⟨c9, hjd, rfl⟩ := dAt_some n9
      refine lv_astore (lv' := [(6, .ref (dd (d : Int32).toNatClampNeg)), (5, .null), (0, .ref hF), (1, .int v), (2, .int d), (3, .int w), (4, .int y)]) hx hb dX4_board_12 hl (by decide) rfl (fun ls hl => ?_)
      refine lv_aloadN hx hb dX4_board_14 (lv_at hl 1 rfl) ?_
      refine lv_ifnullN (tgt := 35) hx hb dX4_board_16 (by decide) ?_
      refine lv_iconst (v := -1) hx hb dX4_board_35 (by decide) ?_
      exact gRi (u := u) hx hb hr hlk hP hD hok hS (by rw [← hfv, f_X4_board, if_pos c2, if_neg c9]) dX4_board_36
  · obtain ⟨c2, hjv, rfl⟩ := vAt_some hN n2
    refine lv_astore (lv' := [(5, .ref (ad (v : Int32).toNatClampNeg)), (0, .ref hF), (1, .int v), (2, .int d), (3, .int w), (4, .int y)]) hx hb dX4_board_5 hl (by decide) rfl (fun ls hl => ?_)
    refine lv_aload_n hx hb dX4_board_7 rfl (lv_at hl 1 rfl) ?_
    refine lv_iload_n hx hb dX4_board_8 rfl (lv_at hl 3 rfl) ?_
    refine gVq (As := [.int d]) (rest := []) ⟨hx, hb, hml, hown, hts⟩ (c_X4_deckAt l G A hF hVs hDs hB hT hW hEn dd N ad hN d u) (cwV 1 hts gX4_board_X4_deckAt rfl rfl rfl (by decide +kernel) ⟨Nat.le_of_ble_eq_true rfl, Nat.le_of_ble_eq_true rfl⟩) hE hP hD hS (va_recv hE.1 hP (ci := 4) (q0 := 0) rfl rfl) rfl hl.1 rfl (Nat.le_of_ble_eq_true rfl) dX4_board_9 ⟨Nat.zero_le _, Nat.zero_le _⟩ (fun n9 => ?_) (fun a9 n9 => ?_)
    · have c9 := dAt_none n9
      refine lv_astoreN (lv' := [(6, .null), (5, .ref (ad (v : Int32).toNatClampNeg)), (0, .ref hF), (1, .int v), (2, .int d), (3, .int w), (4, .int y)]) hx hb dX4_board_12 hl (by decide) rfl (fun ls hl => ?_)
      refine lv_aload hx hb dX4_board_14 (lv_at hl 1 rfl) ?_
      refine lv_ifnull hx hb dX4_board_16 ?_
      refine lv_aloadN hx hb dX4_board_19 (lv_at hl 0 rfl) ?_
      refine lv_ifnullN (tgt := 35) hx hb dX4_board_21 (by decide) ?_
      refine lv_iconst (v := -1) hx hb dX4_board_35 (by decide) ?_
      exact gRi (u := u) hx hb hr hlk hP hD hok hS (by rw [← hfv, f_X4_board, if_neg c2, if_pos c9]) dX4_board_36
    · obtain ⟨c9, hjd, rfl⟩ := dAt_some n9
      refine lv_astore (lv' := [(6, .ref (dd (d : Int32).toNatClampNeg)), (5, .ref (ad (v : Int32).toNatClampNeg)), (0, .ref hF), (1, .int v), (2, .int d), (3, .int w), (4, .int y)]) hx hb dX4_board_12 hl (by decide) rfl (fun ls hl => ?_)
      refine lv_aload hx hb dX4_board_14 (lv_at hl 1 rfl) ?_
      refine lv_ifnull hx hb dX4_board_16 ?_
      refine lv_aload hx hb dX4_board_19 (lv_at hl 0 rfl) ?_
      refine lv_ifnull hx hb dX4_board_21 ?_
      refine lv_iload hx hb dX4_board_24 (lv_at hl 6 rfl) ?_
      refine lv_iconst (v := 0) hx hb dX4_board_26 (by decide) ?_
      refine lv_bipush (v := 9) hx hb dX4_board_27 (by decide) ?_
      refine gSi (As := [.int y, .int (0 : Int32), .int (9 : Int32)]) (rest := []) ⟨hx, hb, hml, hown, hts⟩ (c_X4_within l G A y (0 : Int32) (9 : Int32)) (va_cwS 3 hts gX4_board_X4_within rfl rfl rfl (by decide +kernel) ⟨Nat.le_of_ble_eq_true rfl, Nat.le_of_ble_eq_true rfl⟩) hE hS rfl hl.1 rfl (Nat.le_of_ble_eq_true rfl) dX4_board_29 ⟨Nat.zero_le _, Nat.zero_le _⟩ (fun q29 e29 => ?_)
      refine lv_if_ne (tgt := 37) hx hb dX4_board_32 (by decide) (fun c32 => ?_) (fun c32 => ?_)
      · refine lv_aload hx hb dX4_board_37 (lv_at hl 1 rfl) ?_
        refine va_get (D := gD G) (ci := 3) (v := .int (c_dk u ((v : Int32).toNatClampNeg))) (C := RX3) (T := TX3) (N := 6) hx hb hts iX3 hown hE.1 hP (7 + 3 + (v : Int32).toNatClampNeg) (c_getV _ hjv) rfl 4 (by decide) k0 (fun _ h9 => h9) rfl dX4_board_39 ?_
        refine lv_iconst (v := -1) hx hb dX4_board_42 (by decide) ?_
        refine lv_icmp_eq (tgt := 49) hx hb dX4_board_43 (by decide) (fun c43 => ?_) (fun c43 => ?_)
        · refine lv_aload_n hx hb dX4_board_49 rfl (lv_at hl 2 rfl) ?_
          refine gVv (u := u) (Wd := (c_W G hF hVs hDs hB hT hW hEn dd N ad)) (ok := c_ok) (As := []) (rest := []) ⟨hx, hb, hml, hown, hts⟩ (c_X4_beginAct l G A hF hVs hDs hB hT hW hEn dd N ad hN u hok) (cwV 0 hts gX4_board_X4_beginAct rfl rfl rfl (by decide +kernel) ⟨Nat.le_of_ble_eq_true rfl, Nat.le_of_ble_eq_true rfl⟩) hE hP hD hS (va_recv hE.1 hP (ci := 4) (q0 := 0) rfl rfl) rfl hl.1 rfl (Nat.le_of_ble_eq_true rfl) dX4_board_50 ⟨Nat.zero_le _, Nat.zero_le _⟩ (fun q50 H locs e50 hP hD hok hS => ?_)
          refine lv_aload_n hx hb dX4_board_53 rfl (lv_at hl 2 rfl) ?_
          refine va_get (D := gD G) (ci := 4) (v := .ref hB) (C := RX4) (T := TX4) (N := 9) hx hb hts iX4 hown hE.1 hP 0 rfl rfl 3 (by decide) k1 (fun _ h9 => h9) rfl dX4_board_54 ?_
          refine lv_aload hx hb dX4_board_57 (lv_at hl 1 rfl) ?_
          refine lv_iconst (v := 2) hx hb dX4_board_59 (by decide) ?_
          refine lv_iload_n hx hb dX4_board_60 rfl (lv_at hl 5 rfl) ?_
          refine gAi (u := q50) (j := (v : Int32).toNatClampNeg) (rest := []) ⟨hx, hb, hml, hown, hts⟩ hjv (cwV 3 hts gX4_board_X0_answer rfl rfl rfl (by decide +kernel) ⟨Nat.le_of_ble_eq_true rfl, Nat.le_of_ble_eq_true rfl⟩) hE hP hD hok hS hl.1 rfl (Nat.le_of_ble_eq_true rfl) dX4_board_61 ⟨Nat.zero_le _, Nat.zero_le _⟩ (fun q61 H locs e61 hP hD hok hS => ?_)
          obtain ⟨w61, ew61⟩ : ∃ z : FS, z = frB q50 ((v : Int32).toNatClampNeg) q61.2 := ⟨_, rfl⟩
          have hP : va_P (gD G) vwCl ((c_W G hF hVs hDs hB hT hW hEn dd N ad) w61) H := by rw [ew61]; exact hP
          have hD : va_D A ((c_W G hF hVs hDs hB hT hW hEn dd N ad) w61) := by rw [ew61]; exact hD
          have hok : c_ok w61 := by rw [ew61]; exact hok
          refine lv_istore (lv' := [(7, .int q61.1), (6, .ref (dd (d : Int32).toNatClampNeg)), (5, .ref (ad (v : Int32).toNatClampNeg)), (0, .ref hF), (1, .int v), (2, .int d), (3, .int w), (4, .int y)]) hx hb dX4_board_64 hl (by decide) rfl (fun ls hl => ?_)
          refine lv_aload_n hx hb dX4_board_66 rfl (lv_at hl 3 rfl) ?_
          refine va_get (D := gD G) (ci := 4) (v := .ref hB) (C := RX4) (T := TX4) (N := 9) hx hb hts iX4 hown hE.1 hP 0 rfl rfl 3 (by decide) k1 (fun _ h9 => h9) rfl dX4_board_67 ?_
          refine gVi (u := w61) (Wd := (c_W G hF hVs hDs hB hT hW hEn dd N ad)) (ok := c_ok) (As := []) (rest := []) ⟨hx, hb, hml, hown, hts⟩ (c_X0_failedC l G A hF hVs hDs hB hT hW hEn dd N ad hN w61 hok) (cwV 0 hts gX4_board_X0_failed rfl rfl rfl (by decide +kernel) ⟨Nat.le_of_ble_eq_true rfl, Nat.le_of_ble_eq_true rfl⟩) hE hP hD hS (va_recv hE.1 hP (ci := 0) (q0 := 3) rfl rfl) rfl hl.1 rfl (Nat.le_of_ble_eq_true rfl) dX4_board_70 ⟨Nat.zero_le _, Nat.zero_le _⟩ (fun q70 H locs e70 hP hD hok hS => ?_)
          refine lv_if_eq (tgt := 84) hx hb dX4_board_73 (by decide) (fun c73 => ?_) (fun c73 => ?_)
          · refine lv_aload_n hx hb dX4_board_84 rfl (lv_at hl 3 rfl) ?_
            refine lv_iload hx hb dX4_board_85 (lv_at hl 0 rfl) ?_
            refine va_put (D := gD G) (ci := 4) (v := .int q61.1) (ty := .int) (C := RX4) (T := TX4) (N := 9) hx hb hts iX4 tyX4 tyX4_ok nmX4 hown hE.1 hP hD hS 0 rfl rfl 6 (by decide) k2 (fun _ h9 => h9) rfl (by decide +kernel) rfl rfl (Nat.le_of_ble_eq_true rfl) dX4_board_87 (fun H locs hP hD hS => ?_)
            obtain ⟨w87, ew87⟩ : ∃ z : FS, z = c_s_lr q70.2 q61.1 := ⟨_, rfl⟩
            have hP : va_P (gD G) vwCl ((c_W G hF hVs hDs hB hT hW hEn dd N ad) w87) H := by rw [ew87]; exact hP
            have hD : va_D A ((c_W G hF hVs hDs hB hT hW hEn dd N ad) w87) := by rw [ew87]; exact hD
            have hok : c_ok w87 := by rw [ew87]; exact hok
            refine lv_aload_n hx hb dX4_board_90 rfl (lv_at hl 3 rfl) ?_
            refine va_get (D := gD G) (ci := 4) (v := .ref hB) (C := RX4) (T := TX4) (N := 9) hx hb hts iX4 hown hE.1 hP 0 rfl rfl 3 (by decide) k1 (fun _ h9 => h9) rfl dX4_board_91 ?_
            refine lv_aload hx hb dX4_board_94 (lv_at hl 2 rfl) ?_
            refine lv_iconst (v := 0) hx hb dX4_board_96 (by decide) ?_
            refine lv_iconst (v := 0) hx hb dX4_board_97 (by decide) ?_
            refine gAi (u := w87) (j := (v : Int32).toNatClampNeg) (rest := []) ⟨hx, hb, hml, hown, hts⟩ hjv (cwV 3 hts gX4_board_X0_answer rfl rfl rfl (by decide +kernel) ⟨Nat.le_of_ble_eq_true rfl, Nat.le_of_ble_eq_true rfl⟩) hE hP hD hok hS hl.1 rfl (Nat.le_of_ble_eq_true rfl) dX4_board_98 ⟨Nat.zero_le _, Nat.zero_le _⟩ (fun q98 H locs e98 hP hD hok hS => ?_)
            obtain ⟨w98, ew98⟩ : ∃ z : FS, z = frB w87 ((v : Int32).toNatClampNeg) q98.2 := ⟨_, rfl⟩
            have hP : va_P (gD G) vwCl ((c_W G hF hVs hDs hB hT hW hEn dd N ad) w98) H := by rw [ew98]; exact hP
            have hD : va_D A ((c_W G hF hVs hDs hB hT hW hEn dd N ad) w98) := by rw [ew98]; exact hD
            have hok : c_ok w98 := by rw [ew98]; exact hok
            refine lv_istore (lv' := [(8, .int q98.1), (7, .int q61.1), (6, .ref (dd (d : Int32).toNatClampNeg)), (5, .ref (ad (v : Int32).toNatClampNeg)), (0, .ref hF), (1, .int v), (2, .int d), (3, .int w), (4, .int y)]) hx hb dX4_board_101 hl (by decide) rfl (fun ls hl => ?_)
            refine lv_iload hx hb dX4_board_103 (lv_at hl 0 rfl) ?_
            refine lv_aload hx hb dX4_board_105 (lv_at hl 2 rfl) ?_
            refine gVi (u := w98) (Wd := (c_W G hF hVs hDs hB hT hW hEn dd N ad)) (ok := c_ok) (As := []) (rest := [.int q98.1]) ⟨hx, hb, hml, hown, hts⟩ (c_X1_left l G A hF hVs hDs hB hT hW hEn dd N ad hN ((d : Int32).toNatClampNeg) hjd w98 hok) (cwV 0 hts gX4_board_X1_left rfl rfl rfl (by decide +kernel) ⟨Nat.le_of_ble_eq_true rfl, Nat.le_of_ble_eq_true rfl⟩) hE hP hD hS (va_recv hE.1 hP (ci := 1) (q0 := (7 + (d : Int32).toNatClampNeg)) rfl (c_getD _ hjd)) rfl hl.1 rfl (Nat.le_of_ble_eq_true rfl) dX4_board_107 ⟨Nat.zero_le _, Nat.zero_le _⟩ (fun q107 H locs e107 hP hD hok hS => ?_)
            refine lv_icmp_le (tgt := 116) hx hb dX4_board_110 (by decide) (fun c110 => ?_) (fun c110 => ?_)
            · refine lv_aload_n hx hb dX4_board_116 rfl (lv_at hl 4 rfl) ?_
              refine va_get (D := gD G) (ci := 4) (v := .ref hB) (C := RX4) (T := TX4) (N := 9) hx hb hts iX4 hown hE.1 hP 0 rfl rfl 3 (by decide) k1 (fun _ h9 => h9) rfl dX4_board_117 ?_
              refine lv_aload hx hb dX4_board_120 (lv_at hl 3 rfl) ?_
              refine lv_iconst (v := 1) hx hb dX4_board_122 (by decide) ?_
              refine lv_iload hx hb dX4_board_123 (lv_at hl 8 rfl) ?_
              refine gAi (u := q107.2) (j := (v : Int32).toNatClampNeg) (rest := []) ⟨hx, hb, hml, hown, hts⟩ hjv (cwV 3 hts gX4_board_X0_answer rfl rfl rfl (by decide +kernel) ⟨Nat.le_of_ble_eq_true rfl, Nat.le_of_ble_eq_true rfl⟩) hE hP hD hok hS hl.1 rfl (Nat.le_of_ble_eq_true rfl) dX4_board_125 ⟨Nat.zero_le _, Nat.zero_le _⟩ (fun q125 H locs e125 hP hD hok hS => ?_)
              obtain ⟨w125, ew125⟩ : ∃ z : FS, z = frB q107.2 ((v : Int32).toNatClampNeg) q125.2 := ⟨_, rfl⟩
              have hP : va_P (gD G) vwCl ((c_W G hF hVs hDs hB hT hW hEn dd N ad) w125) H := by rw [ew125]; exact hP
              have hD : va_D A ((c_W G hF hVs hDs hB hT hW hEn dd N ad) w125) := by rw [ew125]; exact hD
              have hok : c_ok w125 := by rw [ew125]; exact hok
              refine lv_istore (lv' := [(9, .int q125.1), (8, .int q98.1), (7, .int q61.1), (6, .ref (dd (d : Int32).toNatClampNeg)), (5, .ref (ad (v : Int32).toNatClampNeg)), (0, .ref hF), (1, .int v), (2, .int d), (3, .int w), (4, .int y)]) hx hb dX4_board_128 hl (by decide) rfl (fun ls hl => ?_)
              refine lv_aload_n hx hb dX4_board_130 rfl (lv_at hl 5 rfl) ?_
              refine va_get (D := gD G) (ci := 4) (v := .ref hB) (C := RX4) (T := TX4) (N := 9) hx hb hts iX4 hown hE.1 hP 0 rfl rfl 3 (by decide) k1 (fun _ h9 => h9) rfl dX4_board_131 ?_
              refine gVi (u := w125) (Wd := (c_W G hF hVs hDs hB hT hW hEn dd N ad)) (ok := c_ok) (As := []) (rest := []) ⟨hx, hb, hml, hown, hts⟩ (c_X0_failedC l G A hF hVs hDs hB hT hW hEn dd N ad hN w125 hok) (cwV 0 hts gX4_board_X0_failed rfl rfl rfl (by decide +kernel) ⟨Nat.le_of_ble_eq_true rfl, Nat.le_of_ble_eq_true rfl⟩) hE hP hD hS (va_recv hE.1 hP (ci := 0) (q0 := 3) rfl rfl) rfl hl.1 rfl (Nat.le_of_ble_eq_true rfl) dX4_board_134 ⟨Nat.zero_le _, Nat.zero_le _⟩ (fun q134 H locs e134 hP hD hok hS => ?_)
              refine lv_if_eq (tgt := 148) hx hb dX4_board_137 (by decide) (fun c137 => ?_) (fun c137 => ?_)
              · refine lv_aload_n hx hb dX4_board_148 rfl (lv_at hl 5 rfl) ?_
                refine lv_dup hx hb dX4_board_149 rfl ?_
                refine va_get (D := gD G) (ci := 4) (v := .long (c_til q134.2)) (C := RX4) (T := TX4) (N := 9) hx hb hts iX4 hown hE.1 hP 0 rfl rfl 8 (by decide) k3 (fun _ h9 => h9) rfl dX4_board_150 ?_
                refine lv_iload hx hb dX4_board_153 (lv_at hl 0 rfl) ?_
                refine lv_i2l (v := (q125.1 : Int32).toInt64) hx hb dX4_board_155 rfl ?_
                refine lv_ladd hx hb dX4_board_156 ?_
                refine va_put (D := gD G) (ci := 4) (v := .long ((c_til q134.2) + ((q125.1 : Int32).toInt64))) (ty := .long) (C := RX4) (T := TX4) (N := 9) hx hb hts iX4 tyX4 tyX4_ok nmX4 hown hE.1 hP hD hS 0 rfl rfl 8 (by decide) k3 (fun _ h9 => h9) rfl (by decide +kernel) rfl rfl (Nat.le_of_ble_eq_true rfl) dX4_board_157 (fun H locs hP hD hS => ?_)
                obtain ⟨w157, ew157⟩ : ∃ z : FS, z = c_s_til q134.2 ((c_til q134.2) + ((q125.1 : Int32).toInt64)) := ⟨_, rfl⟩
                have hP : va_P (gD G) vwCl ((c_W G hF hVs hDs hB hT hW hEn dd N ad) w157) H := by rw [ew157]; exact hP
                have hD : va_D A ((c_W G hF hVs hDs hB hT hW hEn dd N ad) w157) := by rw [ew157]; exact hD
                have hok : c_ok w157 := by rw [ew157]; exact hok
                refine lv_aload hx hb dX4_board_160 (lv_at hl 4 rfl) ?_
                refine lv_iload_n hx hb dX4_board_162 rfl (lv_at hl 7 rfl) ?_
                refine va_put (D := gD G) (ci := 3) (v := .int d) (ty := .int) (C := RX3) (T := TX3) (N := 6) hx hb hts iX3 tyX3 tyX3_ok nmX3 hown hE.1 hP hD hS (7 + 3 + (v : Int32).toNatClampNeg) (c_getV _ hjv) rfl 4 (by decide) k0 (fun _ h9 => h9) rfl (by decide +kernel) rfl rfl (Nat.le_of_ble_eq_true rfl) dX4_board_163 (fun H locs hP hD hS => ?_)
                obtain ⟨w163, ew163⟩ : ∃ z : FS, z = c_s_dk w157 (upd (c_dk w157) ((v : Int32).toNatClampNeg) d) := ⟨_, rfl⟩
                have hP : va_P (gD G) vwCl ((c_W G hF hVs hDs hB hT hW hEn dd N ad) w163) H := by rw [ew163, ← c_setV_dk w157 hjv d]; exact hP
                have hD : va_D A ((c_W G hF hVs hDs hB hT hW hEn dd N ad) w163) := by rw [ew163, ← c_setV_dk w157 hjv d]; exact hD
                have hok : c_ok w163 := by rw [ew163]; exact hok
                refine lv_aload hx hb dX4_board_166 (lv_at hl 4 rfl) ?_
                refine lv_iload hx hb dX4_board_168 (lv_at hl 1 rfl) ?_
                refine va_put (D := gD G) (ci := 3) (v := .int q98.1) (ty := .int) (C := RX3) (T := TX3) (N := 6) hx hb hts iX3 tyX3 tyX3_ok nmX3 hown hE.1 hP hD hS (7 + 3 + (v : Int32).toNatClampNeg) (c_getV _ hjv) rfl 5 (by decide) k4 (fun _ h9 => h9) rfl (by decide +kernel) rfl rfl (Nat.le_of_ble_eq_true rfl) dX4_board_170 (fun H locs hP hD hS => ?_)
                obtain ⟨w170, ew170⟩ : ∃ z : FS, z = c_s_mt w163 (upd (c_mt w163) ((v : Int32).toNatClampNeg) q98.1) := ⟨_, rfl⟩
                have hP : va_P (gD G) vwCl ((c_W G hF hVs hDs hB hT hW hEn dd N ad) w170) H := by rw [ew170, ← c_setV_mt w163 hjv q98.1]; exact hP
                have hD : va_D A ((c_W G hF hVs hDs hB hT hW hEn dd N ad) w170) := by rw [ew170, ← c_setV_mt w163 hjv q98.1]; exact hD
                have hok : c_ok w170 := by rw [ew170]; exact hok
                refine lv_aload hx hb dX4_board_173 (lv_at hl 3 rfl) ?_
                refine lv_iload hx hb dX4_board_175 (lv_at hl 1 rfl) ?_
                refine gVv (u := w170) (Wd := (c_W G hF hVs hDs hB hT hW hEn dd N ad)) (ok := c_ok) (As := [.int q98.1]) (rest := []) ⟨hx, hb, hml, hown, hts⟩ (c_X1_receive l G A hF hVs hDs hB hT hW hEn dd N ad hN ((d : Int32).toNatClampNeg) hjd q98.1 w170 hok) (cwV 1 hts gX4_board_X1_receive rfl rfl rfl (by decide +kernel) ⟨Nat.le_of_ble_eq_true rfl, Nat.le_of_ble_eq_true rfl⟩) hE hP hD hS (va_recv hE.1 hP (ci := 1) (q0 := (7 + (d : Int32).toNatClampNeg)) rfl (c_getD _ hjd)) rfl hl.1 rfl (Nat.le_of_ble_eq_true rfl) dX4_board_177 ⟨Nat.zero_le _, Nat.zero_le _⟩ (fun q177 H locs e177 hP hD hok hS => ?_)
                refine lv_aload hx hb dX4_board_180 (lv_at hl 3 rfl) ?_
                refine gVi (u := q177) (Wd := (c_W G hF hVs hDs hB hT hW hEn dd N ad)) (ok := c_ok) (As := []) (rest := []) ⟨hx, hb, hml, hown, hts⟩ (c_X1_left l G A hF hVs hDs hB hT hW hEn dd N ad hN ((d : Int32).toNatClampNeg) hjd q177 hok) (cwV 0 hts gX4_board_X1_left rfl rfl rfl (by decide +kernel) ⟨Nat.le_of_ble_eq_true rfl, Nat.le_of_ble_eq_true rfl⟩) hE hP hD hS (va_recv hE.1 hP (ci := 1) (q0 := (7 + (d : Int32).toNatClampNeg)) rfl (c_getD _ hjd)) rfl hl.1 rfl (Nat.le_of_ble_eq_true rfl) dX4_board_182 ⟨Nat.zero_le _, Nat.zero_le _⟩ (fun q182 H locs e182 hP hD hok hS => ?_)
                exact gRi (u := q182.2) hx hb hr hlk hP hD hok hS (by rw [← hfv, f_X4_board, if_neg c2, if_neg c9, ← e29, f_X4_board_k29, if_neg c32, if_pos c43, ← e50, f_X4_board_k50, ← e61, f_X4_board_k61, ← ew61, f_X4_board_w61, ← e70, f_X4_board_k70, if_pos c73, ← ew87, f_X4_board_w87, ← e98, f_X4_board_k98, ← ew98, f_X4_board_w98, ← e107, f_X4_board_k107, if_pos c110, ← e125, f_X4_board_k125, ← ew125, f_X4_board_w125, ← e134, f_X4_board_k134, if_pos c137, ← ew157, f_X4_board_w157, ← ew163, f_X4_board_w163, ← ew170, f_X4_board_w170, ← e177, f_X4_board_k177, ← e182, f_X4_board_k182]) dX4_board_185
              · refine lv_bipush (v := -10) hx hb dX4_board_140 (by decide) ?_
                refine lv_aload_n hx hb dX4_board_142 rfl (lv_at hl 5 rfl) ?_
                refine gVi (u := q134.2) (Wd := (c_W G hF hVs hDs hB hT hW hEn dd N ad)) (ok := c_ok) (As := []) (rest := [.int (-10 : Int32)]) ⟨hx, hb, hml, hown, hts⟩ (c_X4_endByFailure l G A hF hVs hDs hB hT hW hEn dd N ad hN q134.2 hok) (cwV 0 hts gX4_board_X4_endByFailure rfl rfl rfl (by decide +kernel) ⟨Nat.le_of_ble_eq_true rfl, Nat.le_of_ble_eq_true rfl⟩) hE hP hD hS (va_recv hE.1 hP (ci := 4) (q0 := 0) rfl rfl) rfl hl.1 rfl (Nat.le_of_ble_eq_true rfl) dX4_board_143 ⟨Nat.zero_le _, Nat.zero_le _⟩ (fun q143 H locs e143 hP hD hok hS => ?_)
                refine lv_isub hx hb dX4_board_146 ?_
                exact gRi (u := q143.2) hx hb hr hlk hP hD hok hS (by rw [← hfv, f_X4_board, if_neg c2, if_neg c9, ← e29, f_X4_board_k29, if_neg c32, if_pos c43, ← e50, f_X4_board_k50, ← e61, f_X4_board_k61, ← ew61, f_X4_board_w61, ← e70, f_X4_board_k70, if_pos c73, ← ew87, f_X4_board_w87, ← e98, f_X4_board_k98, ← ew98, f_X4_board_w98, ← e107, f_X4_board_k107, if_pos c110, ← e125, f_X4_board_k125, ← ew125, f_X4_board_w125, ← e134, f_X4_board_k134, if_neg c137, ← e143, f_X4_board_k143]) dX4_board_147
            · refine lv_bipush (v := -4) hx hb dX4_board_113 (by decide) ?_
              exact gRi (u := q107.2) hx hb hr hlk hP hD hok hS (by rw [← hfv, f_X4_board, if_neg c2, if_neg c9, ← e29, f_X4_board_k29, if_neg c32, if_pos c43, ← e50, f_X4_board_k50, ← e61, f_X4_board_k61, ← ew61, f_X4_board_w61, ← e70, f_X4_board_k70, if_pos c73, ← ew87, f_X4_board_w87, ← e98, f_X4_board_k98, ← ew98, f_X4_board_w98, ← e107, f_X4_board_k107, if_neg c110]) dX4_board_115
          · refine lv_bipush (v := -10) hx hb dX4_board_76 (by decide) ?_
            refine lv_aload_n hx hb dX4_board_78 rfl (lv_at hl 3 rfl) ?_
            refine gVi (u := q70.2) (Wd := (c_W G hF hVs hDs hB hT hW hEn dd N ad)) (ok := c_ok) (As := []) (rest := [.int (-10 : Int32)]) ⟨hx, hb, hml, hown, hts⟩ (c_X4_endByFailure l G A hF hVs hDs hB hT hW hEn dd N ad hN q70.2 hok) (cwV 0 hts gX4_board_X4_endByFailure rfl rfl rfl (by decide +kernel) ⟨Nat.le_of_ble_eq_true rfl, Nat.le_of_ble_eq_true rfl⟩) hE hP hD hS (va_recv hE.1 hP (ci := 4) (q0 := 0) rfl rfl) rfl hl.1 rfl (Nat.le_of_ble_eq_true rfl) dX4_board_79 ⟨Nat.zero_le _, Nat.zero_le _⟩ (fun q79 H locs e79 hP hD hok hS => ?_)
            refine lv_isub hx hb dX4_board_82 ?_
            exact gRi (u := q79.2) hx hb hr hlk hP hD hok hS (by rw [← hfv, f_X4_board, if_neg c2, if_neg c9, ← e29, f_X4_board_k29, if_neg c32, if_pos c43, ← e50, f_X4_board_k50, ← e61, f_X4_board_k61, ← ew61, f_X4_board_w61, ← e70, f_X4_board_k70, if_neg c73, ← e79, f_X4_board_k79]) dX4_board_83
        · refine lv_bipush (v := -3) hx hb dX4_board_46 (by decide) ?_
          exact gRi (u := u) hx hb hr hlk hP hD hok hS (by rw [← hfv, f_X4_board, if_neg c2, if_neg c9, ← e29, f_X4_board_k29, if_neg c32, if_neg c43]) dX4_board_48
      · refine lv_iconst (v := -1) hx hb dX4_board_35 (by decide) ?_
        exact gRi (u := u) hx hb hr hlk hP hD hok hS (by rw [← hfv, f_X4_board, if_neg c2, if_neg c9, ← e29, f_X4_board_k29, if_pos c32]) dX4_board_36
set_option maxHeartbeats 4000000 in
set_option maxRecDepth 100000 in
theorem c_X4_board (l : Launch) (G : gC) (A : Nat → Prop) (hF hVs hDs hB hT hW hEn : Nat) (dd : Nat → Nat) (N : Nat) (ad : Nat → Nat) (hN : N ≤ 70) (v : Int32) (d : Int32) (w : Int32) (y : Int32) (u : FS) (hok : c_ok u) : CI l yX4_board wsX4_board ({ frames := 90, cells := 0, slots := 0, locals := 2629 } : Room) G A (c_W G hF hVs hDs hB hT hW hEn dd N ad) c_ok [.ref hF, .int v, .int d, .int w, .int y] u (f_X4_board N v d w y u) := by
  refine Met.ofW (cc := cX4_board) (maxL := 10) (ret := (some .int)) (by decide) rfl ?_
  intro p e s m args below meth c s₁ B hml hv
  obtain ⟨rfl, hE, hP, hD⟩ := hv
  have hl := lv_entry ([.ref hF, .int v, .int d, .int w, .int y]) (n := 10) (Nat.le_of_ble_eq_true rfl)
  rw [lg_entry_eq]
  generalize (lg_sl ([.ref hF, .int v, .int d, .int w, .int y]) ++ List.replicate (10 - (lg_sl ([.ref hF, .int v, .int d, .int w, .int y])).length) Slot.unset).toArray = ls at hl ⊢
  exact c_X4_board_0 l G A hF hVs hDs hB hT hW hEn dd N ad hN ⟨⟨B.exec, B.bytes, hml, findClass_of_methodNamed B.named, atoms_spec (ws := wsX4_board) B.pre⟩, B.returns, B.notSynchronized⟩ hE v d w y u hP hD hok va_S.rf hl rfl
