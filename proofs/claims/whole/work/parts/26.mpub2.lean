-- FerryDecksModel.ask
def f_X5_ask_k53 (v : Int32) (q53 : Int32 × MS) : Int64 × MS :=
  (if (m_fl q53.2) = 0 then ((q53.1 : Int32).toInt64, q53.2) else ((-9223372036854775798 : Int64) + (((m_fl (m_s_fa q53.2 ((m_fa q53.2) + (1 : Int32)))) : Int32).toInt64), m_s_fa q53.2 ((m_fa q53.2) + (1 : Int32))))
def f_X5_ask_k53_1 (v : Int32) (q53 : Int32 × MS) : Int64 × MS :=
  (if (m_fl q53.2) = 0 then ((q53.1 : Int32).toInt64, q53.2) else ((-9223372036854775798 : Int64) + (((m_fl (m_s_fa q53.2 ((m_fa q53.2) + (1 : Int32)))) : Int32).toInt64), m_s_fa q53.2 ((m_fa q53.2) + (1 : Int32))))
def f_X5_ask_k39 (v : Int32) (mb : Int32) (n : Int32) (q25 : MS) (q39 : Int32) : Int64 × MS :=
  (if q39 = 0 then ((-9223372036854775807 : Int64), q25) else (f_X5_ask_k53_1 v (f_X5_asked v mb n q25)))
def f_X5_ask_k25 (v : Int32) (mb : Int32) (n : Int32) (q25 : MS) : Int64 × MS :=
  (if mb ≤ (4 : Int32) then (f_X5_ask_k53 v (f_X5_asked v mb n q25)) else (f_X5_ask_k39 v mb n q25 (f_X5_isHooked (m_kd q25 (v : Int32).toNatClampNeg))))
def f_X5_ask_k14 (v : Int32) (mb : Int32) (n : Int32) (q2 : Int32 × MS) (q14 : Int32) : Int64 × MS :=
  (if q14 = 0 then ((-9223372036854775808 : Int64), q2.2) else (f_X5_ask_k25 v mb n (f_X5_act q2.2)))
def f_X5_ask_k2 (v : Int32) (mb : Int32) (n : Int32) (q2 : Int32 × MS) : Int64 × MS :=
  (if q2.1 = 0 then ((-9223372036854775808 : Int64), q2.2) else (f_X5_ask_k14 v mb n q2 (f_X5_in ((mb : Int32).toInt64) (0 : Int64) (6 : Int64))))
def f_X5_ask (v : Int32) (mb : Int32) (n : Int32) (u : MS) : Int64 × MS :=
  (f_X5_ask_k2 v mb n (f_X5_isVehicle v u))
set_option maxHeartbeats 4000000 in
set_option maxRecDepth 100000 in
theorem c_X5_ask_0 {p : Program} {e : Env} {s : State} {m : MethodId} {args : Array Value} {below : List Frame} {meth : Method} {c : Code} (l : Launch) (G : gC) (A : Nat → Prop) (hM hTm hkd hsz hld hch hdk htk hme hte : Nat) (v : Int32) (C0 : gX p s m args meth c cX5_ask 5 wsX5_ask RX5 (some .long)) (hE : gE G A s) (mb : Int32) (n : Int32) (u : MS) {H : Heap} {locs : List Loc} (hP : va_P (gD G) vwCl ((m_W (gI G) hM hTm hkd hsz hld hch hdk htk hme hte) u) H) (hD : va_D A ((m_W (gI G) hM hTm hkd hsz hld hch hdk htk hme hte) u)) (hok : m_ok u) (hS : va_S A s.heap H locs) {ls : Array Slot} (hl : lv_has ls 5 [(0, .ref hM), (1, .int v), (2, .int mb), (3, .int n)]) {fv : Int64 × MS} (hfv : f_X5_ask v mb n u = fv) : W p l e ({ frames := 7, cells := 0, slots := 0, locals := 157 } : Room) s m args below meth c H locs 0 0 (MQ below (gQl G A (m_W (gI G) hM hTm hkd hsz hld hch hdk htk hme hte) m_ok fv) args s 0 0 A) (F0 m 0 ls []) := by
  obtain ⟨⟨hx, hb, hml, hown, hts⟩, hr, hlk⟩ := id C0
  have hok0 := hok
  have k0 := hts (.constantLong RX5 153 (-9223372036854775808)) (by decide +kernel)
  have k1 := hts (.constantLong RX5 151 (6)) (by decide +kernel)
  have k2 := hts (.fieldLink RX5 73 "FerryDecksModel" "failure" "I") (by decide +kernel)
  have k3 := hts (.fieldLink RX5 166 "FerryDecksModel" "failed" "I") (by decide +kernel)
  have k4 := hts (.constantLong RX5 169 (-9223372036854775798)) (by decide +kernel)
  have k5 := hts (.fieldLink RX5 13 "FerryDecksModel" "kinds" "[I") (by decide +kernel)
  have k6 := hts (.constantLong RX5 161 (-9223372036854775807)) (by decide +kernel)
  have iX5 : ∀ w ∈ wsX50, w ∈ wsX5_ask := by decide +kernel
  refine lv_aload_n hx hb dX5_ask_0 rfl (lv_at hl 0 rfl) ?_
  refine lv_iload_n hx hb dX5_ask_1 rfl (lv_at hl 1 rfl) ?_
  refine gVi (u := u) (Wd := (m_W (gI G) hM hTm hkd hsz hld hch hdk htk hme hte)) (ok := m_ok) (As := [.int v]) (rest := []) ⟨hx, hb, hml, hown, hts⟩ (c_X5_isVehicle l G A hM hTm hkd hsz hld hch hdk htk hme hte v u hok) (cwV 1 hts gX5_ask_X5_isVehicle rfl rfl rfl (by decide +kernel) ⟨Nat.le_of_ble_eq_true rfl, Nat.le_of_ble_eq_true rfl⟩) hE hP hD hS (va_recv hE.1 hP (ci := 5) (q0 := 0) rfl rfl) rfl hl.1 rfl (Nat.le_of_ble_eq_true rfl) dX5_ask_2 ⟨Nat.zero_le _, Nat.zero_le _⟩ (fun q2 H locs e2 hP hD hok hS => ?_)
  refine lv_if_eq (tgt := 20) hx hb dX5_ask_5 (by decide) (fun c5 => ?_) (fun c5 => ?_)
  · refine lv_ldc2 hx hb hown k0 dX5_ask_20 ?_
    exact gRl (u := q2.2) hx hb hr hlk hP hD hok hS (by rw [← hfv, f_X5_ask, ← e2, f_X5_ask_k2, if_pos c5]) dX5_ask_23
  · have hv : vp_in v 70 := isV_of hok0 (by rw [← e2]; exact c5)
    refine lv_iload_n hx hb dX5_ask_8 rfl (lv_at hl 2 rfl) ?_
    refine lv_i2l (v := (mb : Int32).toInt64) hx hb dX5_ask_9 rfl ?_
    refine lv_lconst (v := 0) hx hb dX5_ask_10 (by decide) ?_
    refine lv_ldc2 hx hb hown k1 dX5_ask_11 ?_
    refine gSi (As := [.long ((mb : Int32).toInt64), .long (0 : Int64), .long (6 : Int64)]) (rest := []) ⟨hx, hb, hml, hown, hts⟩ (c_X5_in l G A ((mb : Int32).toInt64) (0 : Int64) (6 : Int64)) (va_cwS 3 hts gX5_ask_X5_in rfl rfl rfl (by decide +kernel) ⟨Nat.le_of_ble_eq_true rfl, Nat.le_of_ble_eq_true rfl⟩) hE hS rfl hl.1 rfl (Nat.le_of_ble_eq_true rfl) dX5_ask_14 ⟨Nat.zero_le _, Nat.zero_le _⟩ (fun q14 e14 => ?_)
    refine lv_if_ne (tgt := 24) hx hb dX5_ask_17 (by decide) (fun c17 => ?_) (fun c17 => ?_)
    · refine lv_aload_n hx hb dX5_ask_24 rfl (lv_at hl 0 rfl) ?_
      refine gVv (u := q2.2) (Wd := (m_W (gI G) hM hTm hkd hsz hld hch hdk htk hme hte)) (ok := m_ok) (As := []) (rest := []) ⟨hx, hb, hml, hown, hts⟩ (c_X5_act l G A hM hTm hkd hsz hld hch hdk htk hme hte q2.2 hok) (cwV 0 hts gX5_ask_X5_act rfl rfl rfl (by decide +kernel) ⟨Nat.le_of_ble_eq_true rfl, Nat.le_of_ble_eq_true rfl⟩) hE hP hD hS (va_recv hE.1 hP (ci := 5) (q0 := 0) rfl rfl) rfl hl.1 rfl (Nat.le_of_ble_eq_true rfl) dX5_ask_25 ⟨Nat.zero_le _, Nat.zero_le _⟩ (fun q25 H locs e25 hP hD hok hS => ?_)
      refine lv_iload_n hx hb dX5_ask_28 rfl (lv_at hl 2 rfl) ?_
      refine lv_iconst (v := 4) hx hb dX5_ask_29 (by decide) ?_
      refine lv_icmp_le (tgt := 49) hx hb dX5_ask_30 (by decide) (fun c30 => ?_) (fun c30 => ?_)
      · refine lv_aload_n hx hb dX5_ask_49 rfl (lv_at hl 0 rfl) ?_
        refine lv_iload_n hx hb dX5_ask_50 rfl (lv_at hl 1 rfl) ?_
        refine lv_iload_n hx hb dX5_ask_51 rfl (lv_at hl 2 rfl) ?_
        refine lv_iload_n hx hb dX5_ask_52 rfl (lv_at hl 3 rfl) ?_
        refine gVi (u := q25) (Wd := (m_W (gI G) hM hTm hkd hsz hld hch hdk htk hme hte)) (ok := m_ok) (As := [.int v, .int mb, .int n]) (rest := []) ⟨hx, hb, hml, hown, hts⟩ (c_X5_asked l G A hM hTm hkd hsz hld hch hdk htk hme hte v hv mb n q25 hok) (cwV 3 hts gX5_ask_X5_asked rfl rfl rfl (by decide +kernel) ⟨Nat.le_of_ble_eq_true rfl, Nat.le_of_ble_eq_true rfl⟩) hE hP hD hS (va_recv hE.1 hP (ci := 5) (q0 := 0) rfl rfl) rfl hl.1 rfl (Nat.le_of_ble_eq_true rfl) dX5_ask_53 ⟨Nat.zero_le _, Nat.zero_le _⟩ (fun q53 H locs e53 hP hD hok hS => ?_)
        refine lv_istore (lv' := [(4, .int q53.1), (0, .ref hM), (1, .int v), (2, .int mb), (3, .int n)]) hx hb dX5_ask_56 hl (by decide) rfl (fun ls hl => ?_)
        refine lv_aload_n hx hb dX5_ask_58 rfl (lv_at hl 1 rfl) ?_
        refine va_get (D := gD G) (ci := 5) (v := .int (m_fl q53.2)) (C := RX5) (T := TX5) (N := 17) hx hb hts iX5 hown hE.1 hP 0 rfl rfl 16 (by decide) k2 (fun _ h9 => h9) rfl dX5_ask_59 ?_
        refine lv_if_eq (tgt := 85) hx hb dX5_ask_62 (by decide) (fun c62 => ?_) (fun c62 => ?_)
        · refine lv_iload hx hb dX5_ask_85 (lv_at hl 0 rfl) ?_
          refine lv_i2l (v := (q53.1 : Int32).toInt64) hx hb dX5_ask_87 rfl ?_
          exact gRl (u := q53.2) hx hb hr hlk hP hD hok hS (by rw [← hfv, f_X5_ask, ← e2, f_X5_ask_k2, if_neg c5, ← e14, f_X5_ask_k14, if_neg c17, ← e25, f_X5_ask_k25, if_pos c30, ← e53, f_X5_ask_k53, if_pos c62]) dX5_ask_88
        · refine lv_aload_n hx hb dX5_ask_65 rfl (lv_at hl 1 rfl) ?_
          refine lv_dup hx hb dX5_ask_66 rfl ?_
          refine va_get (D := gD G) (ci := 5) (v := .int (m_fa q53.2)) (C := RX5) (T := TX5) (N := 17) hx hb hts iX5 hown hE.1 hP 0 rfl rfl 15 (by decide) k3 (fun _ h9 => h9) rfl dX5_ask_67 ?_
          refine lv_iconst (v := 1) hx hb dX5_ask_70 (by decide) ?_
          refine lv_iadd hx hb dX5_ask_71 ?_
          refine va_put (D := gD G) (ci := 5) (v := .int ((m_fa q53.2) + (1 : Int32))) (ty := .int) (C := RX5) (T := TX5) (N := 17) hx hb hts iX5 tyX5 tyX5_ok nmX5 hown hE.1 hP hD hS 0 rfl rfl 15 (by decide) k3 (fun _ h9 => h9) rfl (by decide +kernel) rfl rfl (Nat.le_of_ble_eq_true rfl) dX5_ask_72 (fun H locs hP hD hS => ?_)
          have hP : va_P (gD G) vwCl ((m_W (gI G) hM hTm hkd hsz hld hch hdk htk hme hte) (m_s_fa q53.2 ((m_fa q53.2) + (1 : Int32)))) H := hP
          have hD : va_D A ((m_W (gI G) hM hTm hkd hsz hld hch hdk htk hme hte) (m_s_fa q53.2 ((m_fa q53.2) + (1 : Int32)))) := hD
          have hok : m_ok (m_s_fa q53.2 ((m_fa q53.2) + (1 : Int32))) := hok
          refine lv_ldc2 hx hb hown k4 dX5_ask_75 ?_
          refine lv_aload_n hx hb dX5_ask_78 rfl (lv_at hl 1 rfl) ?_
          refine va_get (D := gD G) (ci := 5) (v := .int (m_fl (m_s_fa q53.2 ((m_fa q53.2) + (1 : Int32))))) (C := RX5) (T := TX5) (N := 17) hx hb hts iX5 hown hE.1 hP 0 rfl rfl 16 (by decide) k2 (fun _ h9 => h9) rfl dX5_ask_79 ?_
          refine lv_i2l (v := ((m_fl (m_s_fa q53.2 ((m_fa q53.2) + (1 : Int32)))) : Int32).toInt64) hx hb dX5_ask_82 rfl ?_
          refine lv_ladd hx hb dX5_ask_83 ?_
          exact gRl (u := m_s_fa q53.2 ((m_fa q53.2) + (1 : Int32))) hx hb hr hlk hP hD hok hS (by rw [← hfv, f_X5_ask, ← e2, f_X5_ask_k2, if_neg c5, ← e14, f_X5_ask_k14, if_neg c17, ← e25, f_X5_ask_k25, if_pos c30, ← e53, f_X5_ask_k53, if_neg c62]) dX5_ask_84
      · refine lv_aload_n hx hb dX5_ask_33 rfl (lv_at hl 0 rfl) ?_
        refine va_get (D := gD G) (ci := 5) (v := .ref hkd) (C := RX5) (T := TX5) (N := 17) hx hb hts iX5 hown hE.1 hP 0 rfl rfl 2 (by decide) k5 (fun _ h9 => h9) rfl dX5_ask_34 ?_
        refine lv_iload_n hx hb dX5_ask_37 rfl (lv_at hl 1 rfl) ?_
        refine va_iald hx hb hE.1 hP 2 0 rfl rfl (hv) dX5_ask_38 ?_
        refine gSi (As := [.int (m_kd q25 (v : Int32).toNatClampNeg)]) (rest := []) ⟨hx, hb, hml, hown, hts⟩ (c_X5_isHooked l G A (m_kd q25 (v : Int32).toNatClampNeg)) (va_cwS 1 hts gX5_ask_X5_isHooked rfl rfl rfl (by decide +kernel) ⟨Nat.le_of_ble_eq_true rfl, Nat.le_of_ble_eq_true rfl⟩) hE hS rfl hl.1 rfl (Nat.le_of_ble_eq_true rfl) dX5_ask_39 ⟨Nat.zero_le _, Nat.zero_le _⟩ (fun q39 e39 => ?_)
        refine lv_if_ne (tgt := 49) hx hb dX5_ask_42 (by decide) (fun c42 => ?_) (fun c42 => ?_)
        · refine lv_aload_n hx hb dX5_ask_49 rfl (lv_at hl 0 rfl) ?_
          refine lv_iload_n hx hb dX5_ask_50 rfl (lv_at hl 1 rfl) ?_
          refine lv_iload_n hx hb dX5_ask_51 rfl (lv_at hl 2 rfl) ?_
          refine lv_iload_n hx hb dX5_ask_52 rfl (lv_at hl 3 rfl) ?_
          refine gVi (u := q25) (Wd := (m_W (gI G) hM hTm hkd hsz hld hch hdk htk hme hte)) (ok := m_ok) (As := [.int v, .int mb, .int n]) (rest := []) ⟨hx, hb, hml, hown, hts⟩ (c_X5_asked l G A hM hTm hkd hsz hld hch hdk htk hme hte v hv mb n q25 hok) (cwV 3 hts gX5_ask_X5_asked rfl rfl rfl (by decide +kernel) ⟨Nat.le_of_ble_eq_true rfl, Nat.le_of_ble_eq_true rfl⟩) hE hP hD hS (va_recv hE.1 hP (ci := 5) (q0 := 0) rfl rfl) rfl hl.1 rfl (Nat.le_of_ble_eq_true rfl) dX5_ask_53 ⟨Nat.zero_le _, Nat.zero_le _⟩ (fun q53 H locs e53 hP hD hok hS => ?_)
          refine lv_istore (lv' := [(4, .int q53.1), (0, .ref hM), (1, .int v), (2, .int mb), (3, .int n)]) hx hb dX5_ask_56 hl (by decide) rfl (fun ls hl => ?_)
          refine lv_aload_n hx hb dX5_ask_58 rfl (lv_at hl 1 rfl) ?_
          refine va_get (D := gD G) (ci := 5) (v := .int (m_fl q53.2)) (C := RX5) (T := TX5) (N := 17) hx hb hts iX5 hown hE.1 hP 0 rfl rfl 16 (by decide) k2 (fun _ h9 => h9) rfl dX5_ask_59 ?_
          refine lv_if_eq (tgt := 85) hx hb dX5_ask_62 (by decide) (fun c62 => ?_) (fun c62 => ?_)
          · refine lv_iload hx hb dX5_ask_85 (lv_at hl 0 rfl) ?_
            refine lv_i2l (v := (q53.1 : Int32).toInt64) hx hb dX5_ask_87 rfl ?_
            exact gRl (u := q53.2) hx hb hr hlk hP hD hok hS (by rw [← hfv, f_X5_ask, ← e2, f_X5_ask_k2, if_neg c5, ← e14, f_X5_ask_k14, if_neg c17, ← e25, f_X5_ask_k25, if_neg c30, ← e39, f_X5_ask_k39, if_neg c42, ← e53, f_X5_ask_k53_1, if_pos c62]) dX5_ask_88
          · refine lv_aload_n hx hb dX5_ask_65 rfl (lv_at hl 1 rfl) ?_
            refine lv_dup hx hb dX5_ask_66 rfl ?_
            refine va_get (D := gD G) (ci := 5) (v := .int (m_fa q53.2)) (C := RX5) (T := TX5) (N := 17) hx hb hts iX5 hown hE.1 hP 0 rfl rfl 15 (by decide) k3 (fun _ h9 => h9) rfl dX5_ask_67 ?_
            refine lv_iconst (v := 1) hx hb dX5_ask_70 (by decide) ?_
            refine lv_iadd hx hb dX5_ask_71 ?_
            refine va_put (D := gD G) (ci := 5) (v := .int ((m_fa q53.2) + (1 : Int32))) (ty := .int) (C := RX5) (T := TX5) (N := 17) hx hb hts iX5 tyX5 tyX5_ok nmX5 hown hE.1 hP hD hS 0 rfl rfl 15 (by decide) k3 (fun _ h9 => h9) rfl (by decide +kernel) rfl rfl (Nat.le_of_ble_eq_true rfl) dX5_ask_72 (fun H locs hP hD hS => ?_)
            have hP : va_P (gD G) vwCl ((m_W (gI G) hM hTm hkd hsz hld hch hdk htk hme hte) (m_s_fa q53.2 ((m_fa q53.2) + (1 : Int32)))) H := hP
            have hD : va_D A ((m_W (gI G) hM hTm hkd hsz hld hch hdk htk hme hte) (m_s_fa q53.2 ((m_fa q53.2) + (1 : Int32)))) := hD
            have hok : m_ok (m_s_fa q53.2 ((m_fa q53.2) + (1 : Int32))) := hok
            refine lv_ldc2 hx hb hown k4 dX5_ask_75 ?_
            refine lv_aload_n hx hb dX5_ask_78 rfl (lv_at hl 1 rfl) ?_
            refine va_get (D := gD G) (ci := 5) (v := .int (m_fl (m_s_fa q53.2 ((m_fa q53.2) + (1 : Int32))))) (C := RX5) (T := TX5) (N := 17) hx hb hts iX5 hown hE.1 hP 0 rfl rfl 16 (by decide) k2 (fun _ h9 => h9) rfl dX5_ask_79 ?_
            refine lv_i2l (v := ((m_fl (m_s_fa q53.2 ((m_fa q53.2) + (1 : Int32)))) : Int32).toInt64) hx hb dX5_ask_82 rfl ?_
            refine lv_ladd hx hb dX5_ask_83 ?_
            exact gRl (u := m_s_fa q53.2 ((m_fa q53.2) + (1 : Int32))) hx hb hr hlk hP hD hok hS (by rw [← hfv, f_X5_ask, ← e2, f_X5_ask_k2, if_neg c5, ← e14, f_X5_ask_k14, if_neg c17, ← e25, f_X5_ask_k25, if_neg c30, ← e39, f_X5_ask_k39, if_neg c42, ← e53, f_X5_ask_k53_1, if_neg c62]) dX5_ask_84
        · refine lv_ldc2 hx hb hown k6 dX5_ask_45 ?_
          exact gRl (u := q25) hx hb hr hlk hP hD hok hS (by rw [← hfv, f_X5_ask, ← e2, f_X5_ask_k2, if_neg c5, ← e14, f_X5_ask_k14, if_neg c17, ← e25, f_X5_ask_k25, if_neg c30, ← e39, f_X5_ask_k39, if_pos c42]) dX5_ask_48
    · refine lv_ldc2 hx hb hown k0 dX5_ask_20 ?_
      exact gRl (u := q2.2) hx hb hr hlk hP hD hok hS (by rw [← hfv, f_X5_ask, ← e2, f_X5_ask_k2, if_neg c5, ← e14, f_X5_ask_k14, if_pos c17]) dX5_ask_23
set_option maxHeartbeats 4000000 in
set_option maxRecDepth 100000 in
theorem c_X5_ask (l : Launch) (G : gC) (A : Nat → Prop) (hM hTm hkd hsz hld hch hdk htk hme hte : Nat) (v : Int32) (mb : Int32) (n : Int32) (u : MS) (hok : m_ok u) : CL l yX5_ask wsX5_ask ({ frames := 7, cells := 0, slots := 0, locals := 157 } : Room) G A (m_W (gI G) hM hTm hkd hsz hld hch hdk htk hme hte) m_ok [.ref hM, .int v, .int mb, .int n] u (f_X5_ask v mb n u) := by
  refine Met.ofW (cc := cX5_ask) (maxL := 5) (ret := (some .long)) (by decide) rfl ?_
  intro p e s m args below meth c s₁ B hml hv
  obtain ⟨rfl, hE, hP, hD⟩ := hv
  have hl := lv_entry ([.ref hM, .int v, .int mb, .int n]) (n := 5) (Nat.le_of_ble_eq_true rfl)
  rw [lg_entry_eq]
  generalize (lg_sl ([.ref hM, .int v, .int mb, .int n]) ++ List.replicate (5 - (lg_sl ([.ref hM, .int v, .int mb, .int n])).length) Slot.unset).toArray = ls at hl ⊢
  exact c_X5_ask_0 l G A hM hTm hkd hsz hld hch hdk htk hme hte v ⟨⟨B.exec, B.bytes, hml, findClass_of_methodNamed B.named, atoms_spec (ws := wsX5_ask) B.pre⟩, B.returns, B.notSynchronized⟩ hE mb n u hP hD hok va_S.rf hl rfl

-- FerryDecksModel.pull
def f_X5_pull_k33 (v : Int32) (q33 : Int32 × MS) : Int32 × MS :=
  ((1 : Int32), m_s_pl q33.2 q33.1)
def f_X5_pull_k20 (v : Int32) (n : Int32) (q11 : MS) (q20 : Int32) : Int32 × MS :=
  (if q20 = 0 then ((-5 : Int32), q11) else (f_X5_pull_k33 v (f_X5_pulls v n q11)))
def f_X5_pull_k11 (v : Int32) (n : Int32) (q11 : MS) : Int32 × MS :=
  (f_X5_pull_k20 v n q11 (f_X5_isHooked (m_kd q11 (v : Int32).toNatClampNeg)))
def f_X5_pull_k2 (v : Int32) (n : Int32) (q2 : Int32 × MS) : Int32 × MS :=
  (if q2.1 = 0 then ((-1 : Int32), q2.2) else (f_X5_pull_k11 v n (f_X5_act q2.2)))
def f_X5_pull (v : Int32) (n : Int32) (u : MS) : Int32 × MS :=
  (f_X5_pull_k2 v n (f_X5_isVehicle v u))
set_option maxHeartbeats 4000000 in
set_option maxRecDepth 100000 in
theorem c_X5_pull_0 {p : Program} {e : Env} {s : State} {m : MethodId} {args : Array Value} {below : List Frame} {meth : Method} {c : Code} (l : Launch) (G : gC) (A : Nat → Prop) (hM hTm hkd hsz hld hch hdk htk hme hte : Nat) (v : Int32) (C0 : gX p s m args meth c cX5_pull 3 wsX5_pull RX5 (some .int)) (hE : gE G A s) (n : Int32) (u : MS) {H : Heap} {locs : List Loc} (hP : va_P (gD G) vwCl ((m_W (gI G) hM hTm hkd hsz hld hch hdk htk hme hte) u) H) (hD : va_D A ((m_W (gI G) hM hTm hkd hsz hld hch hdk htk hme hte) u)) (hok : m_ok u) (hS : va_S A s.heap H locs) {ls : Array Slot} (hl : lv_has ls 3 [(0, .ref hM), (1, .int v), (2, .int n)]) {fv : Int32 × MS} (hfv : f_X5_pull v n u = fv) : W p l e ({ frames := 3, cells := 0, slots := 0, locals := 73 } : Room) s m args below meth c H locs 0 0 (MQ below (gQi G A (m_W (gI G) hM hTm hkd hsz hld hch hdk htk hme hte) m_ok fv) args s 0 0 A) (F0 m 0 ls []) := by
  obtain ⟨⟨hx, hb, hml, hown, hts⟩, hr, hlk⟩ := id C0
  have hok0 := hok
  have k0 := hts (.fieldLink RX5 13 "FerryDecksModel" "kinds" "[I") (by decide +kernel)
  have k1 := hts (.fieldLink RX5 178 "FerryDecksModel" "pulled" "I") (by decide +kernel)
  have iX5 : ∀ w ∈ wsX50, w ∈ wsX5_pull := by decide +kernel
  refine lv_aload_n hx hb dX5_pull_0 rfl (lv_at hl 0 rfl) ?_
  refine lv_iload_n hx hb dX5_pull_1 rfl (lv_at hl 1 rfl) ?_
  refine gVi (u := u) (Wd := (m_W (gI G) hM hTm hkd hsz hld hch hdk htk hme hte)) (ok := m_ok) (As := [.int v]) (rest := []) ⟨hx, hb, hml, hown, hts⟩ (c_X5_isVehicle l G A hM hTm hkd hsz hld hch hdk htk hme hte v u hok) (cwV 1 hts gX5_pull_X5_isVehicle rfl rfl rfl (by decide +kernel) ⟨Nat.le_of_ble_eq_true rfl, Nat.le_of_ble_eq_true rfl⟩) hE hP hD hS (va_recv hE.1 hP (ci := 5) (q0 := 0) rfl rfl) rfl hl.1 rfl (Nat.le_of_ble_eq_true rfl) dX5_pull_2 ⟨Nat.zero_le _, Nat.zero_le _⟩ (fun q2 H locs e2 hP hD hok hS => ?_)
  refine lv_if_ne (tgt := 10) hx hb dX5_pull_5 (by decide) (fun c5 => ?_) (fun c5 => ?_)
  · have hv : vp_in v 70 := isV_of hok0 (by rw [← e2]; exact c5)
    refine lv_aload_n hx hb dX5_pull_10 rfl (lv_at hl 0 rfl) ?_
    refine gVv (u := q2.2) (Wd := (m_W (gI G) hM hTm hkd hsz hld hch hdk htk hme hte)) (ok := m_ok) (As := []) (rest := []) ⟨hx, hb, hml, hown, hts⟩ (c_X5_act l G A hM hTm hkd hsz hld hch hdk htk hme hte q2.2 hok) (cwV 0 hts gX5_pull_X5_act rfl rfl rfl (by decide +kernel) ⟨Nat.le_of_ble_eq_true rfl, Nat.le_of_ble_eq_true rfl⟩) hE hP hD hS (va_recv hE.1 hP (ci := 5) (q0 := 0) rfl rfl) rfl hl.1 rfl (Nat.le_of_ble_eq_true rfl) dX5_pull_11 ⟨Nat.zero_le _, Nat.zero_le _⟩ (fun q11 H locs e11 hP hD hok hS => ?_)
    refine lv_aload_n hx hb dX5_pull_14 rfl (lv_at hl 0 rfl) ?_
    refine va_get (D := gD G) (ci := 5) (v := .ref hkd) (C := RX5) (T := TX5) (N := 17) hx hb hts iX5 hown hE.1 hP 0 rfl rfl 2 (by decide) k0 (fun _ h9 => h9) rfl dX5_pull_15 ?_
    refine lv_iload_n hx hb dX5_pull_18 rfl (lv_at hl 1 rfl) ?_
    refine va_iald hx hb hE.1 hP 2 0 rfl rfl (hv) dX5_pull_19 ?_
    refine gSi (As := [.int (m_kd q11 (v : Int32).toNatClampNeg)]) (rest := []) ⟨hx, hb, hml, hown, hts⟩ (c_X5_isHooked l G A (m_kd q11 (v : Int32).toNatClampNeg)) (va_cwS 1 hts gX5_pull_X5_isHooked rfl rfl rfl (by decide +kernel) ⟨Nat.le_of_ble_eq_true rfl, Nat.le_of_ble_eq_true rfl⟩) hE hS rfl hl.1 rfl (Nat.le_of_ble_eq_true rfl) dX5_pull_20 ⟨Nat.zero_le _, Nat.zero_le _⟩ (fun q20 e20 => ?_)
    refine lv_if_ne (tgt := 29) hx hb dX5_pull_23 (by decide) (fun c23 => ?_) (fun c23 => ?_)
    · refine lv_aload_n hx hb dX5_pull_29 rfl (lv_at hl 0 rfl) ?_
      refine lv_aload_n hx hb dX5_pull_30 rfl (lv_at hl 0 rfl) ?_
      refine lv_iload_n hx hb dX5_pull_31 rfl (lv_at hl 1 rfl) ?_
      refine lv_iload_n hx hb dX5_pull_32 rfl (lv_at hl 2 rfl) ?_
      refine gVi (u := q11) (Wd := (m_W (gI G) hM hTm hkd hsz hld hch hdk htk hme hte)) (ok := m_ok) (As := [.int v, .int n]) (rest := [.ref hM]) ⟨hx, hb, hml, hown, hts⟩ (c_X5_pulls l G A hM hTm hkd hsz hld hch hdk htk hme hte v hv n q11 hok) (cwV 2 hts gX5_pull_X5_pulls rfl rfl rfl (by decide +kernel) ⟨Nat.le_of_ble_eq_true rfl, Nat.le_of_ble_eq_true rfl⟩) hE hP hD hS (va_recv hE.1 hP (ci := 5) (q0 := 0) rfl rfl) rfl hl.1 rfl (Nat.le_of_ble_eq_true rfl) dX5_pull_33 ⟨Nat.zero_le _, Nat.zero_le _⟩ (fun q33 H locs e33 hP hD hok hS => ?_)
      refine va_put (D := gD G) (ci := 5) (v := .int q33.1) (ty := .int) (C := RX5) (T := TX5) (N := 17) hx hb hts iX5 tyX5 tyX5_ok nmX5 hown hE.1 hP hD hS 0 rfl rfl 11 (by decide) k1 (fun _ h9 => h9) rfl (by decide +kernel) rfl rfl (Nat.le_of_ble_eq_true rfl) dX5_pull_36 (fun H locs hP hD hS => ?_)
      have hP : va_P (gD G) vwCl ((m_W (gI G) hM hTm hkd hsz hld hch hdk htk hme hte) (m_s_pl q33.2 q33.1)) H := hP
      have hD : va_D A ((m_W (gI G) hM hTm hkd hsz hld hch hdk htk hme hte) (m_s_pl q33.2 q33.1)) := hD
      have hok : m_ok (m_s_pl q33.2 q33.1) := hok
      refine lv_iconst (v := 1) hx hb dX5_pull_39 (by decide) ?_
      exact gRi (u := m_s_pl q33.2 q33.1) hx hb hr hlk hP hD hok hS (by rw [← hfv, f_X5_pull, ← e2, f_X5_pull_k2, if_neg c5, ← e11, f_X5_pull_k11, ← e20, f_X5_pull_k20, if_neg c23, ← e33, f_X5_pull_k33]) dX5_pull_40
    · refine lv_bipush (v := -5) hx hb dX5_pull_26 (by decide) ?_
      exact gRi (u := q11) hx hb hr hlk hP hD hok hS (by rw [← hfv, f_X5_pull, ← e2, f_X5_pull_k2, if_neg c5, ← e11, f_X5_pull_k11, ← e20, f_X5_pull_k20, if_pos c23]) dX5_pull_28
  · refine lv_iconst (v := -1) hx hb dX5_pull_8 (by decide) ?_
    exact gRi (u := q2.2) hx hb hr hlk hP hD hok hS (by rw [← hfv, f_X5_pull, ← e2, f_X5_pull_k2, if_pos c5]) dX5_pull_9
set_option maxHeartbeats 4000000 in
set_option maxRecDepth 100000 in
theorem c_X5_pull (l : Launch) (G : gC) (A : Nat → Prop) (hM hTm hkd hsz hld hch hdk htk hme hte : Nat) (v : Int32) (n : Int32) (u : MS) (hok : m_ok u) : CI l yX5_pull wsX5_pull ({ frames := 3, cells := 0, slots := 0, locals := 73 } : Room) G A (m_W (gI G) hM hTm hkd hsz hld hch hdk htk hme hte) m_ok [.ref hM, .int v, .int n] u (f_X5_pull v n u) := by
  refine Met.ofW (cc := cX5_pull) (maxL := 3) (ret := (some .int)) (by decide) rfl ?_
  intro p e s m args below meth c s₁ B hml hv
  obtain ⟨rfl, hE, hP, hD⟩ := hv
  have hl := lv_entry ([.ref hM, .int v, .int n]) (n := 3) (Nat.le_of_ble_eq_true rfl)
  rw [lg_entry_eq]
  generalize (lg_sl ([.ref hM, .int v, .int n]) ++ List.replicate (3 - (lg_sl ([.ref hM, .int v, .int n])).length) Slot.unset).toArray = ls at hl ⊢
  exact c_X5_pull_0 l G A hM hTm hkd hsz hld hch hdk htk hme hte v ⟨⟨B.exec, B.bytes, hml, findClass_of_methodNamed B.named, atoms_spec (ws := wsX5_pull) B.pre⟩, B.returns, B.notSynchronized⟩ hE n u hP hD hok va_S.rf hl rfl
