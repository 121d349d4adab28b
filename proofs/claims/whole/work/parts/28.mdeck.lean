-- FerryDecksModel.deck
def f_X5_deck_k23 (dx : Int32) (x : Int32) (q23 : Int32 × MS) : Int32 × MS :=
  (if q23.1 ≤ x then (m_me q23.2 (dx : Int32).toNatClampNeg, m_s_me q23.2 (upd (m_me q23.2) (dx : Int32).toNatClampNeg x)) else ((-4 : Int32), q23.2))
def f_X5_deck_k13 (dx : Int32) (x : Int32) (u : MS) (q13 : Int32) : Int32 × MS :=
  (if q13 = 0 then ((-1 : Int32), u) else (f_X5_deck_k23 dx x (f_X5_takenOn dx u)))
def f_X5_deck_k1 (dx : Int32) (x : Int32) (u : MS) (q1 : Int32) : Int32 × MS :=
  (if q1 = 0 then ((-1 : Int32), u) else (f_X5_deck_k13 dx x u (f_X5_in ((x : Int32).toInt64) (0 : Int64) (10000 : Int64))))
def f_X5_deck (dx : Int32) (x : Int32) (u : MS) : Int32 × MS :=
  (f_X5_deck_k1 dx x u (f_X5_isDeck dx))
set_option maxHeartbeats 4000000 in
set_option maxRecDepth 100000 in
theorem c_X5_deck_0 {p : Program} {e : Env} {s : State} {m : MethodId} {args : Array Value} {below : List Frame} {meth : Method} {c : Code} (l : Launch) (G : gC) (A : Nat → Prop) (hM hTm hkd hsz hld hch hdk htk hme hte : Nat) (dx : Int32) (C0 : gX p s m args meth c cX5_deck 4 wsX5_deck RX5 (some .int)) (hE : gE G A s) (x : Int32) (u : MS) {H : Heap} {locs : List Loc} (hP : va_P (gD G) vwCl ((m_W (gI G) hM hTm hkd hsz hld hch hdk htk hme hte) u) H) (hD : va_D A ((m_W (gI G) hM hTm hkd hsz hld hch hdk htk hme hte) u)) (hok : m_ok u) (hS : va_S A s.heap H locs) {ls : Array Slot} (hl : lv_has ls 4 [(0, .ref hM), (1, .int dx), (2, .int x)]) {fv : Int32 × MS} (hfv : f_X5_deck dx x u = fv) : W p l e ({ frames := 2, cells := 0, slots := 0, locals := 45 } : Room) s m args below meth c H locs 0 0 (MQ below (gQi G A (m_W (gI G) hM hTm hkd hsz hld hch hdk htk hme hte) m_ok fv) args s 0 0 A) (F0 m 0 ls []) := by
  obtain ⟨⟨hx, hb, hml, hown, hts⟩, hr, hlk⟩ := id C0
  have hok0 := hok
  have k0 := hts (.constantLong RX5 55 (10000)) (by decide +kernel)
  have k1 := hts (.fieldLink RX5 31 "FerryDecksModel" "metres" "[I") (by decide +kernel)
  have iX5 : ∀ w ∈ wsX50, w ∈ wsX5_deck := by decide +kernel
  refine lv_iload_n hx hb dX5_deck_0 rfl (lv_at hl 1 rfl) ?_
  refine gSi (As := [.int dx]) (rest := []) ⟨hx, hb, hml, hown, hts⟩ (c_X5_isDeck l G A dx) (va_cwS 1 hts gX5_deck_X5_isDeck rfl rfl rfl (by decide +kernel) ⟨Nat.le_of_ble_eq_true rfl, Nat.le_of_ble_eq_true rfl⟩) hE hS rfl hl.1 rfl (Nat.le_of_ble_eq_true rfl) dX5_deck_1 ⟨Nat.zero_le _, Nat.zero_le _⟩ (fun q1 e1 => ?_)
  refine lv_if_eq (tgt := 19) hx hb dX5_deck_4 (by decide) (fun c4 => ?_) (fun c4 => ?_)
  · refine lv_iconst (v := -1) hx hb dX5_deck_19 (by decide) ?_
    exact gRi (u := u) hx hb hr hlk hP hD hok hS (by rw [← hfv, f_X5_deck, ← e1, f_X5_deck_k1, if_pos c4]) dX5_deck_20
  · have hd : vp_in dx 3 := isD_of (by rw [← e1]; exact c4)
    refine lv_iload_n hx hb dX5_deck_7 rfl (lv_at hl 2 rfl) ?_
    refine lv_i2l (v := (x : Int32).toInt64) hx hb dX5_deck_8 rfl ?_
    refine lv_lconst (v := 0) hx hb dX5_deck_9 (by decide) ?_
    refine lv_ldc2 hx hb hown k0 dX5_deck_10 ?_
    refine gSi (As := [.long ((x : Int32).toInt64), .long (0 : Int64), .long (10000 : Int64)]) (rest := []) ⟨hx, hb, hml, hown, hts⟩ (c_X5_in l G A ((x : Int32).toInt64) (0 : Int64) (10000 : Int64)) (va_cwS 3 hts gX5_deck_X5_in rfl rfl rfl (by decide +kernel) ⟨Nat.le_of_ble_eq_true rfl, Nat.le_of_ble_eq_true rfl⟩) hE hS rfl hl.1 rfl (Nat.le_of_ble_eq_true rfl) dX5_deck_13 ⟨Nat.zero_le _, Nat.zero_le _⟩ (fun q13 e13 => ?_)
    refine lv_if_ne (tgt := 21) hx hb dX5_deck_16 (by decide) (fun c16 => ?_) (fun c16 => ?_)
    · refine lv_aload_n hx hb dX5_deck_21 rfl (lv_at hl 0 rfl) ?_
      refine lv_iload_n hx hb dX5_deck_22 rfl (lv_at hl 1 rfl) ?_
      refine gVi (u := u) (Wd := (m_W (gI G) hM hTm hkd hsz hld hch hdk htk hme hte)) (ok := m_ok) (As := [.int dx]) (rest := []) ⟨hx, hb, hml, hown, hts⟩ (c_X5_takenOn l G A hM hTm hkd hsz hld hch hdk htk hme hte dx u hok) (cwV 1 hts gX5_deck_X5_takenOn rfl rfl rfl (by decide +kernel) ⟨Nat.le_of_ble_eq_true rfl, Nat.le_of_ble_eq_true rfl⟩) hE hP hD hS (va_recv hE.1 hP (ci := 5) (q0 := 0) rfl rfl) rfl hl.1 rfl (Nat.le_of_ble_eq_true rfl) dX5_deck_23 ⟨Nat.zero_le _, Nat.zero_le _⟩ (fun q23 H locs e23 hP hD hok hS => ?_)
      refine lv_iload_n hx hb dX5_deck_26 rfl (lv_at hl 2 rfl) ?_
      refine lv_icmp_le (tgt := 33) hx hb dX5_deck_27 (by decide) (fun c27 => ?_) (fun c27 => ?_)
      · refine lv_aload_n hx hb dX5_deck_33 rfl (lv_at hl 0 rfl) ?_
        refine va_get (D := gD G) (ci := 5) (v := .ref hme) (C := RX5) (T := TX5) (N := 17) hx hb hts iX5 hown hE.1 hP 0 rfl rfl 8 (by decide) k1 (fun _ h9 => h9) rfl dX5_deck_34 ?_
        refine lv_iload_n hx hb dX5_deck_37 rfl (lv_at hl 1 rfl) ?_
        refine va_iald hx hb hE.1 hP 8 0 rfl rfl (hd) dX5_deck_38 ?_
        refine lv_istore_n (lv' := [(3, .int (m_me q23.2 (dx : Int32).toNatClampNeg)), (0, .ref hM), (1, .int dx), (2, .int x)]) hx hb dX5_deck_39 rfl hl (by decide) rfl (fun ls hl => ?_)
        refine lv_aload_n hx hb dX5_deck_40 rfl (lv_at hl 1 rfl) ?_
        refine va_get (D := gD G) (ci := 5) (v := .ref hme) (C := RX5) (T := TX5) (N := 17) hx hb hts iX5 hown hE.1 hP 0 rfl rfl 8 (by decide) k1 (fun _ h9 => h9) rfl dX5_deck_41 ?_
        refine lv_iload_n hx hb dX5_deck_44 rfl (lv_at hl 2 rfl) ?_
        refine lv_iload_n hx hb dX5_deck_45 rfl (lv_at hl 3 rfl) ?_
        refine va_iast hx hb hE.1 hP hD hS 8 0 rfl rfl (hd) dX5_deck_46 (fun H locs hP hD hS => ?_)
        have hP : va_P (gD G) vwCl ((m_W (gI G) hM hTm hkd hsz hld hch hdk htk hme hte) (m_s_me q23.2 (upd (m_me q23.2) (dx : Int32).toNatClampNeg x))) H := hP
        have hD : va_D A ((m_W (gI G) hM hTm hkd hsz hld hch hdk htk hme hte) (m_s_me q23.2 (upd (m_me q23.2) (dx : Int32).toNatClampNeg x))) := hD
        have hok : m_ok (m_s_me q23.2 (upd (m_me q23.2) (dx : Int32).toNatClampNeg x)) := hok
        refine lv_iload_n hx hb dX5_deck_47 rfl (lv_at hl 0 rfl) ?_
        exact gRi (u := m_s_me q23.2 (upd (m_me q23.2) (dx : Int32).toNatClampNeg x)) hx hb hr hlk hP hD hok hS (by rw [← hfv, f_X5_deck, ← e1, f_X5_deck_k1, if_neg c4, ← e13, f_X5_deck_k13, if_neg c16, ← e23, f_X5_deck_k23, if_pos c27]) dX5_deck_48
      · refine lv_bipush (v := -4) hx hb dX5_deck_30 (by decide) ?_
        exact gRi (u := q23.2) hx hb hr hlk hP hD hok hS (by rw [← hfv, f_X5_deck, ← e1, f_X5_deck_k1, if_neg c4, ← e13, f_X5_deck_k13, if_neg c16, ← e23, f_X5_deck_k23, if_neg c27]) dX5_deck_32
    · refine lv_iconst (v := -1) hx hb dX5_deck_19 (by decide) ?_
      exact gRi (u := u) hx hb hr hlk hP hD hok hS (by rw [← hfv, f_X5_deck, ← e1, f_X5_deck_k1, if_neg c4, ← e13, f_X5_deck_k13, if_pos c16]) dX5_deck_20
set_option maxHeartbeats 4000000 in
set_option maxRecDepth 100000 in
theorem c_X5_deck (l : Launch) (G : gC) (A : Nat → Prop) (hM hTm hkd hsz hld hch hdk htk hme hte : Nat) (dx : Int32) (x : Int32) (u : MS) (hok : m_ok u) : CI l yX5_deck wsX5_deck ({ frames := 2, cells := 0, slots := 0, locals := 45 } : Room) G A (m_W (gI G) hM hTm hkd hsz hld hch hdk htk hme hte) m_ok [.ref hM, .int dx, .int x] u (f_X5_deck dx x u) := by
  refine Met.ofW (cc := cX5_deck) (maxL := 4) (ret := (some .int)) (by decide) rfl ?_
  intro p e s m args below meth c s₁ B hml hv
  obtain ⟨rfl, hE, hP, hD⟩ := hv
  have hl := lv_entry ([.ref hM, .int dx, .int x]) (n := 4) (Nat.le_of_ble_eq_true rfl)
  rw [lg_entry_eq]
  generalize (lg_sl ([.ref hM, .int dx, .int x]) ++ List.replicate (4 - (lg_sl ([.ref hM, .int dx, .int x])).length) Slot.unset).toArray = ls at hl ⊢
  exact c_X5_deck_0 l G A hM hTm hkd hsz hld hch hdk htk hme hte dx ⟨⟨B.exec, B.bytes, hml, findClass_of_methodNamed B.named, atoms_spec (ws := wsX5_deck) B.pre⟩, B.returns, B.notSynchronized⟩ hE x u hP hD hok va_S.rf hl rfl

-- FerryDecksModel.leave
def f_X5_leave_k53 (v : Int32) (q2 : Int32 × MS) (q53 : Int32 × MS) : Int32 × MS :=
  ((m_me (m_s_ch (m_s_tk (m_s_dk q2.2 (upd (m_dk q2.2) (v : Int32).toNatClampNeg (-1 : Int32))) (upd (m_tk (m_s_dk q2.2 (upd (m_dk q2.2) (v : Int32).toNatClampNeg (-1 : Int32)))) (v : Int32).toNatClampNeg (0 : Int32))) (upd (m_ch (m_s_tk (m_s_dk q2.2 (upd (m_dk q2.2) (v : Int32).toNatClampNeg (-1 : Int32))) (upd (m_tk (m_s_dk q2.2 (upd (m_dk q2.2) (v : Int32).toNatClampNeg (-1 : Int32)))) (v : Int32).toNatClampNeg (0 : Int32)))) (v : Int32).toNatClampNeg (0 : Int32))) ((m_dk q2.2 (v : Int32).toNatClampNeg) : Int32).toNatClampNeg) - q53.1, q53.2)
def f_X5_leave_k2 (v : Int32) (q2 : Int32 × MS) : Int32 × MS :=
  (if q2.1 = 0 then ((-1 : Int32), q2.2) else (if 0 ≤ (m_dk q2.2 (v : Int32).toNatClampNeg) then (f_X5_leave_k53 v q2 (f_X5_takenOn (m_dk q2.2 (v : Int32).toNatClampNeg) (m_s_ch (m_s_tk (m_s_dk q2.2 (upd (m_dk q2.2) (v : Int32).toNatClampNeg (-1 : Int32))) (upd (m_tk (m_s_dk q2.2 (upd (m_dk q2.2) (v : Int32).toNatClampNeg (-1 : Int32)))) (v : Int32).toNatClampNeg (0 : Int32))) (upd (m_ch (m_s_tk (m_s_dk q2.2 (upd (m_dk q2.2) (v : Int32).toNatClampNeg (-1 : Int32))) (upd (m_tk (m_s_dk q2.2 (upd (m_dk q2.2) (v : Int32).toNatClampNeg (-1 : Int32)))) (v : Int32).toNatClampNeg (0 : Int32)))) (v : Int32).toNatClampNeg (0 : Int32))))) else ((-3 : Int32), q2.2)))
def f_X5_leave (v : Int32) (u : MS) : Int32 × MS :=
  (f_X5_leave_k2 v (f_X5_isVehicle v u))
set_option maxHeartbeats 4000000 in
set_option maxRecDepth 100000 in
theorem c_X5_leave_0 {p : Program} {e : Env} {s : State} {m : MethodId} {args : Array Value} {below : List Frame} {meth : Method} {c : Code} (l : Launch) (G : gC) (A : Nat → Prop) (hM hTm hkd hsz hld hch hdk htk hme hte : Nat) (v : Int32) (C0 : gX p s m args meth c cX5_leave 3 wsX5_leave RX5 (some .int)) (hE : gE G A s) (u : MS) {H : Heap} {locs : List Loc} (hP : va_P (gD G) vwCl ((m_W (gI G) hM hTm hkd hsz hld hch hdk htk hme hte) u) H) (hD : va_D A ((m_W (gI G) hM hTm hkd hsz hld hch hdk htk hme hte) u)) (hok : m_ok u) (hS : va_S A s.heap H locs) {ls : Array Slot} (hl : lv_has ls 3 [(0, .ref hM), (1, .int v)]) {fv : Int32 × MS} (hfv : f_X5_leave v u = fv) : W p l e ({ frames := 2, cells := 0, slots := 0, locals := 46 } : Room) s m args below meth c H locs 0 0 (MQ below (gQi G A (m_W (gI G) hM hTm hkd hsz hld hch hdk htk hme hte) m_ok fv) args s 0 0 A) (F0 m 0 ls []) := by
  obtain ⟨⟨hx, hb, hml, hown, hts⟩, hr, hlk⟩ := id C0
  have hok0 := hok
  have k0 := hts (.fieldLink RX5 25 "FerryDecksModel" "decks" "[I") (by decide +kernel)
  have k1 := hts (.fieldLink RX5 28 "FerryDecksModel" "taken" "[I") (by decide +kernel)
  have k2 := hts (.fieldLink RX5 22 "FerryDecksModel" "chains" "[I") (by decide +kernel)
  have k3 := hts (.fieldLink RX5 31 "FerryDecksModel" "metres" "[I") (by decide +kernel)
  have iX5 : ∀ w ∈ wsX50, w ∈ wsX5_leave := by decide +kernel
  refine lv_aload_n hx hb dX5_leave_0 rfl (lv_at hl 0 rfl) ?_
  refine lv_iload_n hx hb dX5_leave_1 rfl (lv_at hl 1 rfl) ?_
  refine gVi (u := u) (Wd := (m_W (gI G) hM hTm hkd hsz hld hch hdk htk hme hte)) (ok := m_ok) (As := [.int v]) (rest := []) ⟨hx, hb, hml, hown, hts⟩ (c_X5_isVehicle l G A hM hTm hkd hsz hld hch hdk htk hme hte v u hok) (cwV 1 hts gX5_leave_X5_isVehicle rfl rfl rfl (by decide +kernel) ⟨Nat.le_of_ble_eq_true rfl, Nat.le_of_ble_eq_true rfl⟩) hE hP hD hS (va_recv hE.1 hP (ci := 5) (q0 := 0) rfl rfl) rfl hl.1 rfl (Nat.le_of_ble_eq_true rfl) dX5_leave_2 ⟨Nat.zero_le _, Nat.zero_le _⟩ (fun q2 H locs e2 hP hD hok hS => ?_)
  have hok1 := hok
  refine lv_if_ne (tgt := 10) hx hb dX5_leave_5 (by decide) (fun c5 => ?_) (fun c5 => ?_)
  · have hv : vp_in v 70 := isV_of hok0 (by rw [← e2]; exact c5)
    refine lv_aload_n hx hb dX5_leave_10 rfl (lv_at hl 0 rfl) ?_
    refine va_get (D := gD G) (ci := 5) (v := .ref hdk) (C := RX5) (T := TX5) (N := 17) hx hb hts iX5 hown hE.1 hP 0 rfl rfl 6 (by decide) k0 (fun _ h9 => h9) rfl dX5_leave_11 ?_
    refine lv_iload_n hx hb dX5_leave_14 rfl (lv_at hl 1 rfl) ?_
    refine va_iald hx hb hE.1 hP 6 0 rfl rfl (hv) dX5_leave_15 ?_
    refine lv_istore_n (lv' := [(2, .int (m_dk q2.2 (v : Int32).toNatClampNeg)), (0, .ref hM), (1, .int v)]) hx hb dX5_leave_16 rfl hl (by decide) rfl (fun ls hl => ?_)
    refine lv_iload_n hx hb dX5_leave_17 rfl (lv_at hl 0 rfl) ?_
    refine lv_if_ge (tgt := 24) hx hb dX5_leave_18 (by decide) (fun c18 => ?_) (fun c18 => ?_)
    · refine lv_aload_n hx hb dX5_leave_24 rfl (lv_at hl 1 rfl) ?_
      refine va_get (D := gD G) (ci := 5) (v := .ref hdk) (C := RX5) (T := TX5) (N := 17) hx hb hts iX5 hown hE.1 hP 0 rfl rfl 6 (by decide) k0 (fun _ h9 => h9) rfl dX5_leave_25 ?_
      refine lv_iload_n hx hb dX5_leave_28 rfl (lv_at hl 2 rfl) ?_
      refine lv_iconst (v := -1) hx hb dX5_leave_29 (by decide) ?_
      refine va_iast hx hb hE.1 hP hD hS 6 0 rfl rfl (hv) dX5_leave_30 (fun H locs hP hD hS => ?_)
      have hP : va_P (gD G) vwCl ((m_W (gI G) hM hTm hkd hsz hld hch hdk htk hme hte) (m_s_dk q2.2 (upd (m_dk q2.2) (v : Int32).toNatClampNeg (-1 : Int32)))) H := hP
      have hD : va_D A ((m_W (gI G) hM hTm hkd hsz hld hch hdk htk hme hte) (m_s_dk q2.2 (upd (m_dk q2.2) (v : Int32).toNatClampNeg (-1 : Int32)))) := hD
      have hok : m_ok (m_s_dk q2.2 (upd (m_dk q2.2) (v : Int32).toNatClampNeg (-1 : Int32))) := ⟨hok.1, hok.2.1, m_dkU hok.2.2 (by decide)⟩
      refine lv_aload_n hx hb dX5_leave_31 rfl (lv_at hl 1 rfl) ?_
      refine va_get (D := gD G) (ci := 5) (v := .ref htk) (C := RX5) (T := TX5) (N := 17) hx hb hts iX5 hown hE.1 hP 0 rfl rfl 7 (by decide) k1 (fun _ h9 => h9) rfl dX5_leave_32 ?_
      refine lv_iload_n hx hb dX5_leave_35 rfl (lv_at hl 2 rfl) ?_
      refine lv_iconst (v := 0) hx hb dX5_leave_36 (by decide) ?_
      refine va_iast hx hb hE.1 hP hD hS 7 0 rfl rfl (hv) dX5_leave_37 (fun H locs hP hD hS => ?_)
      have hP : va_P (gD G) vwCl ((m_W (gI G) hM hTm hkd hsz hld hch hdk htk hme hte) (m_s_tk (m_s_dk q2.2 (upd (m_dk q2.2) (v : Int32).toNatClampNeg (-1 : Int32))) (upd (m_tk (m_s_dk q2.2 (upd (m_dk q2.2) (v : Int32).toNatClampNeg (-1 : Int32)))) (v : Int32).toNatClampNeg (0 : Int32)))) H := hP
      have hD : va_D A ((m_W (gI G) hM hTm hkd hsz hld hch hdk htk hme hte) (m_s_tk (m_s_dk q2.2 (upd (m_dk q2.2) (v : Int32).toNatClampNeg (-1 : Int32))) (upd (m_tk (m_s_dk q2.2 (upd (m_dk q2.2) (v : Int32).toNatClampNeg (-1 : Int32)))) (v : Int32).toNatClampNeg (0 : Int32)))) := hD
      have hok : m_ok (m_s_tk (m_s_dk q2.2 (upd (m_dk q2.2) (v : Int32).toNatClampNeg (-1 : Int32))) (upd (m_tk (m_s_dk q2.2 (upd (m_dk q2.2) (v : Int32).toNatClampNeg (-1 : Int32)))) (v : Int32).toNatClampNeg (0 : Int32))) := hok
      refine lv_aload_n hx hb dX5_leave_38 rfl (lv_at hl 1 rfl) ?_
      refine va_get (D := gD G) (ci := 5) (v := .ref hch) (C := RX5) (T := TX5) (N := 17) hx hb hts iX5 hown hE.1 hP 0 rfl rfl 5 (by decide) k2 (fun _ h9 => h9) rfl dX5_leave_39 ?_
      refine lv_iload_n hx hb dX5_leave_42 rfl (lv_at hl 2 rfl) ?_
      refine lv_iconst (v := 0) hx hb dX5_leave_43 (by decide) ?_
      refine va_iast hx hb hE.1 hP hD hS 5 0 rfl rfl (hv) dX5_leave_44 (fun H locs hP hD hS => ?_)
      have hP : va_P (gD G) vwCl ((m_W (gI G) hM hTm hkd hsz hld hch hdk htk hme hte) (m_s_ch (m_s_tk (m_s_dk q2.2 (upd (m_dk q2.2) (v : Int32).toNatClampNeg (-1 : Int32))) (upd (m_tk (m_s_dk q2.2 (upd (m_dk q2.2) (v : Int32).toNatClampNeg (-1 : Int32)))) (v : Int32).toNatClampNeg (0 : Int32))) (upd (m_ch (m_s_tk (m_s_dk q2.2 (upd (m_dk q2.2) (v : Int32).toNatClampNeg (-1 : Int32))) (upd (m_tk (m_s_dk q2.2 (upd (m_dk q2.2) (v : Int32).toNatClampNeg (-1 : Int32)))) (v : Int32).toNatClampNeg (0 : Int32)))) (v : Int32).toNatClampNeg (0 : Int32)))) H := hP
      have hD : va_D A ((m_W (gI G) hM hTm hkd hsz hld hch hdk htk hme hte) (m_s_ch (m_s_tk (m_s_dk q2.2 (upd (m_dk q2.2) (v : Int32).toNatClampNeg (-1 : Int32))) (upd (m_tk (m_s_dk q2.2 (upd (m_dk q2.2) (v : Int32).toNatClampNeg (-1 : Int32)))) (v : Int32).toNatClampNeg (0 : Int32))) (upd (m_ch (m_s_tk (m_s_dk q2.2 (upd (m_dk q2.2) (v : Int32).toNatClampNeg (-1 : Int32))) (upd (m_tk (m_s_dk q2.2 (upd (m_dk q2.2) (v : Int32).toNatClampNeg (-1 : Int32)))) (v : Int32).toNatClampNeg (0 : Int32)))) (v : Int32).toNatClampNeg (0 : Int32)))) := hD
      have hok : m_ok (m_s_ch (m_s_tk (m_s_dk q2.2 (upd (m_dk q2.2) (v : Int32).toNatClampNeg (-1 : Int32))) (upd (m_tk (m_s_dk q2.2 (upd (m_dk q2.2) (v : Int32).toNatClampNeg (-1 : Int32)))) (v : Int32).toNatClampNeg (0 : Int32))) (upd (m_ch (m_s_tk (m_s_dk q2.2 (upd (m_dk q2.2) (v : Int32).toNatClampNeg (-1 : Int32))) (upd (m_tk (m_s_dk q2.2 (upd (m_dk q2.2) (v : Int32).toNatClampNeg (-1 : Int32)))) (v : Int32).toNatClampNeg (0 : Int32)))) (v : Int32).toNatClampNeg (0 : Int32))) := hok
      refine lv_aload_n hx hb dX5_leave_45 rfl (lv_at hl 1 rfl) ?_
      refine va_get (D := gD G) (ci := 5) (v := .ref hme) (C := RX5) (T := TX5) (N := 17) hx hb hts iX5 hown hE.1 hP 0 rfl rfl 8 (by decide) k3 (fun _ h9 => h9) rfl dX5_leave_46 ?_
      refine lv_iload_n hx hb dX5_leave_49 rfl (lv_at hl 0 rfl) ?_
      refine va_iald hx hb hE.1 hP 8 0 rfl rfl (m_dIn hok1.2.2 hv c18) dX5_leave_50 ?_
      refine lv_aload_n hx hb dX5_leave_51 rfl (lv_at hl 1 rfl) ?_
      refine lv_iload_n hx hb dX5_leave_52 rfl (lv_at hl 0 rfl) ?_
      refine gVi (u := m_s_ch (m_s_tk (m_s_dk q2.2 (upd (m_dk q2.2) (v : Int32).toNatClampNeg (-1 : Int32))) (upd (m_tk (m_s_dk q2.2 (upd (m_dk q2.2) (v : Int32).toNatClampNeg (-1 : Int32)))) (v : Int32).toNatClampNeg (0 : Int32))) (upd (m_ch (m_s_tk (m_s_dk q2.2 (upd (m_dk q2.2) (v : Int32).toNatClampNeg (-1 : Int32))) (upd (m_tk (m_s_dk q2.2 (upd (m_dk q2.2) (v : Int32).toNatClampNeg (-1 : Int32)))) (v : Int32).toNatClampNeg (0 : Int32)))) (v : Int32).toNatClampNeg (0 : Int32))) (Wd := (m_W (gI G) hM hTm hkd hsz hld hch hdk htk hme hte)) (ok := m_ok) (As := [.int (m_dk q2.2 (v : Int32).toNatClampNeg)]) (rest := [.int (m_me (m_s_ch (m_s_tk (m_s_dk q2.2 (upd (m_dk q2.2) (v : Int32).toNatClampNeg (-1 : Int32))) (upd (m_tk (m_s_dk q2.2 (upd (m_dk q2.2) (v : Int32).toNatClampNeg (-1 : Int32)))) (v : Int32).toNatClampNeg (0 : Int32))) (upd (m_ch (m_s_tk (m_s_dk q2.2 (upd (m_dk q2.2) (v : Int32).toNatClampNeg (-1 : Int32))) (upd (m_tk (m_s_dk q2.2 (upd (m_dk q2.2) (v : Int32).toNatClampNeg (-1 : Int32)))) (v : Int32).toNatClampNeg (0 : Int32)))) (v : Int32).toNatClampNeg (0 : Int32))) ((m_dk q2.2 (v : Int32).toNatClampNeg) : Int32).toNatClampNeg)]) ⟨hx, hb, hml, hown, hts⟩ (c_X5_takenOn l G A hM hTm hkd hsz hld hch hdk htk hme hte (m_dk q2.2 (v : Int32).toNatClampNeg) (m_s_ch (m_s_tk (m_s_dk q2.2 (upd (m_dk q2.2) (v : Int32).toNatClampNeg (-1 : Int32))) (upd (m_tk (m_s_dk q2.2 (upd (m_dk q2.2) (v : Int32).toNatClampNeg (-1 : Int32)))) (v : Int32).toNatClampNeg (0 : Int32))) (upd (m_ch (m_s_tk (m_s_dk q2.2 (upd (m_dk q2.2) (v : Int32).toNatClampNeg (-1 : Int32))) (upd (m_tk (m_s_dk q2.2 (upd (m_dk q2.2) (v : Int32).toNatClampNeg (-1 : Int32)))) (v : Int32).toNatClampNeg (0 : Int32)))) (v : Int32).toNatClampNeg (0 : Int32))) hok) (cwV 1 hts gX5_leave_X5_takenOn rfl rfl rfl (by decide +kernel) ⟨Nat.le_of_ble_eq_true rfl, Nat.le_of_ble_eq_true rfl⟩) hE hP hD hS (va_recv hE.1 hP (ci := 5) (q0 := 0) rfl rfl) rfl hl.1 rfl (Nat.le_of_ble_eq_true rfl) dX5_leave_53 ⟨Nat.zero_le _, Nat.zero_le _⟩ (fun q53 H locs e53 hP hD hok hS => ?_)
      refine lv_isub hx hb dX5_leave_56 ?_
      exact gRi (u := q53.2) hx hb hr hlk hP hD hok hS (by rw [← hfv, f_X5_leave, ← e2, f_X5_leave_k2, if_neg c5, if_pos c18, ← e53, f_X5_leave_k53]) dX5_leave_57
    · refine lv_bipush (v := -3) hx hb dX5_leave_21 (by decide) ?_
      exact gRi (u := q2.2) hx hb hr hlk hP hD hok hS (by rw [← hfv, f_X5_leave, ← e2, f_X5_leave_k2, if_neg c5, if_neg c18]) dX5_leave_23
  · refine lv_iconst (v := -1) hx hb dX5_leave_8 (by decide) ?_
    exact gRi (u := q2.2) hx hb hr hlk hP hD hok hS (by rw [← hfv, f_X5_leave, ← e2, f_X5_leave_k2, if_pos c5]) dX5_leave_9
set_option maxHeartbeats 4000000 in
set_option maxRecDepth 100000 in
theorem c_X5_leave (l : Launch) (G : gC) (A : Nat → Prop) (hM hTm hkd hsz hld hch hdk htk hme hte : Nat) (v : Int32) (u : MS) (hok : m_ok u) : CI l yX5_leave wsX5_leave ({ frames := 2, cells := 0, slots := 0, locals := 46 } : Room) G A (m_W (gI G) hM hTm hkd hsz hld hch hdk htk hme hte) m_ok [.ref hM, .int v] u (f_X5_leave v u) := by
  refine Met.ofW (cc := cX5_leave) (maxL := 3) (ret := (some .int)) (by decide) rfl ?_
  intro p e s m args below meth c s₁ B hml hv
  obtain ⟨rfl, hE, hP, hD⟩ := hv
  have hl := lv_entry ([.ref hM, .int v]) (n := 3) (Nat.le_of_ble_eq_true rfl)
  rw [lg_entry_eq]
  generalize (lg_sl ([.ref hM, .int v]) ++ List.replicate (3 - (lg_sl ([.ref hM, .int v])).length) Slot.unset).toArray = ls at hl ⊢
  exact c_X5_leave_0 l G A hM hTm hkd hsz hld hch hdk htk hme hte v ⟨⟨B.exec, B.bytes, hml, findClass_of_methodNamed B.named, atoms_spec (ws := wsX5_leave) B.pre⟩, B.returns, B.notSynchronized⟩ hE u hP hD hok va_S.rf hl rfl

-- FerryDecksModel.board
def f_X5_board_k181 (v dx : Int32) (q87 : Int32 × MS) (q116 : Int32 × MS) (q181 : Int32 × MS) : Int32 × MS :=
  ((m_me (m_s_tk (m_s_dk (m_s_til q116.2 ((m_til q116.2) + ((q116.1 : Int32).toInt64))) (upd (m_dk (m_s_til q116.2 ((m_til q116.2) + ((q116.1 : Int32).toInt64)))) (v : Int32).toNatClampNeg dx)) (upd (m_tk (m_s_dk (m_s_til q116.2 ((m_til q116.2) + ((q116.1 : Int32).toInt64))) (upd (m_dk (m_s_til q116.2 ((m_til q116.2) + ((q116.1 : Int32).toInt64)))) (v : Int32).toNatClampNeg dx))) (v : Int32).toNatClampNeg q87.1)) (dx : Int32).toNatClampNeg) - q181.1, q181.2)
def f_X5_board_k116 (v dx : Int32) (q87 : Int32 × MS) (q116 : Int32 × MS) : Int32 × MS :=
  (if (m_fl q116.2) = 0 then (f_X5_board_k181 v dx q87 q116 (f_X5_takenOn dx (m_s_tk (m_s_dk (m_s_til q116.2 ((m_til q116.2) + ((q116.1 : Int32).toInt64))) (upd (m_dk (m_s_til q116.2 ((m_til q116.2) + ((q116.1 : Int32).toInt64)))) (v : Int32).toNatClampNeg dx)) (upd (m_tk (m_s_dk (m_s_til q116.2 ((m_til q116.2) + ((q116.1 : Int32).toInt64))) (upd (m_dk (m_s_til q116.2 ((m_til q116.2) + ((q116.1 : Int32).toInt64)))) (v : Int32).toNatClampNeg dx))) (v : Int32).toNatClampNeg q87.1)))) else ((-10 : Int32) - (m_fl (m_s_fa q116.2 ((m_fa q116.2) + (1 : Int32)))), m_s_fa q116.2 ((m_fa q116.2) + (1 : Int32))))
def f_X5_board_k102 (v dx : Int32) (y : Int32) (q87 : Int32 × MS) (q102 : Int32 × MS) : Int32 × MS :=
  (if q87.1 ≤ ((m_me q87.2 (dx : Int32).toNatClampNeg) - q102.1) then (f_X5_board_k116 v dx q87 (f_X5_fee v y q102.2)) else ((-4 : Int32), q102.2))
def f_X5_board_k87 (v dx : Int32) (y : Int32) (q87 : Int32 × MS) : Int32 × MS :=
  (f_X5_board_k102 v dx y q87 (f_X5_takenOn dx q87.2))
def f_X5_board_k49 (v dx : Int32) (y : Int32) (q49 : Int32 × MS) : Int32 × MS :=
  (if (m_fl q49.2) = 0 then (f_X5_board_k87 v dx y (f_X5_length v (m_s_rk q49.2 q49.1))) else ((-10 : Int32) - (m_fl (m_s_fa q49.2 ((m_fa q49.2) + (1 : Int32)))), m_s_fa q49.2 ((m_fa q49.2) + (1 : Int32))))
def f_X5_board_k43 (v dx : Int32) (w : Int32) (y : Int32) (q43 : MS) : Int32 × MS :=
  (f_X5_board_k49 v dx y (f_X5_riskOf v w q43))
def f_X5_board_k22 (v dx : Int32) (w : Int32) (y : Int32) (q2 : Int32 × MS) (q22 : Int32) : Int32 × MS :=
  (if q22 = 0 then ((-1 : Int32), q2.2) else (if (m_dk q2.2 (v : Int32).toNatClampNeg) < 0 then (f_X5_board_k43 v dx w y (f_X5_act q2.2)) else ((-3 : Int32), q2.2)))
def f_X5_board_k9 (v dx : Int32) (w : Int32) (y : Int32) (q2 : Int32 × MS) (q9 : Int32) : Int32 × MS :=
  (if q9 = 0 then ((-1 : Int32), q2.2) else (f_X5_board_k22 v dx w y q2 (f_X5_in ((y : Int32).toInt64) (0 : Int64) (9 : Int64))))
def f_X5_board_k2 (v dx : Int32) (w : Int32) (y : Int32) (q2 : Int32 × MS) : Int32 × MS :=
  (if q2.1 = 0 then ((-1 : Int32), q2.2) else (f_X5_board_k9 v dx w y q2 (f_X5_isDeck dx)))
def f_X5_board (v dx : Int32) (w : Int32) (y : Int32) (u : MS) : Int32 × MS :=
  (f_X5_board_k2 v dx w y (f_X5_isVehicle v u))
set_option maxHeartbeats 4000000 in
set_option maxRecDepth 100000 in
theorem c_X5_board_0 {p : Program} {e : Env} {s : State} {m : MethodId} {args : Array Value} {below : List Frame} {meth : Method} {c : Code} (l : Launch) (G : gC) (A : Nat → Prop) (hM hTm hkd hsz hld hch hdk htk hme hte : Nat) (v dx : Int32) (C0 : gX p s m args meth c cX5_board 8 wsX5_board RX5 (some .int)) (hE : gE G A s) (w : Int32) (y : Int32) (u : MS) {H : Heap} {locs : List Loc} (hP : va_P (gD G) vwCl ((m_W (gI G) hM hTm hkd hsz hld hch hdk htk hme hte) u) H) (hD : va_D A ((m_W (gI G) hM hTm hkd hsz hld hch hdk htk hme hte) u)) (hok : m_ok u) (hS : va_S A s.heap H locs) {ls : Array Slot} (hl : lv_has ls 8 [(0, .ref hM), (1, .int v), (2, .int dx), (3, .int w), (4, .int y)]) {fv : Int32 × MS} (hfv : f_X5_board v dx w y u = fv) : W p l e ({ frames := 6, cells := 0, slots := 0, locals := 134 } : Room) s m args below meth c H locs 0 0 (MQ below (gQi G A (m_W (gI G) hM hTm hkd hsz hld hch hdk htk hme hte) m_ok fv) args s 0 0 A) (F0 m 0 ls []) := by
  obtain ⟨⟨hx, hb, hml, hown, hts⟩, hr, hlk⟩ := id C0
  have hok0 := hok
  have k0 := hts (.constantLong RX5 61 (9)) (by decide +kernel)
  have k1 := hts (.fieldLink RX5 25 "FerryDecksModel" "decks" "[I") (by decide +kernel)
  have k2 := hts (.fieldLink RX5 73 "FerryDecksModel" "failure" "I") (by decide +kernel)
  have k3 := hts (.fieldLink RX5 171 "FerryDecksModel" "risk" "I") (by decide +kernel)
  have k4 := hts (.fieldLink RX5 31 "FerryDecksModel" "metres" "[I") (by decide +kernel)
  have k5 := hts (.fieldLink RX5 174 "FerryDecksModel" "till" "J") (by decide +kernel)
  have k6 := hts (.fieldLink RX5 28 "FerryDecksModel" "taken" "[I") (by decide +kernel)
  have k7 := hts (.fieldLink RX5 166 "FerryDecksModel" "failed" "I") (by decide +kernel)
  have iX5 : ∀ w ∈ wsX50, w ∈ wsX5_board := by decide +kernel
  refine lv_aload_n hx hb dX5_board_0 rfl (lv_at hl 0 rfl) ?_
  refine lv_iload_n hx hb dX5_board_1 rfl (lv_at hl 1 rfl) ?_
  refine gVi (u := u) (Wd := (m_W (gI G) hM hTm hkd hsz hld hch hdk htk hme hte)) (ok := m_ok) (As := [.int v]) (rest := []) ⟨hx, hb, hml, hown, hts⟩ (c_X5_isVehicle l G A hM hTm hkd hsz hld hch hdk htk hme hte v u hok) (cwV 1 hts gX5_board_X5_isVehicle rfl rfl rfl (by decide +kernel) ⟨Nat.le_of_ble_eq_true rfl, Nat.le_of_ble_eq_true rfl⟩) hE hP hD hS (va_recv hE.1 hP (ci := 5) (q0 := 0) rfl rfl) rfl hl.1 rfl (Nat.le_of_ble_eq_true rfl) dX5_board_2 ⟨Nat.zero_le _, Nat.zero_le _⟩ (fun q2 H locs e2 hP hD hok hS => ?_)
  refine lv_if_eq (tgt := 28) hx hb dX5_board_5 (by decide) (fun c5 => ?_) (fun c5 => ?_)
  · refine lv_iconst (v := -1) hx hb dX5_board_28 (by decide) ?_
    exact gRi (u := q2.2) hx hb hr hlk hP hD hok hS (by rw [← hfv, f_X5_board, ← e2, f_X5_board_k2, if_pos c5]) dX5_board_29
  · have hv : vp_in v 70 := isV_of hok0 (by rw [← e2]; exact c5)
    refine lv_iload_n hx hb dX5_board_8 rfl (lv_at hl 2 rfl) ?_
    refine gSi (As := [.int dx]) (rest := []) ⟨hx, hb, hml, hown, hts⟩ (c_X5_isDeck l G A dx) (va_cwS 1 hts gX5_board_X5_isDeck rfl rfl rfl (by decide +kernel) ⟨Nat.le_of_ble_eq_true rfl, Nat.le_of_ble_eq_true rfl⟩) hE hS rfl hl.1 rfl (Nat.le_of_ble_eq_true rfl) dX5_board_9 ⟨Nat.zero_le _, Nat.zero_le _⟩ (fun q9 e9 => ?_)
    refine lv_if_eq (tgt := 28) hx hb dX5_board_12 (by decide) (fun c12 => ?_) (fun c12 => ?_)
    · refine lv_iconst (v := -1) hx hb dX5_board_28 (by decide) ?_
      exact gRi (u := q2.2) hx hb hr hlk hP hD hok hS (by rw [← hfv, f_X5_board, ← e2, f_X5_board_k2, if_neg c5, ← e9, f_X5_board_k9, if_pos c12]) dX5_board_29
    · have hd : vp_in dx 3 := isD_of (by rw [← e9]; exact c12)
      refine lv_iload hx hb dX5_board_15 (lv_at hl 4 rfl) ?_
      refine lv_i2l (v := (y : Int32).toInt64) hx hb dX5_board_17 rfl ?_
      refine lv_lconst (v := 0) hx hb dX5_board_18 (by decide) ?_
      refine lv_ldc2 hx hb hown k0 dX5_board_19 ?_
      refine gSi (As := [.long ((y : Int32).toInt64), .long (0 : Int64), .long (9 : Int64)]) (rest := []) ⟨hx, hb, hml, hown, hts⟩ (c_X5_in l G A ((y : Int32).toInt64) (0 : Int64) (9 : Int64)) (va_cwS 3 hts gX5_board_X5_in rfl rfl rfl (by decide +kernel) ⟨Nat.le_of_ble_eq_true rfl, Nat.le_of_ble_eq_true rfl⟩) hE hS rfl hl.1 rfl (Nat.le_of_ble_eq_true rfl) dX5_board_22 ⟨Nat.zero_le _, Nat.zero_le _⟩ (fun q22 e22 => ?_)
      refine lv_if_ne (tgt := 30) hx hb dX5_board_25 (by decide) (fun c25 => ?_) (fun c25 => ?_)
      · refine lv_aload_n hx hb dX5_board_30 rfl (lv_at hl 0 rfl) ?_
        refine va_get (D := gD G) (ci := 5) (v := .ref hdk) (C := RX5) (T := TX5) (N := 17) hx hb hts iX5 hown hE.1 hP 0 rfl rfl 6 (by decide) k1 (fun _ h9 => h9) rfl dX5_board_31 ?_
        refine lv_iload_n hx hb dX5_board_34 rfl (lv_at hl 1 rfl) ?_
        refine va_iald hx hb hE.1 hP 6 0 rfl rfl (hv) dX5_board_35 ?_
        refine lv_if_lt (tgt := 42) hx hb dX5_board_36 (by decide) (fun c36 => ?_) (fun c36 => ?_)
        · refine lv_aload_n hx hb dX5_board_42 rfl (lv_at hl 0 rfl) ?_
          refine gVv (u := q2.2) (Wd := (m_W (gI G) hM hTm hkd hsz hld hch hdk htk hme hte)) (ok := m_ok) (As := []) (rest := []) ⟨hx, hb, hml, hown, hts⟩ (c_X5_act l G A hM hTm hkd hsz hld hch hdk htk hme hte q2.2 hok) (cwV 0 hts gX5_board_X5_act rfl rfl rfl (by decide +kernel) ⟨Nat.le_of_ble_eq_true rfl, Nat.le_of_ble_eq_true rfl⟩) hE hP hD hS (va_recv hE.1 hP (ci := 5) (q0 := 0) rfl rfl) rfl hl.1 rfl (Nat.le_of_ble_eq_true rfl) dX5_board_43 ⟨Nat.zero_le _, Nat.zero_le _⟩ (fun q43 H locs e43 hP hD hok hS => ?_)
          refine lv_aload_n hx hb dX5_board_46 rfl (lv_at hl 0 rfl) ?_
          refine lv_iload_n hx hb dX5_board_47 rfl (lv_at hl 1 rfl) ?_
          refine lv_iload_n hx hb dX5_board_48 rfl (lv_at hl 3 rfl) ?_
          refine gVi (u := q43) (Wd := (m_W (gI G) hM hTm hkd hsz hld hch hdk htk hme hte)) (ok := m_ok) (As := [.int v, .int w]) (rest := []) ⟨hx, hb, hml, hown, hts⟩ (c_X5_riskOf l G A hM hTm hkd hsz hld hch hdk htk hme hte v hv w q43 hok) (cwV 2 hts gX5_board_X5_riskOf rfl rfl rfl (by decide +kernel) ⟨Nat.le_of_ble_eq_true rfl, Nat.le_of_ble_eq_true rfl⟩) hE hP hD hS (va_recv hE.1 hP (ci := 5) (q0 := 0) rfl rfl) rfl hl.1 rfl (Nat.le_of_ble_eq_true rfl) dX5_board_49 ⟨Nat.zero_le _, Nat.zero_le _⟩ (fun q49 H locs e49 hP hD hok hS => ?_)
          refine lv_istore (lv' := [(5, .int q49.1), (0, .ref hM), (1, .int v), (2, .int dx), (3, .int w), (4, .int y)]) hx hb dX5_board_52 hl (by decide) rfl (fun ls hl => ?_)
          refine lv_aload_n hx hb dX5_board_54 rfl (lv_at hl 1 rfl) ?_
          refine va_get (D := gD G) (ci := 5) (v := .int (m_fl q49.2)) (C := RX5) (T := TX5) (N := 17) hx hb hts iX5 hown hE.1 hP 0 rfl rfl 16 (by decide) k2 (fun _ h9 => h9) rfl dX5_board_55 ?_
          refine lv_if_eq (tgt := 79) hx hb dX5_board_58 (by decide) (fun c58 => ?_) (fun c58 => ?_)
          · refine lv_aload_n hx hb dX5_board_79 rfl (lv_at hl 1 rfl) ?_
            refine lv_iload hx hb dX5_board_80 (lv_at hl 0 rfl) ?_
            refine va_put (D := gD G) (ci := 5) (v := .int q49.1) (ty := .int) (C := RX5) (T := TX5) (N := 17) hx hb hts iX5 tyX5 tyX5_ok nmX5 hown hE.1 hP hD hS 0 rfl rfl 10 (by decide) k3 (fun _ h9 => h9) rfl (by decide +kernel) rfl rfl (Nat.le_of_ble_eq_true rfl) dX5_board_82 (fun H locs hP hD hS => ?_)
            have hP : va_P (gD G) vwCl ((m_W (gI G) hM hTm hkd hsz hld hch hdk htk hme hte) (m_s_rk q49.2 q49.1)) H := hP
            have hD : va_D A ((m_W (gI G) hM hTm hkd hsz hld hch hdk htk hme hte) (m_s_rk q49.2 q49.1)) := hD
            have hok : m_ok (m_s_rk q49.2 q49.1) := hok
            refine lv_aload_n hx hb dX5_board_85 rfl (lv_at hl 1 rfl) ?_
            refine lv_iload_n hx hb dX5_board_86 rfl (lv_at hl 2 rfl) ?_
            refine gVi (u := m_s_rk q49.2 q49.1) (Wd := (m_W (gI G) hM hTm hkd hsz hld hch hdk htk hme hte)) (ok := m_ok) (As := [.int v]) (rest := []) ⟨hx, hb, hml, hown, hts⟩ (c_X5_length l G A hM hTm hkd hsz hld hch hdk htk hme hte v hv (m_s_rk q49.2 q49.1) hok) (cwV 1 hts gX5_board_X5_length rfl rfl rfl (by decide +kernel) ⟨Nat.le_of_ble_eq_true rfl, Nat.le_of_ble_eq_true rfl⟩) hE hP hD hS (va_recv hE.1 hP (ci := 5) (q0 := 0) rfl rfl) rfl hl.1 rfl (Nat.le_of_ble_eq_true rfl) dX5_board_87 ⟨Nat.zero_le _, Nat.zero_le _⟩ (fun q87 H locs e87 hP hD hok hS => ?_)
            refine lv_istore (lv' := [(6, .int q87.1), (5, .int q49.1), (0, .ref hM), (1, .int v), (2, .int dx), (3, .int w), (4, .int y)]) hx hb dX5_board_90 hl (by decide) rfl (fun ls hl => ?_)
            refine lv_iload hx hb dX5_board_92 (lv_at hl 0 rfl) ?_
            refine lv_aload_n hx hb dX5_board_94 rfl (lv_at hl 2 rfl) ?_
            refine va_get (D := gD G) (ci := 5) (v := .ref hme) (C := RX5) (T := TX5) (N := 17) hx hb hts iX5 hown hE.1 hP 0 rfl rfl 8 (by decide) k4 (fun _ h9 => h9) rfl dX5_board_95 ?_
            refine lv_iload_n hx hb dX5_board_98 rfl (lv_at hl 4 rfl) ?_
            refine va_iald hx hb hE.1 hP 8 0 rfl rfl (hd) dX5_board_99 ?_
            refine lv_aload_n hx hb dX5_board_100 rfl (lv_at hl 2 rfl) ?_
            refine lv_iload_n hx hb dX5_board_101 rfl (lv_at hl 4 rfl) ?_
            refine gVi (u := q87.2) (Wd := (m_W (gI G) hM hTm hkd hsz hld hch hdk htk hme hte)) (ok := m_ok) (As := [.int dx]) (rest := [.int (m_me q87.2 (dx : Int32).toNatClampNeg), .int q87.1]) ⟨hx, hb, hml, hown, hts⟩ (c_X5_takenOn l G A hM hTm hkd hsz hld hch hdk htk hme hte dx q87.2 hok) (cwV 1 hts gX5_board_X5_takenOn rfl rfl rfl (by decide +kernel) ⟨Nat.le_of_ble_eq_true rfl, Nat.le_of_ble_eq_true rfl⟩) hE hP hD hS (va_recv hE.1 hP (ci := 5) (q0 := 0) rfl rfl) rfl hl.1 rfl (Nat.le_of_ble_eq_true rfl) dX5_board_102 ⟨Nat.zero_le _, Nat.zero_le _⟩ (fun q102 H locs e102 hP hD hok hS => ?_)
            refine lv_isub hx hb dX5_board_105 ?_
            refine lv_icmp_le (tgt := 112) hx hb dX5_board_106 (by decide) (fun c106 => ?_) (fun c106 => ?_)
            · refine lv_aload_n hx hb dX5_board_112 rfl (lv_at hl 2 rfl) ?_
              refine lv_iload_n hx hb dX5_board_113 rfl (lv_at hl 3 rfl) ?_
              refine lv_iload hx hb dX5_board_114 (lv_at hl 6 rfl) ?_
              refine gVi (u := q102.2) (Wd := (m_W (gI G) hM hTm hkd hsz hld hch hdk htk hme hte)) (ok := m_ok) (As := [.int v, .int y]) (rest := []) ⟨hx, hb, hml, hown, hts⟩ (c_X5_fee l G A hM hTm hkd hsz hld hch hdk htk hme hte v hv y q102.2 hok) (cwV 2 hts gX5_board_X5_fee rfl rfl rfl (by decide +kernel) ⟨Nat.le_of_ble_eq_true rfl, Nat.le_of_ble_eq_true rfl⟩) hE hP hD hS (va_recv hE.1 hP (ci := 5) (q0 := 0) rfl rfl) rfl hl.1 rfl (Nat.le_of_ble_eq_true rfl) dX5_board_116 ⟨Nat.zero_le _, Nat.zero_le _⟩ (fun q116 H locs e116 hP hD hok hS => ?_)
              refine lv_istore (lv' := [(7, .int q116.1), (6, .int q87.1), (5, .int q49.1), (0, .ref hM), (1, .int v), (2, .int dx), (3, .int w), (4, .int y)]) hx hb dX5_board_119 hl (by decide) rfl (fun ls hl => ?_)
              refine lv_aload_n hx hb dX5_board_121 rfl (lv_at hl 3 rfl) ?_
              refine va_get (D := gD G) (ci := 5) (v := .int (m_fl q116.2)) (C := RX5) (T := TX5) (N := 17) hx hb hts iX5 hown hE.1 hP 0 rfl rfl 16 (by decide) k2 (fun _ h9 => h9) rfl dX5_board_122 ?_
              refine lv_if_eq (tgt := 146) hx hb dX5_board_125 (by decide) (fun c125 => ?_) (fun c125 => ?_)
              · refine lv_aload_n hx hb dX5_board_146 rfl (lv_at hl 3 rfl) ?_
                refine lv_dup hx hb dX5_board_147 rfl ?_
                refine va_get (D := gD G) (ci := 5) (v := .long (m_til q116.2)) (C := RX5) (T := TX5) (N := 17) hx hb hts iX5 hown hE.1 hP 0 rfl rfl 9 (by decide) k5 (fun _ h9 => h9) rfl dX5_board_148 ?_
                refine lv_iload hx hb dX5_board_151 (lv_at hl 0 rfl) ?_
                refine lv_i2l (v := (q116.1 : Int32).toInt64) hx hb dX5_board_153 rfl ?_
                refine lv_ladd hx hb dX5_board_154 ?_
                refine va_put (D := gD G) (ci := 5) (v := .long ((m_til q116.2) + ((q116.1 : Int32).toInt64))) (ty := .long) (C := RX5) (T := TX5) (N := 17) hx hb hts iX5 tyX5 tyX5_ok nmX5 hown hE.1 hP hD hS 0 rfl rfl 9 (by decide) k5 (fun _ h9 => h9) rfl (by decide +kernel) rfl rfl (Nat.le_of_ble_eq_true rfl) dX5_board_155 (fun H locs hP hD hS => ?_)
                have hP : va_P (gD G) vwCl ((m_W (gI G) hM hTm hkd hsz hld hch hdk htk hme hte) (m_s_til q116.2 ((m_til q116.2) + ((q116.1 : Int32).toInt64)))) H := hP
                have hD : va_D A ((m_W (gI G) hM hTm hkd hsz hld hch hdk htk hme hte) (m_s_til q116.2 ((m_til q116.2) + ((q116.1 : Int32).toInt64)))) := hD
                have hok : m_ok (m_s_til q116.2 ((m_til q116.2) + ((q116.1 : Int32).toInt64))) := hok
                refine lv_aload_n hx hb dX5_board_158 rfl (lv_at hl 3 rfl) ?_
                refine va_get (D := gD G) (ci := 5) (v := .ref hdk) (C := RX5) (T := TX5) (N := 17) hx hb hts iX5 hown hE.1 hP 0 rfl rfl 6 (by decide) k1 (fun _ h9 => h9) rfl dX5_board_159 ?_
                refine lv_iload_n hx hb dX5_board_162 rfl (lv_at hl 4 rfl) ?_
                refine lv_iload_n hx hb dX5_board_163 rfl (lv_at hl 5 rfl) ?_
                refine va_iast hx hb hE.1 hP hD hS 6 0 rfl rfl (hv) dX5_board_164 (fun H locs hP hD hS => ?_)
                have hP : va_P (gD G) vwCl ((m_W (gI G) hM hTm hkd hsz hld hch hdk htk hme hte) (m_s_dk (m_s_til q116.2 ((m_til q116.2) + ((q116.1 : Int32).toInt64))) (upd (m_dk (m_s_til q116.2 ((m_til q116.2) + ((q116.1 : Int32).toInt64)))) (v : Int32).toNatClampNeg dx))) H := hP
                have hD : va_D A ((m_W (gI G) hM hTm hkd hsz hld hch hdk htk hme hte) (m_s_dk (m_s_til q116.2 ((m_til q116.2) + ((q116.1 : Int32).toInt64))) (upd (m_dk (m_s_til q116.2 ((m_til q116.2) + ((q116.1 : Int32).toInt64)))) (v : Int32).toNatClampNeg dx))) := hD
                have hok : m_ok (m_s_dk (m_s_til q116.2 ((m_til q116.2) + ((q116.1 : Int32).toInt64))) (upd (m_dk (m_s_til q116.2 ((m_til q116.2) + ((q116.1 : Int32).toInt64)))) (v : Int32).toNatClampNeg dx)) := ⟨hok.1, hok.2.1, m_dkU hok.2.2 (isD_le (by rw [← e9]; exact c12))⟩
                refine lv_aload_n hx hb dX5_board_165 rfl (lv_at hl 3 rfl) ?_
                refine va_get (D := gD G) (ci := 5) (v := .ref htk) (C := RX5) (T := TX5) (N := 17) hx hb hts iX5 hown hE.1 hP 0 rfl rfl 7 (by decide) k6 (fun _ h9 => h9) rfl dX5_board_166 ?_
                refine lv_iload_n hx hb dX5_board_169 rfl (lv_at hl 4 rfl) ?_
                refine lv_iload hx hb dX5_board_170 (lv_at hl 1 rfl) ?_
                refine va_iast hx hb hE.1 hP hD hS 7 0 rfl rfl (hv) dX5_board_172 (fun H locs hP hD hS => ?_)
                have hP : va_P (gD G) vwCl ((m_W (gI G) hM hTm hkd hsz hld hch hdk htk hme hte) (m_s_tk (m_s_dk (m_s_til q116.2 ((m_til q116.2) + ((q116.1 : Int32).toInt64))) (upd (m_dk (m_s_til q116.2 ((m_til q116.2) + ((q116.1 : Int32).toInt64)))) (v : Int32).toNatClampNeg dx)) (upd (m_tk (m_s_dk (m_s_til q116.2 ((m_til q116.2) + ((q116.1 : Int32).toInt64))) (upd (m_dk (m_s_til q116.2 ((m_til q116.2) + ((q116.1 : Int32).toInt64)))) (v : Int32).toNatClampNeg dx))) (v : Int32).toNatClampNeg q87.1))) H := hP
                have hD : va_D A ((m_W (gI G) hM hTm hkd hsz hld hch hdk htk hme hte) (m_s_tk (m_s_dk (m_s_til q116.2 ((m_til q116.2) + ((q116.1 : Int32).toInt64))) (upd (m_dk (m_s_til q116.2 ((m_til q116.2) + ((q116.1 : Int32).toInt64)))) (v : Int32).toNatClampNeg dx)) (upd (m_tk (m_s_dk (m_s_til q116.2 ((m_til q116.2) + ((q116.1 : Int32).toInt64))) (upd (m_dk (m_s_til q116.2 ((m_til q116.2) + ((q116.1 : Int32).toInt64)))) (v : Int32).toNatClampNeg dx))) (v : Int32).toNatClampNeg q87.1))) := hD
                have hok : m_ok (m_s_tk (m_s_dk (m_s_til q116.2 ((m_til q116.2) + ((q116.1 : Int32).toInt64))) (upd (m_dk (m_s_til q116.2 ((m_til q116.2) + ((q116.1 : Int32).toInt64)))) (v : Int32).toNatClampNeg dx)) (upd (m_tk (m_s_dk (m_s_til q116.2 ((m_til q116.2) + ((q116.1 : Int32).toInt64))) (upd (m_dk (m_s_til q116.2 ((m_til q116.2) + ((q116.1 : Int32).toInt64)))) (v : Int32).toNatClampNeg dx))) (v : Int32).toNatClampNeg q87.1)) := hok
                refine lv_aload_n hx hb dX5_board_173 rfl (lv_at hl 3 rfl) ?_
                refine va_get (D := gD G) (ci := 5) (v := .ref hme) (C := RX5) (T := TX5) (N := 17) hx hb hts iX5 hown hE.1 hP 0 rfl rfl 8 (by decide) k4 (fun _ h9 => h9) rfl dX5_board_174 ?_
                refine lv_iload_n hx hb dX5_board_177 rfl (lv_at hl 5 rfl) ?_
                refine va_iald hx hb hE.1 hP 8 0 rfl rfl (hd) dX5_board_178 ?_
                refine lv_aload_n hx hb dX5_board_179 rfl (lv_at hl 3 rfl) ?_
                refine lv_iload_n hx hb dX5_board_180 rfl (lv_at hl 5 rfl) ?_
                refine gVi (u := m_s_tk (m_s_dk (m_s_til q116.2 ((m_til q116.2) + ((q116.1 : Int32).toInt64))) (upd (m_dk (m_s_til q116.2 ((m_til q116.2) + ((q116.1 : Int32).toInt64)))) (v : Int32).toNatClampNeg dx)) (upd (m_tk (m_s_dk (m_s_til q116.2 ((m_til q116.2) + ((q116.1 : Int32).toInt64))) (upd (m_dk (m_s_til q116.2 ((m_til q116.2) + ((q116.1 : Int32).toInt64)))) (v : Int32).toNatClampNeg dx))) (v : Int32).toNatClampNeg q87.1)) (Wd := (m_W (gI G) hM hTm hkd hsz hld hch hdk htk hme hte)) (ok := m_ok) (As := [.int dx]) (rest := [.int (m_me (m_s_tk (m_s_dk (m_s_til q116.2 ((m_til q116.2) + ((q116.1 : Int32).toInt64))) (upd (m_dk (m_s_til q116.2 ((m_til q116.2) + ((q116.1 : Int32).toInt64)))) (v : Int32).toNatClampNeg dx)) (upd (m_tk (m_s_dk (m_s_til q116.2 ((m_til q116.2) + ((q116.1 : Int32).toInt64))) (upd (m_dk (m_s_til q116.2 ((m_til q116.2) + ((q116.1 : Int32).toInt64)))) (v : Int32).toNatClampNeg dx))) (v : Int32).toNatClampNeg q87.1)) (dx : Int32).toNatClampNeg)]) ⟨hx, hb, hml, hown, hts⟩ (c_X5_takenOn l G A hM hTm hkd hsz hld hch hdk htk hme hte dx (m_s_tk (m_s_dk (m_s_til q116.2 ((m_til q116.2) + ((q116.1 : Int32).toInt64))) (upd (m_dk (m_s_til q116.2 ((m_til q116.2) + ((q116.1 : Int32).toInt64)))) (v : Int32).toNatClampNeg dx)) (upd (m_tk (m_s_dk (m_s_til q116.2 ((m_til q116.2) + ((q116.1 : Int32).toInt64))) (upd (m_dk (m_s_til q116.2 ((m_til q116.2) + ((q116.1 : Int32).toInt64)))) (v : Int32).toNatClampNeg dx))) (v : Int32).toNatClampNeg q87.1)) hok) (cwV 1 hts gX5_board_X5_takenOn rfl rfl rfl (by decide +kernel) ⟨Nat.le_of_ble_eq_true rfl, Nat.le_of_ble_eq_true rfl⟩) hE hP hD hS (va_recv hE.1 hP (ci := 5) (q0 := 0) rfl rfl) rfl hl.1 rfl (Nat.le_of_ble_eq_true rfl) dX5_board_181 ⟨Nat.zero_le _, Nat.zero_le _⟩ (fun q181 H locs e181 hP hD hok hS => ?_)
                refine lv_isub hx hb dX5_board_184 ?_
                exact gRi (u := q181.2) hx hb hr hlk hP hD hok hS (by rw [← hfv, f_X5_board, ← e2, f_X5_board_k2, if_neg c5, ← e9, f_X5_board_k9, if_neg c12, ← e22, f_X5_board_k22, if_neg c25, if_pos c36, ← e43, f_X5_board_k43, ← e49, f_X5_board_k49, if_pos c58, ← e87, f_X5_board_k87, ← e102, f_X5_board_k102, if_pos c106, ← e116, f_X5_board_k116, if_pos c125, ← e181, f_X5_board_k181]) dX5_board_185
              · refine lv_aload_n hx hb dX5_board_128 rfl (lv_at hl 3 rfl) ?_
                refine lv_dup hx hb dX5_board_129 rfl ?_
                refine va_get (D := gD G) (ci := 5) (v := .int (m_fa q116.2)) (C := RX5) (T := TX5) (N := 17) hx hb hts iX5 hown hE.1 hP 0 rfl rfl 15 (by decide) k7 (fun _ h9 => h9) rfl dX5_board_130 ?_
                refine lv_iconst (v := 1) hx hb dX5_board_133 (by decide) ?_
                refine lv_iadd hx hb dX5_board_134 ?_
                refine va_put (D := gD G) (ci := 5) (v := .int ((m_fa q116.2) + (1 : Int32))) (ty := .int) (C := RX5) (T := TX5) (N := 17) hx hb hts iX5 tyX5 tyX5_ok nmX5 hown hE.1 hP hD hS 0 rfl rfl 15 (by decide) k7 (fun _ h9 => h9) rfl (by decide +kernel) rfl rfl (Nat.le_of_ble_eq_true rfl) dX5_board_135 (fun H locs hP hD hS => ?_)
                have hP : va_P (gD G) vwCl ((m_W (gI G) hM hTm hkd hsz hld hch hdk htk hme hte) (m_s_fa q116.2 ((m_fa q116.2) + (1 : Int32)))) H := hP
                have hD : va_D A ((m_W (gI G) hM hTm hkd hsz hld hch hdk htk hme hte) (m_s_fa q116.2 ((m_fa q116.2) + (1 : Int32)))) := hD
                have hok : m_ok (m_s_fa q116.2 ((m_fa q116.2) + (1 : Int32))) := hok
                refine lv_bipush (v := -10) hx hb dX5_board_138 (by decide) ?_
                refine lv_aload_n hx hb dX5_board_140 rfl (lv_at hl 3 rfl) ?_
                refine va_get (D := gD G) (ci := 5) (v := .int (m_fl (m_s_fa q116.2 ((m_fa q116.2) + (1 : Int32))))) (C := RX5) (T := TX5) (N := 17) hx hb hts iX5 hown hE.1 hP 0 rfl rfl 16 (by decide) k2 (fun _ h9 => h9) rfl dX5_board_141 ?_
                refine lv_isub hx hb dX5_board_144 ?_
                exact gRi (u := m_s_fa q116.2 ((m_fa q116.2) + (1 : Int32))) hx hb hr hlk hP hD hok hS (by rw [← hfv, f_X5_board, ← e2, f_X5_board_k2, if_neg c5, ← e9, f_X5_board_k9, if_neg c12, ← e22, f_X5_board_k22, if_neg c25, if_pos c36, ← e43, f_X5_board_k43, ← e49, f_X5_board_k49, if_pos c58, ← e87, f_X5_board_k87, ← e102, f_X5_board_k102, if_pos c106, ← e116, f_X5_board_k116, if_neg c125]) dX5_board_145
            · refine lv_bipush (v := -4) hx hb dX5_board_109 (by decide) ?_
              exact gRi (u := q102.2) hx hb hr hlk hP hD hok hS (by rw [← hfv, f_X5_board, ← e2, f_X5_board_k2, if_neg c5, ← e9, f_X5_board_k9, if_neg c12, ← e22, f_X5_board_k22, if_neg c25, if_pos c36, ← e43, f_X5_board_k43, ← e49, f_X5_board_k49, if_pos c58, ← e87, f_X5_board_k87, ← e102, f_X5_board_k102, if_neg c106]) dX5_board_111
          · refine lv_aload_n hx hb dX5_board_61 rfl (lv_at hl 1 rfl) ?_
            refine lv_dup hx hb dX5_board_62 rfl ?_
            refine va_get (D := gD G) (ci := 5) (v := .int (m_fa q49.2)) (C := RX5) (T := TX5) (N := 17) hx hb hts iX5 hown hE.1 hP 0 rfl rfl 15 (by decide) k7 (fun _ h9 => h9) rfl dX5_board_63 ?_
            refine lv_iconst (v := 1) hx hb dX5_board_66 (by decide) ?_
            refine lv_iadd hx hb dX5_board_67 ?_
            refine va_put (D := gD G) (ci := 5) (v := .int ((m_fa q49.2) + (1 : Int32))) (ty := .int) (C := RX5) (T := TX5) (N := 17) hx hb hts iX5 tyX5 tyX5_ok nmX5 hown hE.1 hP hD hS 0 rfl rfl 15 (by decide) k7 (fun _ h9 => h9) rfl (by decide +kernel) rfl rfl (Nat.le_of_ble_eq_true rfl) dX5_board_68 (fun H locs hP hD hS => ?_)
            have hP : va_P (gD G) vwCl ((m_W (gI G) hM hTm hkd hsz hld hch hdk htk hme hte) (m_s_fa q49.2 ((m_fa q49.2) + (1 : Int32)))) H := hP
            have hD : va_D A ((m_W (gI G) hM hTm hkd hsz hld hch hdk htk hme hte) (m_s_fa q49.2 ((m_fa q49.2) + (1 : Int32)))) := hD
            have hok : m_ok (m_s_fa q49.2 ((m_fa q49.2) + (1 : Int32))) := hok
            refine lv_bipush (v := -10) hx hb dX5_board_71 (by decide) ?_
            refine lv_aload_n hx hb dX5_board_73 rfl (lv_at hl 1 rfl) ?_
            refine va_get (D := gD G) (ci := 5) (v := .int (m_fl (m_s_fa q49.2 ((m_fa q49.2) + (1 : Int32))))) (C := RX5) (T := TX5) (N := 17) hx hb hts iX5 hown hE.1 hP 0 rfl rfl 16 (by decide) k2 (fun _ h9 => h9) rfl dX5_board_74 ?_
            refine lv_isub hx hb dX5_board_77 ?_
            exact gRi (u := m_s_fa q49.2 ((m_fa q49.2) + (1 : Int32))) hx hb hr hlk hP hD hok hS (by rw [← hfv, f_X5_board, ← e2, f_X5_board_k2, if_neg c5, ← e9, f_X5_board_k9, if_neg c12, ← e22, f_X5_board_k22, if_neg c25, if_pos c36, ← e43, f_X5_board_k43, ← e49, f_X5_board_k49, if_neg c58]) dX5_board_78
        · refine lv_bipush (v := -3) hx hb dX5_board_39 (by decide) ?_
          exact gRi (u := q2.2) hx hb hr hlk hP hD hok hS (by rw [← hfv, f_X5_board, ← e2, f_X5_board_k2, if_neg c5, ← e9, f_X5_board_k9, if_neg c12, ← e22, f_X5_board_k22, if_neg c25, if_neg c36]) dX5_board_41
      · refine lv_iconst (v := -1) hx hb dX5_board_28 (by decide) ?_
        exact gRi (u := q2.2) hx hb hr hlk hP hD hok hS (by rw [← hfv, f_X5_board, ← e2, f_X5_board_k2, if_neg c5, ← e9, f_X5_board_k9, if_neg c12, ← e22, f_X5_board_k22, if_pos c25]) dX5_board_29
set_option maxHeartbeats 4000000 in
set_option maxRecDepth 100000 in
theorem c_X5_board (l : Launch) (G : gC) (A : Nat → Prop) (hM hTm hkd hsz hld hch hdk htk hme hte : Nat) (v dx : Int32) (w : Int32) (y : Int32) (u : MS) (hok : m_ok u) : CI l yX5_board wsX5_board ({ frames := 6, cells := 0, slots := 0, locals := 134 } : Room) G A (m_W (gI G) hM hTm hkd hsz hld hch hdk htk hme hte) m_ok [.ref hM, .int v, .int dx, .int w, .int y] u (f_X5_board v dx w y u) := by
  refine Met.ofW (cc := cX5_board) (maxL := 8) (ret := (some .int)) (by decide) rfl ?_
  intro p e s m args below meth c s₁ B hml hv
  obtain ⟨rfl, hE, hP, hD⟩ := hv
  have hl := lv_entry ([.ref hM, .int v, .int dx, .int w, .int y]) (n := 8) (Nat.le_of_ble_eq_true rfl)
  rw [lg_entry_eq]
  generalize (lg_sl ([.ref hM, .int v, .int dx, .int w, .int y]) ++ List.replicate (8 - (lg_sl ([.ref hM, .int v, .int dx, .int w, .int y])).length) Slot.unset).toArray = ls at hl ⊢
  exact c_X5_board_0 l G A hM hTm hkd hsz hld hch hdk htk hme hte v dx ⟨⟨B.exec, B.bytes, hml, findClass_of_methodNamed B.named, atoms_spec (ws := wsX5_board) B.pre⟩, B.returns, B.notSynchronized⟩ hE w y u hP hD hok va_S.rf hl rfl
