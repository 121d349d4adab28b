-- FerryDecksModel.camperFee
def f_X5_camperFee_k15 (v : Int32) (q8 : Int32 × MS) (q15 : Int32 × MS) : Int32 × MS :=
  (q8.1 + q15.1, q15.2)
def f_X5_camperFee_k8 (v : Int32) (q8 : Int32 × MS) : Int32 × MS :=
  (f_X5_camperFee_k15 v q8 (f_X5_length v q8.2))
def f_X5_camperFee_k3 (v : Int32) (d : Int32) (q3 : MS) : Int32 × MS :=
  (f_X5_camperFee_k8 v (f_X5_carFee d q3))
def f_X5_camperFee (v : Int32) (d : Int32) (u : MS) : Int32 × MS :=
  (f_X5_camperFee_k3 v d (f_X5_began (3 : Int32) (1 : Int32) u))
set_option maxHeartbeats 4000000 in
set_option maxRecDepth 100000 in
theorem c_X5_camperFee_0 {p : Program} {e : Env} {s : State} {m : MethodId} {args : Array Value} {below : List Frame} {meth : Method} {c : Code} (l : Launch) (G : gC) (A : Nat → Prop) (hM hTm hkd hsz hld hch hdk htk hme hte : Nat) (v : Int32) (hv : vp_in v 70) (C0 : gX p s m args meth c cX5_camperFee 4 wsX5_camperFee RX5 (some .int)) (hE : gE G A s) (d : Int32) (u : MS) {H : Heap} {locs : List Loc} (hP : va_P (gD G) vwCl ((m_W (gI G) hM hTm hkd hsz hld hch hdk htk hme hte) u) H) (hD : va_D A ((m_W (gI G) hM hTm hkd hsz hld hch hdk htk hme hte) u)) (hok : m_ok u) (hS : va_S A s.heap H locs) {ls : Array Slot} (hl : lv_has ls 4 [(0, .ref hM), (1, .int v), (2, .int d)]) {fv : Int32 × MS} (hfv : f_X5_camperFee v d u = fv) : W p l e ({ frames := 3, cells := 0, slots := 0, locals := 65 } : Room) s m args below meth c H locs 0 0 (MQ below (gQi G A (m_W (gI G) hM hTm hkd hsz hld hch hdk htk hme hte) m_ok fv) args s 0 0 A) (F0 m 0 ls []) := by
  obtain ⟨⟨hx, hb, hml, hown, hts⟩, hr, hlk⟩ := id C0
  have hok0 := hok
  refine lv_aload_n hx hb dX5_camperFee_0 rfl (lv_at hl 0 rfl) ?_
  refine lv_iconst (v := 3) hx hb dX5_camperFee_1 (by decide) ?_
  refine lv_iconst (v := 1) hx hb dX5_camperFee_2 (by decide) ?_
  refine gVv (u := u) (Wd := (m_W (gI G) hM hTm hkd hsz hld hch hdk htk hme hte)) (ok := m_ok) (As := [.int (3 : Int32), .int (1 : Int32)]) (rest := []) ⟨hx, hb, hml, hown, hts⟩ (c_X5_began l G A hM hTm hkd hsz hld hch hdk htk hme hte (3 : Int32) (1 : Int32) u hok) (cwV 2 hts gX5_camperFee_X5_began rfl rfl rfl (by decide +kernel) ⟨Nat.le_of_ble_eq_true rfl, Nat.le_of_ble_eq_true rfl⟩) hE hP hD hS (va_recv hE.1 hP (ci := 5) (q0 := 0) rfl rfl) rfl hl.1 rfl (Nat.le_of_ble_eq_true rfl) dX5_camperFee_3 ⟨Nat.zero_le _, Nat.zero_le _⟩ (fun q3 H locs e3 hP hD hok hS => ?_)
  refine lv_aload_n hx hb dX5_camperFee_6 rfl (lv_at hl 0 rfl) ?_
  refine lv_iload_n hx hb dX5_camperFee_7 rfl (lv_at hl 2 rfl) ?_
  refine gVi (u := q3) (Wd := (m_W (gI G) hM hTm hkd hsz hld hch hdk htk hme hte)) (ok := m_ok) (As := [.int d]) (rest := []) ⟨hx, hb, hml, hown, hts⟩ (c_X5_carFee l G A hM hTm hkd hsz hld hch hdk htk hme hte d q3 hok) (cwV 1 hts gX5_camperFee_X5_carFee rfl rfl rfl (by decide +kernel) ⟨Nat.le_of_ble_eq_true rfl, Nat.le_of_ble_eq_true rfl⟩) hE hP hD hS (va_recv hE.1 hP (ci := 5) (q0 := 0) rfl rfl) rfl hl.1 rfl (Nat.le_of_ble_eq_true rfl) dX5_camperFee_8 ⟨Nat.zero_le _, Nat.zero_le _⟩ (fun q8 H locs e8 hP hD hok hS => ?_)
  refine lv_istore_n (lv' := [(3, .int q8.1), (0, .ref hM), (1, .int v), (2, .int d)]) hx hb dX5_camperFee_11 rfl hl (by decide) rfl (fun ls hl => ?_)
  refine lv_iload_n hx hb dX5_camperFee_12 rfl (lv_at hl 0 rfl) ?_
  refine lv_aload_n hx hb dX5_camperFee_13 rfl (lv_at hl 1 rfl) ?_
  refine lv_iload_n hx hb dX5_camperFee_14 rfl (lv_at hl 2 rfl) ?_
  refine gVi (u := q8.2) (Wd := (m_W (gI G) hM hTm hkd hsz hld hch hdk htk hme hte)) (ok := m_ok) (As := [.int v]) (rest := [.int q8.1]) ⟨hx, hb, hml, hown, hts⟩ (c_X5_length l G A hM hTm hkd hsz hld hch hdk htk hme hte v hv q8.2 hok) (cwV 1 hts gX5_camperFee_X5_length rfl rfl rfl (by decide +kernel) ⟨Nat.le_of_ble_eq_true rfl, Nat.le_of_ble_eq_true rfl⟩) hE hP hD hS (va_recv hE.1 hP (ci := 5) (q0 := 0) rfl rfl) rfl hl.1 rfl (Nat.le_of_ble_eq_true rfl) dX5_camperFee_15 ⟨Nat.zero_le _, Nat.zero_le _⟩ (fun q15 H locs e15 hP hD hok hS => ?_)
  refine lv_iadd hx hb dX5_camperFee_18 ?_
  exact gRi (u := q15.2) hx hb hr hlk hP hD hok hS (by rw [← hfv, f_X5_camperFee, ← e3, f_X5_camperFee_k3, ← e8, f_X5_camperFee_k8, ← e15, f_X5_camperFee_k15]) dX5_camperFee_19
set_option maxHeartbeats 4000000 in
set_option maxRecDepth 100000 in
theorem c_X5_camperFee (l : Launch) (G : gC) (A : Nat → Prop) (hM hTm hkd hsz hld hch hdk htk hme hte : Nat) (v : Int32) (hv : vp_in v 70) (d : Int32) (u : MS) (hok : m_ok u) : CI l yX5_camperFee wsX5_camperFee ({ frames := 3, cells := 0, slots := 0, locals := 65 } : Room) G A (m_W (gI G) hM hTm hkd hsz hld hch hdk htk hme hte) m_ok [.ref hM, .int v, .int d] u (f_X5_camperFee v d u) := by
  refine Met.ofW (cc := cX5_camperFee) (maxL := 4) (ret := (some .int)) (by decide) rfl ?_
  intro p e s m args below meth c s₁ B hml hv
  obtain ⟨rfl, hE, hP, hD⟩ := hv
  have hl := lv_entry ([.ref hM, .int v, .int d]) (n := 4) (Nat.le_of_ble_eq_true rfl)
  rw [lg_entry_eq]
  generalize (lg_sl ([.ref hM, .int v, .int d]) ++ List.replicate (4 - (lg_sl ([.ref hM, .int v, .int d])).length) Slot.unset).toArray = ls at hl ⊢
  exact c_X5_camperFee_0 l G A hM hTm hkd hsz hld hch hdk htk hme hte v hv ⟨⟨B.exec, B.bytes, hml, findClass_of_methodNamed B.named, atoms_spec (ws := wsX5_camperFee) B.pre⟩, B.returns, B.notSynchronized⟩ hE d u hP hD hok va_S.rf hl rfl

-- FerryDecksModel.truckRisk
def f_X5_truckRisk_k32 (v : Int32) (q32 : Int32 × MS) : Int32 × MS :=
  (q32.1, q32.2)
def f_X5_truckRisk_k24 (v : Int32) (q24 : Int32 × MS) : Int32 × MS :=
  (q24.1, q24.2)
def f_X5_truckRisk_k4 (v : Int32) (w : Int32) (q4 : MS) : Int32 × MS :=
  (if (m_ld q4 (v : Int32).toNatClampNeg) ≤ (m_T q4 ((4 : Int32) : Int32).toNatClampNeg) then (f_X5_truckRisk_k32 v (f_X5_plainRisk w q4)) else (f_X5_truckRisk_k24 v (f_X5_fails (2 : Int32) q4)))
def f_X5_truckRisk (v : Int32) (w : Int32) (u : MS) : Int32 × MS :=
  (f_X5_truckRisk_k4 v w (f_X5_began (6 : Int32) (2 : Int32) u))
set_option maxHeartbeats 4000000 in
set_option maxRecDepth 100000 in
theorem c_X5_truckRisk_0 {p : Program} {e : Env} {s : State} {m : MethodId} {args : Array Value} {below : List Frame} {meth : Method} {c : Code} (l : Launch) (G : gC) (A : Nat → Prop) (hM hTm hkd hsz hld hch hdk htk hme hte : Nat) (v : Int32) (hv : vp_in v 70) (C0 : gX p s m args meth c cX5_truckRisk 3 wsX5_truckRisk RX5 (some .int)) (hE : gE G A s) (w : Int32) (u : MS) {H : Heap} {locs : List Loc} (hP : va_P (gD G) vwCl ((m_W (gI G) hM hTm hkd hsz hld hch hdk htk hme hte) u) H) (hD : va_D A ((m_W (gI G) hM hTm hkd hsz hld hch hdk htk hme hte) u)) (hok : m_ok u) (hS : va_S A s.heap H locs) {ls : Array Slot} (hl : lv_has ls 3 [(0, .ref hM), (1, .int v), (2, .int w)]) {fv : Int32 × MS} (hfv : f_X5_truckRisk v w u = fv) : W p l e ({ frames := 2, cells := 0, slots := 0, locals := 43 } : Room) s m args below meth c H locs 0 0 (MQ below (gQi G A (m_W (gI G) hM hTm hkd hsz hld hch hdk htk hme hte) m_ok fv) args s 0 0 A) (F0 m 0 ls []) := by
  obtain ⟨⟨hx, hb, hml, hown, hts⟩, hr, hlk⟩ := id C0
  have hok0 := hok
  have k0 := hts (.fieldLink RX5 19 "FerryDecksModel" "loads" "[I") (by decide +kernel)
  have k1 := hts (.fieldLink RX5 7 "FerryDecksModel" "terms" "[I") (by decide +kernel)
  have iX5 : ∀ w ∈ wsX50, w ∈ wsX5_truckRisk := by decide +kernel
  refine lv_aload_n hx hb dX5_truckRisk_0 rfl (lv_at hl 0 rfl) ?_
  refine lv_bipush (v := 6) hx hb dX5_truckRisk_1 (by decide) ?_
  refine lv_iconst (v := 2) hx hb dX5_truckRisk_3 (by decide) ?_
  refine gVv (u := u) (Wd := (m_W (gI G) hM hTm hkd hsz hld hch hdk htk hme hte)) (ok := m_ok) (As := [.int (6 : Int32), .int (2 : Int32)]) (rest := []) ⟨hx, hb, hml, hown, hts⟩ (c_X5_began l G A hM hTm hkd hsz hld hch hdk htk hme hte (6 : Int32) (2 : Int32) u hok) (cwV 2 hts gX5_truckRisk_X5_began rfl rfl rfl (by decide +kernel) ⟨Nat.le_of_ble_eq_true rfl, Nat.le_of_ble_eq_true rfl⟩) hE hP hD hS (va_recv hE.1 hP (ci := 5) (q0 := 0) rfl rfl) rfl hl.1 rfl (Nat.le_of_ble_eq_true rfl) dX5_truckRisk_4 ⟨Nat.zero_le _, Nat.zero_le _⟩ (fun q4 H locs e4 hP hD hok hS => ?_)
  refine lv_aload_n hx hb dX5_truckRisk_7 rfl (lv_at hl 0 rfl) ?_
  refine va_get (D := gD G) (ci := 5) (v := .ref hld) (C := RX5) (T := TX5) (N := 17) hx hb hts iX5 hown hE.1 hP 0 rfl rfl 4 (by decide) k0 (fun _ h9 => h9) rfl dX5_truckRisk_8 ?_
  refine lv_iload_n hx hb dX5_truckRisk_11 rfl (lv_at hl 1 rfl) ?_
  refine va_iald hx hb hE.1 hP 4 0 rfl rfl (hv) dX5_truckRisk_12 ?_
  refine lv_aload_n hx hb dX5_truckRisk_13 rfl (lv_at hl 0 rfl) ?_
  refine va_get (D := gD G) (ci := 5) (v := .ref hTm) (C := RX5) (T := TX5) (N := 17) hx hb hts iX5 hown hE.1 hP 0 rfl rfl 0 (by decide) k1 (fun _ h9 => h9) rfl dX5_truckRisk_14 ?_
  refine lv_iconst (v := 4) hx hb dX5_truckRisk_17 (by decide) ?_
  refine va_iald hx hb hE.1 hP 1 0 rfl rfl (gIn (by decide) (by decide) (by decide)) dX5_truckRisk_18 ?_
  refine lv_icmp_le (tgt := 30) hx hb dX5_truckRisk_19 (by decide) (fun c19 => ?_) (fun c19 => ?_)
  · refine lv_aload_n hx hb dX5_truckRisk_30 rfl (lv_at hl 0 rfl) ?_
    refine lv_iload_n hx hb dX5_truckRisk_31 rfl (lv_at hl 2 rfl) ?_
    refine gVi (u := q4) (Wd := (m_W (gI G) hM hTm hkd hsz hld hch hdk htk hme hte)) (ok := m_ok) (As := [.int w]) (rest := []) ⟨hx, hb, hml, hown, hts⟩ (c_X5_plainRisk l G A hM hTm hkd hsz hld hch hdk htk hme hte w q4 hok) (cwV 1 hts gX5_truckRisk_X5_plainRisk rfl rfl rfl (by decide +kernel) ⟨Nat.le_of_ble_eq_true rfl, Nat.le_of_ble_eq_true rfl⟩) hE hP hD hS (va_recv hE.1 hP (ci := 5) (q0 := 0) rfl rfl) rfl hl.1 rfl (Nat.le_of_ble_eq_true rfl) dX5_truckRisk_32 ⟨Nat.zero_le _, Nat.zero_le _⟩ (fun q32 H locs e32 hP hD hok hS => ?_)
    exact gRi (u := q32.2) hx hb hr hlk hP hD hok hS (by rw [← hfv, f_X5_truckRisk, ← e4, f_X5_truckRisk_k4, if_pos c19, ← e32, f_X5_truckRisk_k32]) dX5_truckRisk_35
  · refine lv_aload_n hx hb dX5_truckRisk_22 rfl (lv_at hl 0 rfl) ?_
    refine lv_iconst (v := 2) hx hb dX5_truckRisk_23 (by decide) ?_
    refine gVi (u := q4) (Wd := (m_W (gI G) hM hTm hkd hsz hld hch hdk htk hme hte)) (ok := m_ok) (As := [.int (2 : Int32)]) (rest := []) ⟨hx, hb, hml, hown, hts⟩ (c_X5_fails l G A hM hTm hkd hsz hld hch hdk htk hme hte (2 : Int32) q4 hok) (cwV 1 hts gX5_truckRisk_X5_fails rfl rfl rfl (by decide +kernel) ⟨Nat.le_of_ble_eq_true rfl, Nat.le_of_ble_eq_true rfl⟩) hE hP hD hS (va_recv hE.1 hP (ci := 5) (q0 := 0) rfl rfl) rfl hl.1 rfl (Nat.le_of_ble_eq_true rfl) dX5_truckRisk_24 ⟨Nat.zero_le _, Nat.zero_le _⟩ (fun q24 H locs e24 hP hD hok hS => ?_)
    refine lv_goto (tgt := 35) hx hb dX5_truckRisk_27 (by decide) ?_
    exact gRi (u := q24.2) hx hb hr hlk hP hD hok hS (by rw [← hfv, f_X5_truckRisk, ← e4, f_X5_truckRisk_k4, if_neg c19, ← e24, f_X5_truckRisk_k24]) dX5_truckRisk_35
set_option maxHeartbeats 4000000 in
set_option maxRecDepth 100000 in
theorem c_X5_truckRisk (l : Launch) (G : gC) (A : Nat → Prop) (hM hTm hkd hsz hld hch hdk htk hme hte : Nat) (v : Int32) (hv : vp_in v 70) (w : Int32) (u : MS) (hok : m_ok u) : CI l yX5_truckRisk wsX5_truckRisk ({ frames := 2, cells := 0, slots := 0, locals := 43 } : Room) G A (m_W (gI G) hM hTm hkd hsz hld hch hdk htk hme hte) m_ok [.ref hM, .int v, .int w] u (f_X5_truckRisk v w u) := by
  refine Met.ofW (cc := cX5_truckRisk) (maxL := 3) (ret := (some .int)) (by decide) rfl ?_
  intro p e s m args below meth c s₁ B hml hv
  obtain ⟨rfl, hE, hP, hD⟩ := hv
  have hl := lv_entry ([.ref hM, .int v, .int w]) (n := 3) (Nat.le_of_ble_eq_true rfl)
  rw [lg_entry_eq]
  generalize (lg_sl ([.ref hM, .int v, .int w]) ++ List.replicate (3 - (lg_sl ([.ref hM, .int v, .int w])).length) Slot.unset).toArray = ls at hl ⊢
  exact c_X5_truckRisk_0 l G A hM hTm hkd hsz hld hch hdk htk hme hte v hv ⟨⟨B.exec, B.bytes, hml, findClass_of_methodNamed B.named, atoms_spec (ws := wsX5_truckRisk) B.pre⟩, B.returns, B.notSynchronized⟩ hE w u hP hD hok va_S.rf hl rfl

-- FerryDecksModel.gasRisk
def f_X5_gasRisk_k30 (v : Int32) (q30 : Int32 × MS) : Int32 × MS :=
  (q30.1, q30.2)
def f_X5_gasRisk_k10 (v : Int32) (q10 : Int32 × MS) : Int32 × MS :=
  (if (m_fl q10.2) = 0 then (if (q10.1 &&& (1 : Int32)) = (1 : Int32) then (f_X5_gasRisk_k30 v (f_X5_fails (3 : Int32) q10.2)) else (q10.1, q10.2)) else (q10.1, q10.2))
def f_X5_gasRisk_k4 (v : Int32) (w : Int32) (q4 : MS) : Int32 × MS :=
  (f_X5_gasRisk_k10 v (f_X5_truckRisk v w q4))
def f_X5_gasRisk (v : Int32) (w : Int32) (u : MS) : Int32 × MS :=
  (f_X5_gasRisk_k4 v w (f_X5_began (8 : Int32) (2 : Int32) u))
set_option maxHeartbeats 4000000 in
set_option maxRecDepth 100000 in
theorem c_X5_gasRisk_0 {p : Program} {e : Env} {s : State} {m : MethodId} {args : Array Value} {below : List Frame} {meth : Method} {c : Code} (l : Launch) (G : gC) (A : Nat → Prop) (hM hTm hkd hsz hld hch hdk htk hme hte : Nat) (v : Int32) (hv : vp_in v 70) (C0 : gX p s m args meth c cX5_gasRisk 4 wsX5_gasRisk RX5 (some .int)) (hE : gE G A s) (w : Int32) (u : MS) {H : Heap} {locs : List Loc} (hP : va_P (gD G) vwCl ((m_W (gI G) hM hTm hkd hsz hld hch hdk htk hme hte) u) H) (hD : va_D A ((m_W (gI G) hM hTm hkd hsz hld hch hdk htk hme hte) u)) (hok : m_ok u) (hS : va_S A s.heap H locs) {ls : Array Slot} (hl : lv_has ls 4 [(0, .ref hM), (1, .int v), (2, .int w)]) {fv : Int32 × MS} (hfv : f_X5_gasRisk v w u = fv) : W p l e ({ frames := 3, cells := 0, slots := 0, locals := 65 } : Room) s m args below meth c H locs 0 0 (MQ below (gQi G A (m_W (gI G) hM hTm hkd hsz hld hch hdk htk hme hte) m_ok fv) args s 0 0 A) (F0 m 0 ls []) := by
  obtain ⟨⟨hx, hb, hml, hown, hts⟩, hr, hlk⟩ := id C0
  have hok0 := hok
  have k0 := hts (.fieldLink RX5 73 "FerryDecksModel" "failure" "I") (by decide +kernel)
  have iX5 : ∀ w ∈ wsX50, w ∈ wsX5_gasRisk := by decide +kernel
  refine lv_aload_n hx hb dX5_gasRisk_0 rfl (lv_at hl 0 rfl) ?_
  refine lv_bipush (v := 8) hx hb dX5_gasRisk_1 (by decide) ?_
  refine lv_iconst (v := 2) hx hb dX5_gasRisk_3 (by decide) ?_
  refine gVv (u := u) (Wd := (m_W (gI G) hM hTm hkd hsz hld hch hdk htk hme hte)) (ok := m_ok) (As := [.int (8 : Int32), .int (2 : Int32)]) (rest := []) ⟨hx, hb, hml, hown, hts⟩ (c_X5_began l G A hM hTm hkd hsz hld hch hdk htk hme hte (8 : Int32) (2 : Int32) u hok) (cwV 2 hts gX5_gasRisk_X5_began rfl rfl rfl (by decide +kernel) ⟨Nat.le_of_ble_eq_true rfl, Nat.le_of_ble_eq_true rfl⟩) hE hP hD hS (va_recv hE.1 hP (ci := 5) (q0 := 0) rfl rfl) rfl hl.1 rfl (Nat.le_of_ble_eq_true rfl) dX5_gasRisk_4 ⟨Nat.zero_le _, Nat.zero_le _⟩ (fun q4 H locs e4 hP hD hok hS => ?_)
  refine lv_aload_n hx hb dX5_gasRisk_7 rfl (lv_at hl 0 rfl) ?_
  refine lv_iload_n hx hb dX5_gasRisk_8 rfl (lv_at hl 1 rfl) ?_
  refine lv_iload_n hx hb dX5_gasRisk_9 rfl (lv_at hl 2 rfl) ?_
  refine gVi (u := q4) (Wd := (m_W (gI G) hM hTm hkd hsz hld hch hdk htk hme hte)) (ok := m_ok) (As := [.int v, .int w]) (rest := []) ⟨hx, hb, hml, hown, hts⟩ (c_X5_truckRisk l G A hM hTm hkd hsz hld hch hdk htk hme hte v hv w q4 hok) (cwV 2 hts gX5_gasRisk_X5_truckRisk rfl rfl rfl (by decide +kernel) ⟨Nat.le_of_ble_eq_true rfl, Nat.le_of_ble_eq_true rfl⟩) hE hP hD hS (va_recv hE.1 hP (ci := 5) (q0 := 0) rfl rfl) rfl hl.1 rfl (Nat.le_of_ble_eq_true rfl) dX5_gasRisk_10 ⟨Nat.zero_le _, Nat.zero_le _⟩ (fun q10 H locs e10 hP hD hok hS => ?_)
  refine lv_istore_n (lv' := [(3, .int q10.1), (0, .ref hM), (1, .int v), (2, .int w)]) hx hb dX5_gasRisk_13 rfl hl (by decide) rfl (fun ls hl => ?_)
  refine lv_aload_n hx hb dX5_gasRisk_14 rfl (lv_at hl 1 rfl) ?_
  refine va_get (D := gD G) (ci := 5) (v := .int (m_fl q10.2)) (C := RX5) (T := TX5) (N := 17) hx hb hts iX5 hown hE.1 hP 0 rfl rfl 16 (by decide) k0 (fun _ h9 => h9) rfl dX5_gasRisk_15 ?_
  refine lv_if_ne (tgt := 36) hx hb dX5_gasRisk_18 (by decide) (fun c18 => ?_) (fun c18 => ?_)
  · refine lv_iload_n hx hb dX5_gasRisk_36 rfl (lv_at hl 0 rfl) ?_
    exact gRi (u := q10.2) hx hb hr hlk hP hD hok hS (by rw [← hfv, f_X5_gasRisk, ← e4, f_X5_gasRisk_k4, ← e10, f_X5_gasRisk_k10, if_neg c18]) dX5_gasRisk_37
  · refine lv_iload_n hx hb dX5_gasRisk_21 rfl (lv_at hl 0 rfl) ?_
    refine lv_iconst (v := 1) hx hb dX5_gasRisk_22 (by decide) ?_
    refine lv_iand hx hb dX5_gasRisk_23 ?_
    refine lv_iconst (v := 1) hx hb dX5_gasRisk_24 (by decide) ?_
    refine lv_icmp_ne (tgt := 36) hx hb dX5_gasRisk_25 (by decide) (fun c25 => ?_) (fun c25 => ?_)
    · refine lv_iload_n hx hb dX5_gasRisk_36 rfl (lv_at hl 0 rfl) ?_
      exact gRi (u := q10.2) hx hb hr hlk hP hD hok hS (by rw [← hfv, f_X5_gasRisk, ← e4, f_X5_gasRisk_k4, ← e10, f_X5_gasRisk_k10, if_pos c18, if_neg c25]) dX5_gasRisk_37
    · refine lv_aload_n hx hb dX5_gasRisk_28 rfl (lv_at hl 1 rfl) ?_
      refine lv_iconst (v := 3) hx hb dX5_gasRisk_29 (by decide) ?_
      refine gVi (u := q10.2) (Wd := (m_W (gI G) hM hTm hkd hsz hld hch hdk htk hme hte)) (ok := m_ok) (As := [.int (3 : Int32)]) (rest := []) ⟨hx, hb, hml, hown, hts⟩ (c_X5_fails l G A hM hTm hkd hsz hld hch hdk htk hme hte (3 : Int32) q10.2 hok) (cwV 1 hts gX5_gasRisk_X5_fails rfl rfl rfl (by decide +kernel) ⟨Nat.le_of_ble_eq_true rfl, Nat.le_of_ble_eq_true rfl⟩) hE hP hD hS (va_recv hE.1 hP (ci := 5) (q0 := 0) rfl rfl) rfl hl.1 rfl (Nat.le_of_ble_eq_true rfl) dX5_gasRisk_30 ⟨Nat.zero_le _, Nat.zero_le _⟩ (fun q30 H locs e30 hP hD hok hS => ?_)
      refine lv_goto (tgt := 37) hx hb dX5_gasRisk_33 (by decide) ?_
      exact gRi (u := q30.2) hx hb hr hlk hP hD hok hS (by rw [← hfv, f_X5_gasRisk, ← e4, f_X5_gasRisk_k4, ← e10, f_X5_gasRisk_k10, if_pos c18, if_pos c25, ← e30, f_X5_gasRisk_k30]) dX5_gasRisk_37
set_option maxHeartbeats 4000000 in
set_option maxRecDepth 100000 in
theorem c_X5_gasRisk (l : Launch) (G : gC) (A : Nat → Prop) (hM hTm hkd hsz hld hch hdk htk hme hte : Nat) (v : Int32) (hv : vp_in v 70) (w : Int32) (u : MS) (hok : m_ok u) : CI l yX5_gasRisk wsX5_gasRisk ({ frames := 3, cells := 0, slots := 0, locals := 65 } : Room) G A (m_W (gI G) hM hTm hkd hsz hld hch hdk htk hme hte) m_ok [.ref hM, .int v, .int w] u (f_X5_gasRisk v w u) := by
  refine Met.ofW (cc := cX5_gasRisk) (maxL := 4) (ret := (some .int)) (by decide) rfl ?_
  intro p e s m args below meth c s₁ B hml hv
  obtain ⟨rfl, hE, hP, hD⟩ := hv
  have hl := lv_entry ([.ref hM, .int v, .int w]) (n := 4) (Nat.le_of_ble_eq_true rfl)
  rw [lg_entry_eq]
  generalize (lg_sl ([.ref hM, .int v, .int w]) ++ List.replicate (4 - (lg_sl ([.ref hM, .int v, .int w])).length) Slot.unset).toArray = ls at hl ⊢
  exact c_X5_gasRisk_0 l G A hM hTm hkd hsz hld hch hdk htk hme hte v hv ⟨⟨B.exec, B.bytes, hml, findClass_of_methodNamed B.named, atoms_spec (ws := wsX5_gasRisk) B.pre⟩, B.returns, B.notSynchronized⟩ hE w u hP hD hok va_S.rf hl rfl

-- FerryDecksModel.riskOf
def f_X5_riskOf_k58 (v : Int32) (q58 : Int32 × MS) : Int32 × MS :=
  (q58.1, q58.2)
def f_X5_riskOf_k72 (v : Int32) (q72 : Int32 × MS) : Int32 × MS :=
  (q72.1, q72.2)
def f_X5_riskOf_k65 (v : Int32) (w : Int32) (q65 : MS) : Int32 × MS :=
  (f_X5_riskOf_k72 v (f_X5_plainRisk (w + (2 : Int32)) q65))
def f_X5_riskOf_k72_1 (v : Int32) (q72 : Int32 × MS) : Int32 × MS :=
  (q72.1, q72.2)
def f_X5_riskOf_k65_1 (v : Int32) (w : Int32) (q65 : MS) : Int32 × MS :=
  (f_X5_riskOf_k72_1 v (f_X5_plainRisk (w + (2 : Int32)) q65))
def f_X5_riskOf_k99 (v : Int32) (q99 : Int32 × MS) : Int32 × MS :=
  (q99.1, q99.2)
def f_X5_riskOf_k94 (v : Int32) (q94 : Int32 × MS) : Int32 × MS :=
  (f_X5_riskOf_k99 v (f_X5_taken (1 : Int32) q94.1 (20 : Int32) q94.2))
def f_X5_riskOf_k85 (v : Int32) (w : Int32) (q85 : MS) : Int32 × MS :=
  (f_X5_riskOf_k94 v (f_X5_plainRisk (w + (2 : Int32)) q85))
def f_X5_riskOf_k79 (v : Int32) (w : Int32) (q79 : MS) : Int32 × MS :=
  (f_X5_riskOf_k85 v w (f_X5_began (2 : Int32) (2 : Int32) q79))
def f_X5_riskOf_k99_1 (v : Int32) (q99 : Int32 × MS) : Int32 × MS :=
  (q99.1, q99.2)
def f_X5_riskOf_k94_1 (v : Int32) (q94 : Int32 × MS) : Int32 × MS :=
  (f_X5_riskOf_k99_1 v (f_X5_taken (1 : Int32) q94.1 (20 : Int32) q94.2))
def f_X5_riskOf_k85_1 (v : Int32) (w : Int32) (q85 : MS) : Int32 × MS :=
  (f_X5_riskOf_k94_1 v (f_X5_plainRisk (w + (2 : Int32)) q85))
def f_X5_riskOf_k79_1 (v : Int32) (w : Int32) (q79 : MS) : Int32 × MS :=
  (f_X5_riskOf_k85_1 v w (f_X5_began (2 : Int32) (2 : Int32) q79))
def f_X5_riskOf_k106 (v : Int32) (q106 : Int32 × MS) : Int32 × MS :=
  (q106.1, q106.2)
def f_X5_riskOf_k106_1 (v : Int32) (q106 : Int32 × MS) : Int32 × MS :=
  (q106.1, q106.2)
def f_X5_riskOf_k113 (v : Int32) (q113 : Int32 × MS) : Int32 × MS :=
  (q113.1, q113.2)
def f_X5_riskOf_k134 (v : Int32) (q134 : Int32 × MS) : Int32 × MS :=
  (q134.1, q134.2)
def f_X5_riskOf_k129 (v : Int32) (q129 : Int32 × MS) : Int32 × MS :=
  (f_X5_riskOf_k134 v (f_X5_taken (3 : Int32) q129.1 (50 : Int32) q129.2))
def f_X5_riskOf_k121 (v : Int32) (w : Int32) (q121 : MS) : Int32 × MS :=
  (f_X5_riskOf_k129 v (f_X5_gasRisk v w q121))
def f_X5_riskOf (v : Int32) (w : Int32) (u : MS) : Int32 × MS :=
  (if (m_kd u (v : Int32).toNatClampNeg) = 1 then (f_X5_riskOf_k58 v (f_X5_plainRisk w u)) else (if (m_kd u (v : Int32).toNatClampNeg) = 2 then (f_X5_riskOf_k65 v w (f_X5_began (2 : Int32) (2 : Int32) u)) else (if (m_kd u (v : Int32).toNatClampNeg) = 3 then (f_X5_riskOf_k65_1 v w (f_X5_began (2 : Int32) (2 : Int32) u)) else (if (m_kd u (v : Int32).toNatClampNeg) = 4 then (f_X5_riskOf_k79 v w (f_X5_began (4 : Int32) (2 : Int32) u)) else (if (m_kd u (v : Int32).toNatClampNeg) = 5 then (f_X5_riskOf_k79_1 v w (f_X5_began (4 : Int32) (2 : Int32) u)) else (if (m_kd u (v : Int32).toNatClampNeg) = 6 then (f_X5_riskOf_k106 v (f_X5_truckRisk v w u)) else (if (m_kd u (v : Int32).toNatClampNeg) = 7 then (f_X5_riskOf_k106_1 v (f_X5_truckRisk v w u)) else (if (m_kd u (v : Int32).toNatClampNeg) = 8 then (f_X5_riskOf_k113 v (f_X5_gasRisk v w u)) else (f_X5_riskOf_k121 v w (f_X5_began (9 : Int32) (2 : Int32) u))))))))))
set_option maxHeartbeats 4000000 in
set_option maxRecDepth 100000 in
theorem c_X5_riskOf_0 {p : Program} {e : Env} {s : State} {m : MethodId} {args : Array Value} {below : List Frame} {meth : Method} {c : Code} (l : Launch) (G : gC) (A : Nat → Prop) (hM hTm hkd hsz hld hch hdk htk hme hte : Nat) (v : Int32) (hv : vp_in v 70) (C0 : gX p s m args meth c cX5_riskOf 4 wsX5_riskOf RX5 (some .int)) (hE : gE G A s) (w : Int32) (u : MS) {H : Heap} {locs : List Loc} (hP : va_P (gD G) vwCl ((m_W (gI G) hM hTm hkd hsz hld hch hdk htk hme hte) u) H) (hD : va_D A ((m_W (gI G) hM hTm hkd hsz hld hch hdk htk hme hte) u)) (hok : m_ok u) (hS : va_S A s.heap H locs) {ls : Array Slot} (hl : lv_has ls 4 [(0, .ref hM), (1, .int v), (2, .int w)]) {fv : Int32 × MS} (hfv : f_X5_riskOf v w u = fv) : W p l e ({ frames := 4, cells := 0, slots := 0, locals := 88 } : Room) s m args below meth c H locs 0 0 (MQ below (gQi G A (m_W (gI G) hM hTm hkd hsz hld hch hdk htk hme hte) m_ok fv) args s 0 0 A) (F0 m 0 ls []) := by
  obtain ⟨⟨hx, hb, hml, hown, hts⟩, hr, hlk⟩ := id C0
  have hok0 := hok
  have k0 := hts (.fieldLink RX5 13 "FerryDecksModel" "kinds" "[I") (by decide +kernel)
  have iX5 : ∀ w ∈ wsX50, w ∈ wsX5_riskOf := by decide +kernel
  refine lv_aload_n hx hb dX5_riskOf_0 rfl (lv_at hl 0 rfl) ?_
  refine va_get (D := gD G) (ci := 5) (v := .ref hkd) (C := RX5) (T := TX5) (N := 17) hx hb hts iX5 hown hE.1 hP 0 rfl rfl 2 (by decide) k0 (fun _ h9 => h9) rfl dX5_riskOf_1 ?_
  refine lv_iload_n hx hb dX5_riskOf_4 rfl (lv_at hl 1 rfl) ?_
  refine va_iald hx hb hE.1 hP 2 0 rfl rfl (hv) dX5_riskOf_5 ?_
  refine lv_istore_n (lv' := [(3, .int (m_kd u (v : Int32).toNatClampNeg)), (0, .ref hM), (1, .int v), (2, .int w)]) hx hb dX5_riskOf_6 rfl hl (by decide) rfl (fun ls hl => ?_)
  refine lv_iload_n hx hb dX5_riskOf_7 rfl (lv_at hl 0 rfl) ?_
  by_cases c8_1 : (m_kd u (v : Int32).toNatClampNeg) = 1
  · refine gTs (off := 48) (tgt := 56) hx hb dX5_riskOf_8 rfl (by rw [c8_1]; decide) (by decide) ?_
    refine lv_aload_n hx hb dX5_riskOf_56 rfl (lv_at hl 1 rfl) ?_
    refine lv_iload_n hx hb dX5_riskOf_57 rfl (lv_at hl 3 rfl) ?_
    refine gVi (u := u) (Wd := (m_W (gI G) hM hTm hkd hsz hld hch hdk htk hme hte)) (ok := m_ok) (As := [.int w]) (rest := []) ⟨hx, hb, hml, hown, hts⟩ (c_X5_plainRisk l G A hM hTm hkd hsz hld hch hdk htk hme hte w u hok) (cwV 1 hts gX5_riskOf_X5_plainRisk rfl rfl rfl (by decide +kernel) ⟨Nat.le_of_ble_eq_true rfl, Nat.le_of_ble_eq_true rfl⟩) hE hP hD hS (va_recv hE.1 hP (ci := 5) (q0 := 0) rfl rfl) rfl hl.1 rfl (Nat.le_of_ble_eq_true rfl) dX5_riskOf_58 ⟨Nat.zero_le _, Nat.zero_le _⟩ (fun q58 H locs e58 hP hD hok hS => ?_)
    exact gRi (u := q58.2) hx hb hr hlk hP hD hok hS (by rw [← hfv, f_X5_riskOf, if_pos c8_1, ← e58, f_X5_riskOf_k58]) dX5_riskOf_61
  by_cases c8_2 : (m_kd u (v : Int32).toNatClampNeg) = 2
  · refine gTs (off := 54) (tgt := 62) hx hb dX5_riskOf_8 rfl (by rw [c8_2]; decide) (by decide) ?_
    refine lv_aload_n hx hb dX5_riskOf_62 rfl (lv_at hl 1 rfl) ?_
    refine lv_iconst (v := 2) hx hb dX5_riskOf_63 (by decide) ?_
    refine lv_iconst (v := 2) hx hb dX5_riskOf_64 (by decide) ?_
    refine gVv (u := u) (Wd := (m_W (gI G) hM hTm hkd hsz hld hch hdk htk hme hte)) (ok := m_ok) (As := [.int (2 : Int32), .int (2 : Int32)]) (rest := []) ⟨hx, hb, hml, hown, hts⟩ (c_X5_began l G A hM hTm hkd hsz hld hch hdk htk hme hte (2 : Int32) (2 : Int32) u hok) (cwV 2 hts gX5_riskOf_X5_began rfl rfl rfl (by decide +kernel) ⟨Nat.le_of_ble_eq_true rfl, Nat.le_of_ble_eq_true rfl⟩) hE hP hD hS (va_recv hE.1 hP (ci := 5) (q0 := 0) rfl rfl) rfl hl.1 rfl (Nat.le_of_ble_eq_true rfl) dX5_riskOf_65 ⟨Nat.zero_le _, Nat.zero_le _⟩ (fun q65 H locs e65 hP hD hok hS => ?_)
    refine lv_aload_n hx hb dX5_riskOf_68 rfl (lv_at hl 1 rfl) ?_
    refine lv_iload_n hx hb dX5_riskOf_69 rfl (lv_at hl 3 rfl) ?_
    refine lv_iconst (v := 2) hx hb dX5_riskOf_70 (by decide) ?_
    refine lv_iadd hx hb dX5_riskOf_71 ?_
    refine gVi (u := q65) (Wd := (m_W (gI G) hM hTm hkd hsz hld hch hdk htk hme hte)) (ok := m_ok) (As := [.int (w + (2 : Int32))]) (rest := []) ⟨hx, hb, hml, hown, hts⟩ (c_X5_plainRisk l G A hM hTm hkd hsz hld hch hdk htk hme hte (w + (2 : Int32)) q65 hok) (cwV 1 hts gX5_riskOf_X5_plainRisk rfl rfl rfl (by decide +kernel) ⟨Nat.le_of_ble_eq_true rfl, Nat.le_of_ble_eq_true rfl⟩) hE hP hD hS (va_recv hE.1 hP (ci := 5) (q0 := 0) rfl rfl) rfl hl.1 rfl (Nat.le_of_ble_eq_true rfl) dX5_riskOf_72 ⟨Nat.zero_le _, Nat.zero_le _⟩ (fun q72 H locs e72 hP hD hok hS => ?_)
    exact gRi (u := q72.2) hx hb hr hlk hP hD hok hS (by rw [← hfv, f_X5_riskOf, if_neg c8_1, if_pos c8_2, ← e65, f_X5_riskOf_k65, ← e72, f_X5_riskOf_k72]) dX5_riskOf_75
  by_cases c8_3 : (m_kd u (v : Int32).toNatClampNeg) = 3
  · refine gTs (off := 54) (tgt := 62) hx hb dX5_riskOf_8 rfl (by rw [c8_3]; decide) (by decide) ?_
    refine lv_aload_n hx hb dX5_riskOf_62 rfl (lv_at hl 1 rfl) ?_
    refine lv_iconst (v := 2) hx hb dX5_riskOf_63 (by decide) ?_
    refine lv_iconst (v := 2) hx hb dX5_riskOf_64 (by decide) ?_
    refine gVv (u := u) (Wd := (m_W (gI G) hM hTm hkd hsz hld hch hdk htk hme hte)) (ok := m_ok) (As := [.int (2 : Int32), .int (2 : Int32)]) (rest := []) ⟨hx, hb, hml, hown, hts⟩ (c_X5_began l G A hM hTm hkd hsz hld hch hdk htk hme hte (2 : Int32) (2 : Int32) u hok) (cwV 2 hts gX5_riskOf_X5_began rfl rfl rfl (by decide +kernel) ⟨Nat.le_of_ble_eq_true rfl, Nat.le_of_ble_eq_true rfl⟩) hE hP hD hS (va_recv hE.1 hP (ci := 5) (q0 := 0) rfl rfl) rfl hl.1 rfl (Nat.le_of_ble_eq_true rfl) dX5_riskOf_65 ⟨Nat.zero_le _, Nat.zero_le _⟩ (fun q65 H locs e65 hP hD hok hS => ?_)
    refine lv_aload_n hx hb dX5_riskOf_68 rfl (lv_at hl 1 rfl) ?_
    refine lv_iload_n hx hb dX5_riskOf_69 rfl (lv_at hl 3 rfl) ?_
    refine lv_iconst (v := 2) hx hb dX5_riskOf_70 (by decide) ?_
    refine lv_iadd hx hb dX5_riskOf_71 ?_
    refine gVi (u := q65) (Wd := (m_W (gI G) hM hTm hkd hsz hld hch hdk htk hme hte)) (ok := m_ok) (As := [.int (w + (2 : Int32))]) (rest := []) ⟨hx, hb, hml, hown, hts⟩ (c_X5_plainRisk l G A hM hTm hkd hsz hld hch hdk htk hme hte (w + (2 : Int32)) q65 hok) (cwV 1 hts gX5_riskOf_X5_plainRisk rfl rfl rfl (by decide +kernel) ⟨Nat.le_of_ble_eq_true rfl, Nat.le_of_ble_eq_true rfl⟩) hE hP hD hS (va_recv hE.1 hP (ci := 5) (q0 := 0) rfl rfl) rfl hl.1 rfl (Nat.le_of_ble_eq_true rfl) dX5_riskOf_72 ⟨Nat.zero_le _, Nat.zero_le _⟩ (fun q72 H locs e72 hP hD hok hS => ?_)
    exact gRi (u := q72.2) hx hb hr hlk hP hD hok hS (by rw [← hfv, f_X5_riskOf, if_neg c8_1, if_neg c8_2, if_pos c8_3, ← e65, f_X5_riskOf_k65_1, ← e72, f_X5_riskOf_k72_1]) dX5_riskOf_75
  by_cases c8_4 : (m_kd u (v : Int32).toNatClampNeg) = 4
  · refine gTs (off := 68) (tgt := 76) hx hb dX5_riskOf_8 rfl (by rw [c8_4]; decide) (by decide) ?_
    refine lv_aload_n hx hb dX5_riskOf_76 rfl (lv_at hl 1 rfl) ?_
    refine lv_iconst (v := 4) hx hb dX5_riskOf_77 (by decide) ?_
    refine lv_iconst (v := 2) hx hb dX5_riskOf_78 (by decide) ?_
    refine gVv (u := u) (Wd := (m_W (gI G) hM hTm hkd hsz hld hch hdk htk hme hte)) (ok := m_ok) (As := [.int (4 : Int32), .int (2 : Int32)]) (rest := []) ⟨hx, hb, hml, hown, hts⟩ (c_X5_began l G A hM hTm hkd hsz hld hch hdk htk hme hte (4 : Int32) (2 : Int32) u hok) (cwV 2 hts gX5_riskOf_X5_began rfl rfl rfl (by decide +kernel) ⟨Nat.le_of_ble_eq_true rfl, Nat.le_of_ble_eq_true rfl⟩) hE hP hD hS (va_recv hE.1 hP (ci := 5) (q0 := 0) rfl rfl) rfl hl.1 rfl (Nat.le_of_ble_eq_true rfl) dX5_riskOf_79 ⟨Nat.zero_le _, Nat.zero_le _⟩ (fun q79 H locs e79 hP hD hok hS => ?_)
    refine lv_aload_n hx hb dX5_riskOf_82 rfl (lv_at hl 1 rfl) ?_
    refine lv_iconst (v := 2) hx hb dX5_riskOf_83 (by decide) ?_
    refine lv_iconst (v := 2) hx hb dX5_riskOf_84 (by decide) ?_
    refine gVv (u := q79) (Wd := (m_W (gI G) hM hTm hkd hsz hld hch hdk htk hme hte)) (ok := m_ok) (As := [.int (2 : Int32), .int (2 : Int32)]) (rest := []) ⟨hx, hb, hml, hown, hts⟩ (c_X5_began l G A hM hTm hkd hsz hld hch hdk htk hme hte (2 : Int32) (2 : Int32) q79 hok) (cwV 2 hts gX5_riskOf_X5_began rfl rfl rfl (by decide +kernel) ⟨Nat.le_of_ble_eq_true rfl, Nat.le_of_ble_eq_true rfl⟩) hE hP hD hS (va_recv hE.1 hP (ci := 5) (q0 := 0) rfl rfl) rfl hl.1 rfl (Nat.le_of_ble_eq_true rfl) dX5_riskOf_85 ⟨Nat.zero_le _, Nat.zero_le _⟩ (fun q85 H locs e85 hP hD hok hS => ?_)
    refine lv_aload_n hx hb dX5_riskOf_88 rfl (lv_at hl 1 rfl) ?_
    refine lv_iconst (v := 1) hx hb dX5_riskOf_89 (by decide) ?_
    refine lv_aload_n hx hb dX5_riskOf_90 rfl (lv_at hl 1 rfl) ?_
    refine lv_iload_n hx hb dX5_riskOf_91 rfl (lv_at hl 3 rfl) ?_
    refine lv_iconst (v := 2) hx hb dX5_riskOf_92 (by decide) ?_
    refine lv_iadd hx hb dX5_riskOf_93 ?_
    refine gVi (u := q85) (Wd := (m_W (gI G) hM hTm hkd hsz hld hch hdk htk hme hte)) (ok := m_ok) (As := [.int (w + (2 : Int32))]) (rest := [.int (1 : Int32), .ref hM]) ⟨hx, hb, hml, hown, hts⟩ (c_X5_plainRisk l G A hM hTm hkd hsz hld hch hdk htk hme hte (w + (2 : Int32)) q85 hok) (cwV 1 hts gX5_riskOf_X5_plainRisk rfl rfl rfl (by decide +kernel) ⟨Nat.le_of_ble_eq_true rfl, Nat.le_of_ble_eq_true rfl⟩) hE hP hD hS (va_recv hE.1 hP (ci := 5) (q0 := 0) rfl rfl) rfl hl.1 rfl (Nat.le_of_ble_eq_true rfl) dX5_riskOf_94 ⟨Nat.zero_le _, Nat.zero_le _⟩ (fun q94 H locs e94 hP hD hok hS => ?_)
    refine lv_bipush (v := 20) hx hb dX5_riskOf_97 (by decide) ?_
    refine gVi (u := q94.2) (Wd := (m_W (gI G) hM hTm hkd hsz hld hch hdk htk hme hte)) (ok := m_ok) (As := [.int (1 : Int32), .int q94.1, .int (20 : Int32)]) (rest := []) ⟨hx, hb, hml, hown, hts⟩ (c_X5_taken l G A hM hTm hkd hsz hld hch hdk htk hme hte (1 : Int32) q94.1 (20 : Int32) q94.2 hok) (cwV 3 hts gX5_riskOf_X5_taken rfl rfl rfl (by decide +kernel) ⟨Nat.le_of_ble_eq_true rfl, Nat.le_of_ble_eq_true rfl⟩) hE hP hD hS (va_recv hE.1 hP (ci := 5) (q0 := 0) rfl rfl) rfl hl.1 rfl (Nat.le_of_ble_eq_true rfl) dX5_riskOf_99 ⟨Nat.zero_le _, Nat.zero_le _⟩ (fun q99 H locs e99 hP hD hok hS => ?_)
    exact gRi (u := q99.2) hx hb hr hlk hP hD hok hS (by rw [← hfv, f_X5_riskOf, if_neg c8_1, if_neg c8_2, if_neg c8_3, if_pos c8_4, ← e79, f_X5_riskOf_k79, ← e85, f_X5_riskOf_k85, ← e94, f_X5_riskOf_k94, ← e99, f_X5_riskOf_k99]) dX5_riskOf_102
  by_cases c8_5 : (m_kd u (v : Int32).toNatClampNeg) = 5
  · refine gTs (off := 68) (tgt := 76) hx hb dX5_riskOf_8 rfl (by rw [c8_5]; decide) (by decide) ?_
    refine lv_aload_n hx hb dX5_riskOf_76 rfl (lv_at hl 1 rfl) ?_
    refine lv_iconst (v := 4) hx hb dX5_riskOf_77 (by decide) ?_
    refine lv_iconst (v := 2) hx hb dX5_riskOf_78 (by decide) ?_
    refine gVv (u := u) (Wd := (m_W (gI G) hM hTm hkd hsz hld hch hdk htk hme hte)) (ok := m_ok) (As := [.int (4 : Int32), .int (2 : Int32)]) (rest := []) ⟨hx, hb, hml, hown, hts⟩ (c_X5_began l G A hM hTm hkd hsz hld hch hdk htk hme hte (4 : Int32) (2 : Int32) u hok) (cwV 2 hts gX5_riskOf_X5_began rfl rfl rfl (by decide +kernel) ⟨Nat.le_of_ble_eq_true rfl, Nat.le_of_ble_eq_true rfl⟩) hE hP hD hS (va_recv hE.1 hP (ci := 5) (q0 := 0) rfl rfl) rfl hl.1 rfl (Nat.le_of_ble_eq_true rfl) dX5_riskOf_79 ⟨Nat.zero_le _, Nat.zero_le _⟩ (fun q79 H locs e79 hP hD hok hS => ?_)
    refine lv_aload_n hx hb dX5_riskOf_82 rfl (lv_at hl 1 rfl) ?_
    refine lv_iconst (v := 2) hx hb dX5_riskOf_83 (by decide) ?_
    refine lv_iconst (v := 2) hx hb dX5_riskOf_84 (by decide) ?_
    refine gVv (u := q79) (Wd := (m_W (gI G) hM hTm hkd hsz hld hch hdk htk hme hte)) (ok := m_ok) (As := [.int (2 : Int32), .int (2 : Int32)]) (rest := []) ⟨hx, hb, hml, hown, hts⟩ (c_X5_began l G A hM hTm hkd hsz hld hch hdk htk hme hte (2 : Int32) (2 : Int32) q79 hok) (cwV 2 hts gX5_riskOf_X5_began rfl rfl rfl (by decide +kernel) ⟨Nat.le_of_ble_eq_true rfl, Nat.le_of_ble_eq_true rfl⟩) hE hP hD hS (va_recv hE.1 hP (ci := 5) (q0 := 0) rfl rfl) rfl hl.1 rfl (Nat.le_of_ble_eq_true rfl) dX5_riskOf_85 ⟨Nat.zero_le _, Nat.zero_le _⟩ (fun q85 H locs e85 hP hD hok hS => ?_)
    refine lv_aload_n hx hb dX5_riskOf_88 rfl (lv_at hl 1 rfl) ?_
    refine lv_iconst (v := 1) hx hb dX5_riskOf_89 (by decide) ?_
    refine lv_aload_n hx hb dX5_riskOf_90 rfl (lv_at hl 1 rfl) ?_
    refine lv_iload_n hx hb dX5_riskOf_91 rfl (lv_at hl 3 rfl) ?_
    refine lv_iconst (v := 2) hx hb dX5_riskOf_92 (by decide) ?_
    refine lv_iadd hx hb dX5_riskOf_93 ?_
    refine gVi (u := q85) (Wd := (m_W (gI G) hM hTm hkd hsz hld hch hdk htk hme hte)) (ok := m_ok) (As := [.int (w + (2 : Int32))]) (rest := [.int (1 : Int32), .ref hM]) ⟨hx, hb, hml, hown, hts⟩ (c_X5_plainRisk l G A hM hTm hkd hsz hld hch hdk htk hme hte (w + (2 : Int32)) q85 hok) (cwV 1 hts gX5_riskOf_X5_plainRisk rfl rfl rfl (by decide +kernel) ⟨Nat.le_of_ble_eq_true rfl, Nat.le_of_ble_eq_true rfl⟩) hE hP hD hS (va_recv hE.1 hP (ci := 5) (q0 := 0) rfl rfl) rfl hl.1 rfl (Nat.le_of_ble_eq_true rfl) dX5_riskOf_94 ⟨Nat.zero_le _, Nat.zero_le _⟩ (fun q94 H locs e94 hP hD hok hS => ?_)
    refine lv_bipush (v := 20) hx hb dX5_riskOf_97 (by decide) ?_
    refine gVi (u := q94.2) (Wd := (m_W (gI G) hM hTm hkd hsz hld hch hdk htk hme hte)) (ok := m_ok) (As := [.int (1 : Int32), .int q94.1, .int (20 : Int32)]) (rest := []) ⟨hx, hb, hml, hown, hts⟩ (c_X5_taken l G A hM hTm hkd hsz hld hch hdk htk hme hte (1 : Int32) q94.1 (20 : Int32) q94.2 hok) (cwV 3 hts gX5_riskOf_X5_taken rfl rfl rfl (by decide +kernel) ⟨Nat.le_of_ble_eq_true rfl, Nat.le_of_ble_eq_true rfl⟩) hE hP hD hS (va_recv hE.1 hP (ci := 5) (q0 := 0) rfl rfl) rfl hl.1 rfl (Nat.le_of_ble_eq_true rfl) dX5_riskOf_99 ⟨Nat.zero_le _, Nat.zero_le _⟩ (fun q99 H locs e99 hP hD hok hS => ?_)
    exact gRi (u := q99.2) hx hb hr hlk hP hD hok hS (by rw [← hfv, f_X5_riskOf, if_neg c8_1, if_neg c8_2, if_neg c8_3, if_neg c8_4, if_pos c8_5, ← e79, f_X5_riskOf_k79_1, ← e85, f_X5_riskOf_k85_1, ← e94, f_X5_riskOf_k94_1, ← e99, f_X5_riskOf_k99_1]) dX5_riskOf_102
  by_cases c8_6 : (m_kd u (v : Int32).toNatClampNeg) = 6
  · refine gTs (off := 95) (tgt := 103) hx hb dX5_riskOf_8 rfl (by rw [c8_6]; decide) (by decide) ?_
    refine lv_aload_n hx hb dX5_riskOf_103 rfl (lv_at hl 1 rfl) ?_
    refine lv_iload_n hx hb dX5_riskOf_104 rfl (lv_at hl 2 rfl) ?_
    refine lv_iload_n hx hb dX5_riskOf_105 rfl (lv_at hl 3 rfl) ?_
    refine gVi (u := u) (Wd := (m_W (gI G) hM hTm hkd hsz hld hch hdk htk hme hte)) (ok := m_ok) (As := [.int v, .int w]) (rest := []) ⟨hx, hb, hml, hown, hts⟩ (c_X5_truckRisk l G A hM hTm hkd hsz hld hch hdk htk hme hte v hv w u hok) (cwV 2 hts gX5_riskOf_X5_truckRisk rfl rfl rfl (by decide +kernel) ⟨Nat.le_of_ble_eq_true rfl, Nat.le_of_ble_eq_true rfl⟩) hE hP hD hS (va_recv hE.1 hP (ci := 5) (q0 := 0) rfl rfl) rfl hl.1 rfl (Nat.le_of_ble_eq_true rfl) dX5_riskOf_106 ⟨Nat.zero_le _, Nat.zero_le _⟩ (fun q106 H locs e106 hP hD hok hS => ?_)
    exact gRi (u := q106.2) hx hb hr hlk hP hD hok hS (by rw [← hfv, f_X5_riskOf, if_neg c8_1, if_neg c8_2, if_neg c8_3, if_neg c8_4, if_neg c8_5, if_pos c8_6, ← e106, f_X5_riskOf_k106]) dX5_riskOf_109
  by_cases c8_7 : (m_kd u (v : Int32).toNatClampNeg) = 7
  · refine gTs (off := 95) (tgt := 103) hx hb dX5_riskOf_8 rfl (by rw [c8_7]; decide) (by decide) ?_
    refine lv_aload_n hx hb dX5_riskOf_103 rfl (lv_at hl 1 rfl) ?_
    refine lv_iload_n hx hb dX5_riskOf_104 rfl (lv_at hl 2 rfl) ?_
    refine lv_iload_n hx hb dX5_riskOf_105 rfl (lv_at hl 3 rfl) ?_
    refine gVi (u := u) (Wd := (m_W (gI G) hM hTm hkd hsz hld hch hdk htk hme hte)) (ok := m_ok) (As := [.int v, .int w]) (rest := []) ⟨hx, hb, hml, hown, hts⟩ (c_X5_truckRisk l G A hM hTm hkd hsz hld hch hdk htk hme hte v hv w u hok) (cwV 2 hts gX5_riskOf_X5_truckRisk rfl rfl rfl (by decide +kernel) ⟨Nat.le_of_ble_eq_true rfl, Nat.le_of_ble_eq_true rfl⟩) hE hP hD hS (va_recv hE.1 hP (ci := 5) (q0 := 0) rfl rfl) rfl hl.1 rfl (Nat.le_of_ble_eq_true rfl) dX5_riskOf_106 ⟨Nat.zero_le _, Nat.zero_le _⟩ (fun q106 H locs e106 hP hD hok hS => ?_)
    exact gRi (u := q106.2) hx hb hr hlk hP hD hok hS (by rw [← hfv, f_X5_riskOf, if_neg c8_1, if_neg c8_2, if_neg c8_3, if_neg c8_4, if_neg c8_5, if_neg c8_6, if_pos c8_7, ← e106, f_X5_riskOf_k106_1]) dX5_riskOf_109
  by_cases c8_8 : (m_kd u (v : Int32).toNatClampNeg) = 8
  · refine gTs (off := 102) (tgt := 110) hx hb dX5_riskOf_8 rfl (by rw [c8_8]; decide) (by decide) ?_
    refine lv_aload_n hx hb dX5_riskOf_110 rfl (lv_at hl 1 rfl) ?_
    refine lv_iload_n hx hb dX5_riskOf_111 rfl (lv_at hl 2 rfl) ?_
    refine lv_iload_n hx hb dX5_riskOf_112 rfl (lv_at hl 3 rfl) ?_
    refine gVi (u := u) (Wd := (m_W (gI G) hM hTm hkd hsz hld hch hdk htk hme hte)) (ok := m_ok) (As := [.int v, .int w]) (rest := []) ⟨hx, hb, hml, hown, hts⟩ (c_X5_gasRisk l G A hM hTm hkd hsz hld hch hdk htk hme hte v hv w u hok) (cwV 2 hts gX5_riskOf_X5_gasRisk rfl rfl rfl (by decide +kernel) ⟨Nat.le_of_ble_eq_true rfl, Nat.le_of_ble_eq_true rfl⟩) hE hP hD hS (va_recv hE.1 hP (ci := 5) (q0 := 0) rfl rfl) rfl hl.1 rfl (Nat.le_of_ble_eq_true rfl) dX5_riskOf_113 ⟨Nat.zero_le _, Nat.zero_le _⟩ (fun q113 H locs e113 hP hD hok hS => ?_)
    exact gRi (u := q113.2) hx hb hr hlk hP hD hok hS (by rw [← hfv, f_X5_riskOf, if_neg c8_1, if_neg c8_2, if_neg c8_3, if_neg c8_4, if_neg c8_5, if_neg c8_6, if_neg c8_7, if_pos c8_8, ← e113, f_X5_riskOf_k113]) dX5_riskOf_116
  refine gTs (off := 109) (tgt := 117) hx hb dX5_riskOf_8 rfl (by have z1 := lv_neT (a := 1) c8_1 (by decide); have z2 := lv_neT (a := 2) c8_2 (by decide); have z3 := lv_neT (a := 3) c8_3 (by decide); have z4 := lv_neT (a := 4) c8_4 (by decide); have z5 := lv_neT (a := 5) c8_5 (by decide); have z6 := lv_neT (a := 6) c8_6 (by decide); have z7 := lv_neT (a := 7) c8_7 (by decide); have z8 := lv_neT (a := 8) c8_8 (by decide); unfold tsO; by_cases hh : (m_kd u (v : Int32).toNatClampNeg).toInt < 1 ∨ 8 < (m_kd u (v : Int32).toNatClampNeg).toInt; (rw [if_pos hh]); (rw [if_neg hh]; omega)) (by decide) ?_
  refine lv_aload_n hx hb dX5_riskOf_117 rfl (lv_at hl 1 rfl) ?_
  refine lv_bipush (v := 9) hx hb dX5_riskOf_118 (by decide) ?_
  refine lv_iconst (v := 2) hx hb dX5_riskOf_120 (by decide) ?_
  refine gVv (u := u) (Wd := (m_W (gI G) hM hTm hkd hsz hld hch hdk htk hme hte)) (ok := m_ok) (As := [.int (9 : Int32), .int (2 : Int32)]) (rest := []) ⟨hx, hb, hml, hown, hts⟩ (c_X5_began l G A hM hTm hkd hsz hld hch hdk htk hme hte (9 : Int32) (2 : Int32) u hok) (cwV 2 hts gX5_riskOf_X5_began rfl rfl rfl (by decide +kernel) ⟨Nat.le_of_ble_eq_true rfl, Nat.le_of_ble_eq_true rfl⟩) hE hP hD hS (va_recv hE.1 hP (ci := 5) (q0 := 0) rfl rfl) rfl hl.1 rfl (Nat.le_of_ble_eq_true rfl) dX5_riskOf_121 ⟨Nat.zero_le _, Nat.zero_le _⟩ (fun q121 H locs e121 hP hD hok hS => ?_)
  refine lv_aload_n hx hb dX5_riskOf_124 rfl (lv_at hl 1 rfl) ?_
  refine lv_iconst (v := 3) hx hb dX5_riskOf_125 (by decide) ?_
  refine lv_aload_n hx hb dX5_riskOf_126 rfl (lv_at hl 1 rfl) ?_
  refine lv_iload_n hx hb dX5_riskOf_127 rfl (lv_at hl 2 rfl) ?_
  refine lv_iload_n hx hb dX5_riskOf_128 rfl (lv_at hl 3 rfl) ?_
  refine gVi (u := q121) (Wd := (m_W (gI G) hM hTm hkd hsz hld hch hdk htk hme hte)) (ok := m_ok) (As := [.int v, .int w]) (rest := [.int (3 : Int32), .ref hM]) ⟨hx, hb, hml, hown, hts⟩ (c_X5_gasRisk l G A hM hTm hkd hsz hld hch hdk htk hme hte v hv w q121 hok) (cwV 2 hts gX5_riskOf_X5_gasRisk rfl rfl rfl (by decide +kernel) ⟨Nat.le_of_ble_eq_true rfl, Nat.le_of_ble_eq_true rfl⟩) hE hP hD hS (va_recv hE.1 hP (ci := 5) (q0 := 0) rfl rfl) rfl hl.1 rfl (Nat.le_of_ble_eq_true rfl) dX5_riskOf_129 ⟨Nat.zero_le _, Nat.zero_le _⟩ (fun q129 H locs e129 hP hD hok hS => ?_)
  refine lv_bipush (v := 50) hx hb dX5_riskOf_132 (by decide) ?_
  refine gVi (u := q129.2) (Wd := (m_W (gI G) hM hTm hkd hsz hld hch hdk htk hme hte)) (ok := m_ok) (As := [.int (3 : Int32), .int q129.1, .int (50 : Int32)]) (rest := []) ⟨hx, hb, hml, hown, hts⟩ (c_X5_taken l G A hM hTm hkd hsz hld hch hdk htk hme hte (3 : Int32) q129.1 (50 : Int32) q129.2 hok) (cwV 3 hts gX5_riskOf_X5_taken rfl rfl rfl (by decide +kernel) ⟨Nat.le_of_ble_eq_true rfl, Nat.le_of_ble_eq_true rfl⟩) hE hP hD hS (va_recv hE.1 hP (ci := 5) (q0 := 0) rfl rfl) rfl hl.1 rfl (Nat.le_of_ble_eq_true rfl) dX5_riskOf_134 ⟨Nat.zero_le _, Nat.zero_le _⟩ (fun q134 H locs e134 hP hD hok hS => ?_)
  exact gRi (u := q134.2) hx hb hr hlk hP hD hok hS (by rw [← hfv, f_X5_riskOf, if_neg c8_1, if_neg c8_2, if_neg c8_3, if_neg c8_4, if_neg c8_5, if_neg c8_6, if_neg c8_7, if_neg c8_8, ← e121, f_X5_riskOf_k121, ← e129, f_X5_riskOf_k129, ← e134, f_X5_riskOf_k134]) dX5_riskOf_137
set_option maxHeartbeats 4000000 in
set_option maxRecDepth 100000 in
theorem c_X5_riskOf (l : Launch) (G : gC) (A : Nat → Prop) (hM hTm hkd hsz hld hch hdk htk hme hte : Nat) (v : Int32) (hv : vp_in v 70) (w : Int32) (u : MS) (hok : m_ok u) : CI l yX5_riskOf wsX5_riskOf ({ frames := 4, cells := 0, slots := 0, locals := 88 } : Room) G A (m_W (gI G) hM hTm hkd hsz hld hch hdk htk hme hte) m_ok [.ref hM, .int v, .int w] u (f_X5_riskOf v w u) := by
  refine Met.ofW (cc := cX5_riskOf) (maxL := 4) (ret := (some .int)) (by decide) rfl ?_
  intro p e s m args below meth c s₁ B hml hv
  obtain ⟨rfl, hE, hP, hD⟩ := hv
  have hl := lv_entry ([.ref hM, .int v, .int w]) (n := 4) (Nat.le_of_ble_eq_true rfl)
  rw [lg_entry_eq]
  generalize (lg_sl ([.ref hM, .int v, .int w]) ++ List.replicate (4 - (lg_sl ([.ref hM, .int v, .int w])).length) Slot.unset).toArray = ls at hl ⊢
  exact c_X5_riskOf_0 l G A hM hTm hkd hsz hld hch hdk htk hme hte v hv ⟨⟨B.exec, B.bytes, hml, findClass_of_methodNamed B.named, atoms_spec (ws := wsX5_riskOf) B.pre⟩, B.returns, B.notSynchronized⟩ hE w u hP hD hok va_S.rf hl rfl

-- FerryDecksModel.fee
def f_X5_fee_k54 (v : Int32) (q54 : Int32 × MS) : Int32 × MS :=
  (q54.1, q54.2)
def f_X5_fee_k54_1 (v : Int32) (q54 : Int32 × MS) : Int32 × MS :=
  (q54.1, q54.2)
def f_X5_fee_k61 (v : Int32) (q61 : Int32 × MS) : Int32 × MS :=
  (q61.1, q61.2)
def f_X5_fee_k61_1 (v : Int32) (q61 : Int32 × MS) : Int32 × MS :=
  (q61.1, q61.2)
def f_X5_fee_k82 (v : Int32) (q74 : Int32 × MS) (q82 : Int32 × MS) : Int32 × MS :=
  (q74.1 + q82.1, q82.2)
def f_X5_fee_k74 (v : Int32) (q74 : Int32 × MS) : Int32 × MS :=
  (f_X5_fee_k82 v q74 (f_X5_camperFee v (0 : Int32) q74.2))
def f_X5_fee_k68 (v : Int32) (d : Int32) (q68 : MS) : Int32 × MS :=
  (f_X5_fee_k74 v (f_X5_camperFee v d q68))
def f_X5_fee_k89 (v : Int32) (q89 : Int32 × MS) : Int32 × MS :=
  (q89.1, q89.2)
def f_X5_fee_k95 (v : Int32) (q95 : Int32 × MS) : Int32 × MS :=
  (q95.1, q95.2)
def f_X5_fee_k95_1 (v : Int32) (q95 : Int32 × MS) : Int32 × MS :=
  (q95.1, q95.2)
def f_X5_fee_k116 (v : Int32) (q108 : Int32 × MS) (q116 : Int32 × MS) : Int32 × MS :=
  (q108.1 + q116.1, q116.2)
def f_X5_fee_k108 (v : Int32) (q108 : Int32 × MS) : Int32 × MS :=
  (f_X5_fee_k116 v q108 (f_X5_riskOf v (0 : Int32) q108.2))
def f_X5_fee_k103 (v : Int32) (d : Int32) (q103 : MS) : Int32 × MS :=
  (f_X5_fee_k108 v (f_X5_tankerFee d q103))
def f_X5_fee (v : Int32) (d : Int32) (u : MS) : Int32 × MS :=
  (if (m_kd u (v : Int32).toNatClampNeg) = 1 then (f_X5_fee_k54 v (f_X5_carFee d u)) else (if (m_kd u (v : Int32).toNatClampNeg) = 2 then (f_X5_fee_k54_1 v (f_X5_carFee d u)) else (if (m_kd u (v : Int32).toNatClampNeg) = 3 then (f_X5_fee_k61 v (f_X5_camperFee v d u)) else (if (m_kd u (v : Int32).toNatClampNeg) = 4 then (f_X5_fee_k61_1 v (f_X5_camperFee v d u)) else (if (m_kd u (v : Int32).toNatClampNeg) = 5 then (f_X5_fee_k68 v d (f_X5_began (5 : Int32) (1 : Int32) u)) else (if (m_kd u (v : Int32).toNatClampNeg) = 6 then (f_X5_fee_k89 v (f_X5_plainFee d u)) else (if (m_kd u (v : Int32).toNatClampNeg) = 7 then (f_X5_fee_k95 v (f_X5_tankerFee d u)) else (if (m_kd u (v : Int32).toNatClampNeg) = 8 then (f_X5_fee_k95_1 v (f_X5_tankerFee d u)) else (f_X5_fee_k103 v d (f_X5_began (9 : Int32) (1 : Int32) u))))))))))
set_option maxHeartbeats 4000000 in
set_option maxRecDepth 100000 in
theorem c_X5_fee_0 {p : Program} {e : Env} {s : State} {m : MethodId} {args : Array Value} {below : List Frame} {meth : Method} {c : Code} (l : Launch) (G : gC) (A : Nat → Prop) (hM hTm hkd hsz hld hch hdk htk hme hte : Nat) (v : Int32) (hv : vp_in v 70) (C0 : gX p s m args meth c cX5_fee 4 wsX5_fee RX5 (some .int)) (hE : gE G A s) (d : Int32) (u : MS) {H : Heap} {locs : List Loc} (hP : va_P (gD G) vwCl ((m_W (gI G) hM hTm hkd hsz hld hch hdk htk hme hte) u) H) (hD : va_D A ((m_W (gI G) hM hTm hkd hsz hld hch hdk htk hme hte) u)) (hok : m_ok u) (hS : va_S A s.heap H locs) {ls : Array Slot} (hl : lv_has ls 4 [(0, .ref hM), (1, .int v), (2, .int d)]) {fv : Int32 × MS} (hfv : f_X5_fee v d u = fv) : W p l e ({ frames := 5, cells := 0, slots := 0, locals := 111 } : Room) s m args below meth c H locs 0 0 (MQ below (gQi G A (m_W (gI G) hM hTm hkd hsz hld hch hdk htk hme hte) m_ok fv) args s 0 0 A) (F0 m 0 ls []) := by
  obtain ⟨⟨hx, hb, hml, hown, hts⟩, hr, hlk⟩ := id C0
  have hok0 := hok
  have k0 := hts (.fieldLink RX5 13 "FerryDecksModel" "kinds" "[I") (by decide +kernel)
  have iX5 : ∀ w ∈ wsX50, w ∈ wsX5_fee := by decide +kernel
  refine lv_aload_n hx hb dX5_fee_0 rfl (lv_at hl 0 rfl) ?_
  refine va_get (D := gD G) (ci := 5) (v := .ref hkd) (C := RX5) (T := TX5) (N := 17) hx hb hts iX5 hown hE.1 hP 0 rfl rfl 2 (by decide) k0 (fun _ h9 => h9) rfl dX5_fee_1 ?_
  refine lv_iload_n hx hb dX5_fee_4 rfl (lv_at hl 1 rfl) ?_
  refine va_iald hx hb hE.1 hP 2 0 rfl rfl (hv) dX5_fee_5 ?_
  by_cases c6_1 : (m_kd u (v : Int32).toNatClampNeg) = 1
  · refine gTs (off := 46) (tgt := 52) hx hb dX5_fee_6 rfl (by rw [c6_1]; decide) (by decide) ?_
    refine lv_aload_n hx hb dX5_fee_52 rfl (lv_at hl 0 rfl) ?_
    refine lv_iload_n hx hb dX5_fee_53 rfl (lv_at hl 2 rfl) ?_
    refine gVi (u := u) (Wd := (m_W (gI G) hM hTm hkd hsz hld hch hdk htk hme hte)) (ok := m_ok) (As := [.int d]) (rest := []) ⟨hx, hb, hml, hown, hts⟩ (c_X5_carFee l G A hM hTm hkd hsz hld hch hdk htk hme hte d u hok) (cwV 1 hts gX5_fee_X5_carFee rfl rfl rfl (by decide +kernel) ⟨Nat.le_of_ble_eq_true rfl, Nat.le_of_ble_eq_true rfl⟩) hE hP hD hS (va_recv hE.1 hP (ci := 5) (q0 := 0) rfl rfl) rfl hl.1 rfl (Nat.le_of_ble_eq_true rfl) dX5_fee_54 ⟨Nat.zero_le _, Nat.zero_le _⟩ (fun q54 H locs e54 hP hD hok hS => ?_)
    exact gRi (u := q54.2) hx hb hr hlk hP hD hok hS (by rw [← hfv, f_X5_fee, if_pos c6_1, ← e54, f_X5_fee_k54]) dX5_fee_57
  by_cases c6_2 : (m_kd u (v : Int32).toNatClampNeg) = 2
  · refine gTs (off := 46) (tgt := 52) hx hb dX5_fee_6 rfl (by rw [c6_2]; decide) (by decide) ?_
    refine lv_aload_n hx hb dX5_fee_52 rfl (lv_at hl 0 rfl) ?_
    refine lv_iload_n hx hb dX5_fee_53 rfl (lv_at hl 2 rfl) ?_
    refine gVi (u := u) (Wd := (m_W (gI G) hM hTm hkd hsz hld hch hdk htk hme hte)) (ok := m_ok) (As := [.int d]) (rest := []) ⟨hx, hb, hml, hown, hts⟩ (c_X5_carFee l G A hM hTm hkd hsz hld hch hdk htk hme hte d u hok) (cwV 1 hts gX5_fee_X5_carFee rfl rfl rfl (by decide +kernel) ⟨Nat.le_of_ble_eq_true rfl, Nat.le_of_ble_eq_true rfl⟩) hE hP hD hS (va_recv hE.1 hP (ci := 5) (q0 := 0) rfl rfl) rfl hl.1 rfl (Nat.le_of_ble_eq_true rfl) dX5_fee_54 ⟨Nat.zero_le _, Nat.zero_le _⟩ (fun q54 H locs e54 hP hD hok hS => ?_)
    exact gRi (u := q54.2) hx hb hr hlk hP hD hok hS (by rw [← hfv, f_X5_fee, if_neg c6_1, if_pos c6_2, ← e54, f_X5_fee_k54_1]) dX5_fee_57
  by_cases c6_3 : (m_kd u (v : Int32).toNatClampNeg) = 3
  · refine gTs (off := 52) (tgt := 58) hx hb dX5_fee_6 rfl (by rw [c6_3]; decide) (by decide) ?_
    refine lv_aload_n hx hb dX5_fee_58 rfl (lv_at hl 0 rfl) ?_
    refine lv_iload_n hx hb dX5_fee_59 rfl (lv_at hl 1 rfl) ?_
    refine lv_iload_n hx hb dX5_fee_60 rfl (lv_at hl 2 rfl) ?_
    refine gVi (u := u) (Wd := (m_W (gI G) hM hTm hkd hsz hld hch hdk htk hme hte)) (ok := m_ok) (As := [.int v, .int d]) (rest := []) ⟨hx, hb, hml, hown, hts⟩ (c_X5_camperFee l G A hM hTm hkd hsz hld hch hdk htk hme hte v hv d u hok) (cwV 2 hts gX5_fee_X5_camperFee rfl rfl rfl (by decide +kernel) ⟨Nat.le_of_ble_eq_true rfl, Nat.le_of_ble_eq_true rfl⟩) hE hP hD hS (va_recv hE.1 hP (ci := 5) (q0 := 0) rfl rfl) rfl hl.1 rfl (Nat.le_of_ble_eq_true rfl) dX5_fee_61 ⟨Nat.zero_le _, Nat.zero_le _⟩ (fun q61 H locs e61 hP hD hok hS => ?_)
    exact gRi (u := q61.2) hx hb hr hlk hP hD hok hS (by rw [← hfv, f_X5_fee, if_neg c6_1, if_neg c6_2, if_pos c6_3, ← e61, f_X5_fee_k61]) dX5_fee_64
  by_cases c6_4 : (m_kd u (v : Int32).toNatClampNeg) = 4
  · refine gTs (off := 52) (tgt := 58) hx hb dX5_fee_6 rfl (by rw [c6_4]; decide) (by decide) ?_
    refine lv_aload_n hx hb dX5_fee_58 rfl (lv_at hl 0 rfl) ?_
    refine lv_iload_n hx hb dX5_fee_59 rfl (lv_at hl 1 rfl) ?_
    refine lv_iload_n hx hb dX5_fee_60 rfl (lv_at hl 2 rfl) ?_
    refine gVi (u := u) (Wd := (m_W (gI G) hM hTm hkd hsz hld hch hdk htk hme hte)) (ok := m_ok) (As := [.int v, .int d]) (rest := []) ⟨hx, hb, hml, hown, hts⟩ (c_X5_camperFee l G A hM hTm hkd hsz hld hch hdk htk hme hte v hv d u hok) (cwV 2 hts gX5_fee_X5_camperFee rfl rfl rfl (by decide +kernel) ⟨Nat.le_of_ble_eq_true rfl, Nat.le_of_ble_eq_true rfl⟩) hE hP hD hS (va_recv hE.1 hP (ci := 5) (q0 := 0) rfl rfl) rfl hl.1 rfl (Nat.le_of_ble_eq_true rfl) dX5_fee_61 ⟨Nat.zero_le _, Nat.zero_le _⟩ (fun q61 H locs e61 hP hD hok hS => ?_)
    exact gRi (u := q61.2) hx hb hr hlk hP hD hok hS (by rw [← hfv, f_X5_fee, if_neg c6_1, if_neg c6_2, if_neg c6_3, if_pos c6_4, ← e61, f_X5_fee_k61_1]) dX5_fee_64
  by_cases c6_5 : (m_kd u (v : Int32).toNatClampNeg) = 5
  · refine gTs (off := 59) (tgt := 65) hx hb dX5_fee_6 rfl (by rw [c6_5]; decide) (by decide) ?_
    refine lv_aload_n hx hb dX5_fee_65 rfl (lv_at hl 0 rfl) ?_
    refine lv_iconst (v := 5) hx hb dX5_fee_66 (by decide) ?_
    refine lv_iconst (v := 1) hx hb dX5_fee_67 (by decide) ?_
    refine gVv (u := u) (Wd := (m_W (gI G) hM hTm hkd hsz hld hch hdk htk hme hte)) (ok := m_ok) (As := [.int (5 : Int32), .int (1 : Int32)]) (rest := []) ⟨hx, hb, hml, hown, hts⟩ (c_X5_began l G A hM hTm hkd hsz hld hch hdk htk hme hte (5 : Int32) (1 : Int32) u hok) (cwV 2 hts gX5_fee_X5_began rfl rfl rfl (by decide +kernel) ⟨Nat.le_of_ble_eq_true rfl, Nat.le_of_ble_eq_true rfl⟩) hE hP hD hS (va_recv hE.1 hP (ci := 5) (q0 := 0) rfl rfl) rfl hl.1 rfl (Nat.le_of_ble_eq_true rfl) dX5_fee_68 ⟨Nat.zero_le _, Nat.zero_le _⟩ (fun q68 H locs e68 hP hD hok hS => ?_)
    refine lv_aload_n hx hb dX5_fee_71 rfl (lv_at hl 0 rfl) ?_
    refine lv_iload_n hx hb dX5_fee_72 rfl (lv_at hl 1 rfl) ?_
    refine lv_iload_n hx hb dX5_fee_73 rfl (lv_at hl 2 rfl) ?_
    refine gVi (u := q68) (Wd := (m_W (gI G) hM hTm hkd hsz hld hch hdk htk hme hte)) (ok := m_ok) (As := [.int v, .int d]) (rest := []) ⟨hx, hb, hml, hown, hts⟩ (c_X5_camperFee l G A hM hTm hkd hsz hld hch hdk htk hme hte v hv d q68 hok) (cwV 2 hts gX5_fee_X5_camperFee rfl rfl rfl (by decide +kernel) ⟨Nat.le_of_ble_eq_true rfl, Nat.le_of_ble_eq_true rfl⟩) hE hP hD hS (va_recv hE.1 hP (ci := 5) (q0 := 0) rfl rfl) rfl hl.1 rfl (Nat.le_of_ble_eq_true rfl) dX5_fee_74 ⟨Nat.zero_le _, Nat.zero_le _⟩ (fun q74 H locs e74 hP hD hok hS => ?_)
    refine lv_istore_n (lv' := [(3, .int q74.1), (0, .ref hM), (1, .int v), (2, .int d)]) hx hb dX5_fee_77 rfl hl (by decide) rfl (fun ls hl => ?_)
    refine lv_iload_n hx hb dX5_fee_78 rfl (lv_at hl 0 rfl) ?_
    refine lv_aload_n hx hb dX5_fee_79 rfl (lv_at hl 1 rfl) ?_
    refine lv_iload_n hx hb dX5_fee_80 rfl (lv_at hl 2 rfl) ?_
    refine lv_iconst (v := 0) hx hb dX5_fee_81 (by decide) ?_
    refine gVi (u := q74.2) (Wd := (m_W (gI G) hM hTm hkd hsz hld hch hdk htk hme hte)) (ok := m_ok) (As := [.int v, .int (0 : Int32)]) (rest := [.int q74.1]) ⟨hx, hb, hml, hown, hts⟩ (c_X5_camperFee l G A hM hTm hkd hsz hld hch hdk htk hme hte v hv (0 : Int32) q74.2 hok) (cwV 2 hts gX5_fee_X5_camperFee rfl rfl rfl (by decide +kernel) ⟨Nat.le_of_ble_eq_true rfl, Nat.le_of_ble_eq_true rfl⟩) hE hP hD hS (va_recv hE.1 hP (ci := 5) (q0 := 0) rfl rfl) rfl hl.1 rfl (Nat.le_of_ble_eq_true rfl) dX5_fee_82 ⟨Nat.zero_le _, Nat.zero_le _⟩ (fun q82 H locs e82 hP hD hok hS => ?_)
    refine lv_iadd hx hb dX5_fee_85 ?_
    exact gRi (u := q82.2) hx hb hr hlk hP hD hok hS (by rw [← hfv, f_X5_fee, if_neg c6_1, if_neg c6_2, if_neg c6_3, if_neg c6_4, if_pos c6_5, ← e68, f_X5_fee_k68, ← e74, f_X5_fee_k74, ← e82, f_X5_fee_k82]) dX5_fee_86
  by_cases c6_6 : (m_kd u (v : Int32).toNatClampNeg) = 6
  · refine gTs (off := 81) (tgt := 87) hx hb dX5_fee_6 rfl (by rw [c6_6]; decide) (by decide) ?_
    refine lv_aload_n hx hb dX5_fee_87 rfl (lv_at hl 0 rfl) ?_
    refine lv_iload_n hx hb dX5_fee_88 rfl (lv_at hl 2 rfl) ?_
    refine gVi (u := u) (Wd := (m_W (gI G) hM hTm hkd hsz hld hch hdk htk hme hte)) (ok := m_ok) (As := [.int d]) (rest := []) ⟨hx, hb, hml, hown, hts⟩ (c_X5_plainFee l G A hM hTm hkd hsz hld hch hdk htk hme hte d u hok) (cwV 1 hts gX5_fee_X5_plainFee rfl rfl rfl (by decide +kernel) ⟨Nat.le_of_ble_eq_true rfl, Nat.le_of_ble_eq_true rfl⟩) hE hP hD hS (va_recv hE.1 hP (ci := 5) (q0 := 0) rfl rfl) rfl hl.1 rfl (Nat.le_of_ble_eq_true rfl) dX5_fee_89 ⟨Nat.zero_le _, Nat.zero_le _⟩ (fun q89 H locs e89 hP hD hok hS => ?_)
    exact gRi (u := q89.2) hx hb hr hlk hP hD hok hS (by rw [← hfv, f_X5_fee, if_neg c6_1, if_neg c6_2, if_neg c6_3, if_neg c6_4, if_neg c6_5, if_pos c6_6, ← e89, f_X5_fee_k89]) dX5_fee_92
  by_cases c6_7 : (m_kd u (v : Int32).toNatClampNeg) = 7
  · refine gTs (off := 87) (tgt := 93) hx hb dX5_fee_6 rfl (by rw [c6_7]; decide) (by decide) ?_
    refine lv_aload_n hx hb dX5_fee_93 rfl (lv_at hl 0 rfl) ?_
    refine lv_iload_n hx hb dX5_fee_94 rfl (lv_at hl 2 rfl) ?_
    refine gVi (u := u) (Wd := (m_W (gI G) hM hTm hkd hsz hld hch hdk htk hme hte)) (ok := m_ok) (As := [.int d]) (rest := []) ⟨hx, hb, hml, hown, hts⟩ (c_X5_tankerFee l G A hM hTm hkd hsz hld hch hdk htk hme hte d u hok) (cwV 1 hts gX5_fee_X5_tankerFee rfl rfl rfl (by decide +kernel) ⟨Nat.le_of_ble_eq_true rfl, Nat.le_of_ble_eq_true rfl⟩) hE hP hD hS (va_recv hE.1 hP (ci := 5) (q0 := 0) rfl rfl) rfl hl.1 rfl (Nat.le_of_ble_eq_true rfl) dX5_fee_95 ⟨Nat.zero_le _, Nat.zero_le _⟩ (fun q95 H locs e95 hP hD hok hS => ?_)
    exact gRi (u := q95.2) hx hb hr hlk hP hD hok hS (by rw [← hfv, f_X5_fee, if_neg c6_1, if_neg c6_2, if_neg c6_3, if_neg c6_4, if_neg c6_5, if_neg c6_6, if_pos c6_7, ← e95, f_X5_fee_k95]) dX5_fee_98
  by_cases c6_8 : (m_kd u (v : Int32).toNatClampNeg) = 8
  · refine gTs (off := 87) (tgt := 93) hx hb dX5_fee_6 rfl (by rw [c6_8]; decide) (by decide) ?_
    refine lv_aload_n hx hb dX5_fee_93 rfl (lv_at hl 0 rfl) ?_
    refine lv_iload_n hx hb dX5_fee_94 rfl (lv_at hl 2 rfl) ?_
    refine gVi (u := u) (Wd := (m_W (gI G) hM hTm hkd hsz hld hch hdk htk hme hte)) (ok := m_ok) (As := [.int d]) (rest := []) ⟨hx, hb, hml, hown, hts⟩ (c_X5_tankerFee l G A hM hTm hkd hsz hld hch hdk htk hme hte d u hok) (cwV 1 hts gX5_fee_X5_tankerFee rfl rfl rfl (by decide +kernel) ⟨Nat.le_of_ble_eq_true rfl, Nat.le_of_ble_eq_true rfl⟩) hE hP hD hS (va_recv hE.1 hP (ci := 5) (q0 := 0) rfl rfl) rfl hl.1 rfl (Nat.le_of_ble_eq_true rfl) dX5_fee_95 ⟨Nat.zero_le _, Nat.zero_le _⟩ (fun q95 H locs e95 hP hD hok hS => ?_)
    exact gRi (u := q95.2) hx hb hr hlk hP hD hok hS (by rw [← hfv, f_X5_fee, if_neg c6_1, if_neg c6_2, if_neg c6_3, if_neg c6_4, if_neg c6_5, if_neg c6_6, if_neg c6_7, if_pos c6_8, ← e95, f_X5_fee_k95_1]) dX5_fee_98
  refine gTs (off := 93) (tgt := 99) hx hb dX5_fee_6 rfl (by have z1 := lv_neT (a := 1) c6_1 (by decide); have z2 := lv_neT (a := 2) c6_2 (by decide); have z3 := lv_neT (a := 3) c6_3 (by decide); have z4 := lv_neT (a := 4) c6_4 (by decide); have z5 := lv_neT (a := 5) c6_5 (by decide); have z6 := lv_neT (a := 6) c6_6 (by decide); have z7 := lv_neT (a := 7) c6_7 (by decide); have z8 := lv_neT (a := 8) c6_8 (by decide); unfold tsO; by_cases hh : (m_kd u (v : Int32).toNatClampNeg).toInt < 1 ∨ 8 < (m_kd u (v : Int32).toNatClampNeg).toInt; (rw [if_pos hh]); (rw [if_neg hh]; omega)) (by decide) ?_
  refine lv_aload_n hx hb dX5_fee_99 rfl (lv_at hl 0 rfl) ?_
  refine lv_bipush (v := 9) hx hb dX5_fee_100 (by decide) ?_
  refine lv_iconst (v := 1) hx hb dX5_fee_102 (by decide) ?_
  refine gVv (u := u) (Wd := (m_W (gI G) hM hTm hkd hsz hld hch hdk htk hme hte)) (ok := m_ok) (As := [.int (9 : Int32), .int (1 : Int32)]) (rest := []) ⟨hx, hb, hml, hown, hts⟩ (c_X5_began l G A hM hTm hkd hsz hld hch hdk htk hme hte (9 : Int32) (1 : Int32) u hok) (cwV 2 hts gX5_fee_X5_began rfl rfl rfl (by decide +kernel) ⟨Nat.le_of_ble_eq_true rfl, Nat.le_of_ble_eq_true rfl⟩) hE hP hD hS (va_recv hE.1 hP (ci := 5) (q0 := 0) rfl rfl) rfl hl.1 rfl (Nat.le_of_ble_eq_true rfl) dX5_fee_103 ⟨Nat.zero_le _, Nat.zero_le _⟩ (fun q103 H locs e103 hP hD hok hS => ?_)
  refine lv_aload_n hx hb dX5_fee_106 rfl (lv_at hl 0 rfl) ?_
  refine lv_iload_n hx hb dX5_fee_107 rfl (lv_at hl 2 rfl) ?_
  refine gVi (u := q103) (Wd := (m_W (gI G) hM hTm hkd hsz hld hch hdk htk hme hte)) (ok := m_ok) (As := [.int d]) (rest := []) ⟨hx, hb, hml, hown, hts⟩ (c_X5_tankerFee l G A hM hTm hkd hsz hld hch hdk htk hme hte d q103 hok) (cwV 1 hts gX5_fee_X5_tankerFee rfl rfl rfl (by decide +kernel) ⟨Nat.le_of_ble_eq_true rfl, Nat.le_of_ble_eq_true rfl⟩) hE hP hD hS (va_recv hE.1 hP (ci := 5) (q0 := 0) rfl rfl) rfl hl.1 rfl (Nat.le_of_ble_eq_true rfl) dX5_fee_108 ⟨Nat.zero_le _, Nat.zero_le _⟩ (fun q108 H locs e108 hP hD hok hS => ?_)
  refine lv_istore_n (lv' := [(3, .int q108.1), (0, .ref hM), (1, .int v), (2, .int d)]) hx hb dX5_fee_111 rfl hl (by decide) rfl (fun ls hl => ?_)
  refine lv_iload_n hx hb dX5_fee_112 rfl (lv_at hl 0 rfl) ?_
  refine lv_aload_n hx hb dX5_fee_113 rfl (lv_at hl 1 rfl) ?_
  refine lv_iload_n hx hb dX5_fee_114 rfl (lv_at hl 2 rfl) ?_
  refine lv_iconst (v := 0) hx hb dX5_fee_115 (by decide) ?_
  refine gVi (u := q108.2) (Wd := (m_W (gI G) hM hTm hkd hsz hld hch hdk htk hme hte)) (ok := m_ok) (As := [.int v, .int (0 : Int32)]) (rest := [.int q108.1]) ⟨hx, hb, hml, hown, hts⟩ (c_X5_riskOf l G A hM hTm hkd hsz hld hch hdk htk hme hte v hv (0 : Int32) q108.2 hok) (cwV 2 hts gX5_fee_X5_riskOf rfl rfl rfl (by decide +kernel) ⟨Nat.le_of_ble_eq_true rfl, Nat.le_of_ble_eq_true rfl⟩) hE hP hD hS (va_recv hE.1 hP (ci := 5) (q0 := 0) rfl rfl) rfl hl.1 rfl (Nat.le_of_ble_eq_true rfl) dX5_fee_116 ⟨Nat.zero_le _, Nat.zero_le _⟩ (fun q116 H locs e116 hP hD hok hS => ?_)
  refine lv_iadd hx hb dX5_fee_119 ?_
  exact gRi (u := q116.2) hx hb hr hlk hP hD hok hS (by rw [← hfv, f_X5_fee, if_neg c6_1, if_neg c6_2, if_neg c6_3, if_neg c6_4, if_neg c6_5, if_neg c6_6, if_neg c6_7, if_neg c6_8, ← e103, f_X5_fee_k103, ← e108, f_X5_fee_k108, ← e116, f_X5_fee_k116]) dX5_fee_120
set_option maxHeartbeats 4000000 in
set_option maxRecDepth 100000 in
theorem c_X5_fee (l : Launch) (G : gC) (A : Nat → Prop) (hM hTm hkd hsz hld hch hdk htk hme hte : Nat) (v : Int32) (hv : vp_in v 70) (d : Int32) (u : MS) (hok : m_ok u) : CI l yX5_fee wsX5_fee ({ frames := 5, cells := 0, slots := 0, locals := 111 } : Room) G A (m_W (gI G) hM hTm hkd hsz hld hch hdk htk hme hte) m_ok [.ref hM, .int v, .int d] u (f_X5_fee v d u) := by
  refine Met.ofW (cc := cX5_fee) (maxL := 4) (ret := (some .int)) (by decide) rfl ?_
  intro p e s m args below meth c s₁ B hml hv
  obtain ⟨rfl, hE, hP, hD⟩ := hv
  have hl := lv_entry ([.ref hM, .int v, .int d]) (n := 4) (Nat.le_of_ble_eq_true rfl)
  rw [lg_entry_eq]
  generalize (lg_sl ([.ref hM, .int v, .int d]) ++ List.replicate (4 - (lg_sl ([.ref hM, .int v, .int d])).length) Slot.unset).toArray = ls at hl ⊢
  exact c_X5_fee_0 l G A hM hTm hkd hsz hld hch hdk htk hme hte v hv ⟨⟨B.exec, B.bytes, hml, findClass_of_methodNamed B.named, atoms_spec (ws := wsX5_fee) B.pre⟩, B.returns, B.notSynchronized⟩ hE d u hP hD hok va_S.rf hl rfl
