-- FerryDecksModel.plainLash
def f_X5_plainLash_k3 (v : Int32) (n : Int32) (q3 : MS) : Int32 × MS :=
  (m_ch (m_s_ch q3 (upd (m_ch q3) (v : Int32).toNatClampNeg ((m_ch q3 (v : Int32).toNatClampNeg) + n))) (v : Int32).toNatClampNeg, m_s_ch q3 (upd (m_ch q3) (v : Int32).toNatClampNeg ((m_ch q3 (v : Int32).toNatClampNeg) + n)))
def f_X5_plainLash (v : Int32) (n : Int32) (u : MS) : Int32 × MS :=
  (f_X5_plainLash_k3 v n (f_X5_began (0 : Int32) (3 : Int32) u))
set_option maxHeartbeats 4000000 in
set_option maxRecDepth 100000 in
theorem c_X5_plainLash_0 {p : Program} {e : Env} {s : State} {m : MethodId} {args : Array Value} {below : List Frame} {meth : Method} {c : Code} (l : Launch) (G : gC) (A : Nat → Prop) (hM hTm hkd hsz hld hch hdk htk hme hte : Nat) (v : Int32) (hv : vp_in v 70) (C0 : gX p s m args meth c cX5_plainLash 3 wsX5_plainLash RX5 (some .int)) (hE : gE G A s) (n : Int32) (u : MS) {H : Heap} {locs : List Loc} (hP : va_P (gD G) vwCl ((m_W (gI G) hM hTm hkd hsz hld hch hdk htk hme hte) u) H) (hD : va_D A ((m_W (gI G) hM hTm hkd hsz hld hch hdk htk hme hte) u)) (hok : m_ok u) (hS : va_S A s.heap H locs) {ls : Array Slot} (hl : lv_has ls 3 [(0, .ref hM), (1, .int v), (2, .int n)]) {fv : Int32 × MS} (hfv : f_X5_plainLash v n u = fv) : W p l e ({ frames := 1, cells := 0, slots := 0, locals := 22 } : Room) s m args below meth c H locs 0 0 (MQ below (gQi G A (m_W (gI G) hM hTm hkd hsz hld hch hdk htk hme hte) m_ok fv) args s 0 0 A) (F0 m 0 ls []) := by
  obtain ⟨⟨hx, hb, hml, hown, hts⟩, hr, hlk⟩ := id C0
  have hok0 := hok
  have k0 := hts (.fieldLink RX5 22 "FerryDecksModel" "chains" "[I") (by decide +kernel)
  have iX5 : ∀ w ∈ wsX50, w ∈ wsX5_plainLash := by decide +kernel
  refine lv_aload_n hx hb dX5_plainLash_0 rfl (lv_at hl 0 rfl) ?_
  refine lv_iconst (v := 0) hx hb dX5_plainLash_1 (by decide) ?_
  refine lv_iconst (v := 3) hx hb dX5_plainLash_2 (by decide) ?_
  refine gVv (u := u) (Wd := (m_W (gI G) hM hTm hkd hsz hld hch hdk htk hme hte)) (ok := m_ok) (As := [.int (0 : Int32), .int (3 : Int32)]) (rest := []) ⟨hx, hb, hml, hown, hts⟩ (c_X5_began l G A hM hTm hkd hsz hld hch hdk htk hme hte (0 : Int32) (3 : Int32) u hok) (cwV 2 hts gX5_plainLash_X5_began rfl rfl rfl (by decide +kernel) ⟨Nat.le_of_ble_eq_true rfl, Nat.le_of_ble_eq_true rfl⟩) hE hP hD hS (va_recv hE.1 hP (ci := 5) (q0 := 0) rfl rfl) rfl hl.1 rfl (Nat.le_of_ble_eq_true rfl) dX5_plainLash_3 ⟨Nat.zero_le _, Nat.zero_le _⟩ (fun q3 H locs e3 hP hD hok hS => ?_)
  refine lv_aload_n hx hb dX5_plainLash_6 rfl (lv_at hl 0 rfl) ?_
  refine va_get (D := gD G) (ci := 5) (v := .ref hch) (C := RX5) (T := TX5) (N := 17) hx hb hts iX5 hown hE.1 hP 0 rfl rfl 5 (by decide) k0 (fun _ h9 => h9) rfl dX5_plainLash_7 ?_
  refine lv_iload_n hx hb dX5_plainLash_10 rfl (lv_at hl 1 rfl) ?_
  refine lv_aload_n hx hb dX5_plainLash_11 rfl (lv_at hl 0 rfl) ?_
  refine va_get (D := gD G) (ci := 5) (v := .ref hch) (C := RX5) (T := TX5) (N := 17) hx hb hts iX5 hown hE.1 hP 0 rfl rfl 5 (by decide) k0 (fun _ h9 => h9) rfl dX5_plainLash_12 ?_
  refine lv_iload_n hx hb dX5_plainLash_15 rfl (lv_at hl 1 rfl) ?_
  refine va_iald hx hb hE.1 hP 5 0 rfl rfl (hv) dX5_plainLash_16 ?_
  refine lv_iload_n hx hb dX5_plainLash_17 rfl (lv_at hl 2 rfl) ?_
  refine lv_iadd hx hb dX5_plainLash_18 ?_
  refine va_iast hx hb hE.1 hP hD hS 5 0 rfl rfl (hv) dX5_plainLash_19 (fun H locs hP hD hS => ?_)
  have hP : va_P (gD G) vwCl ((m_W (gI G) hM hTm hkd hsz hld hch hdk htk hme hte) (m_s_ch q3 (upd (m_ch q3) (v : Int32).toNatClampNeg ((m_ch q3 (v : Int32).toNatClampNeg) + n)))) H := hP
  have hD : va_D A ((m_W (gI G) hM hTm hkd hsz hld hch hdk htk hme hte) (m_s_ch q3 (upd (m_ch q3) (v : Int32).toNatClampNeg ((m_ch q3 (v : Int32).toNatClampNeg) + n)))) := hD
  have hok : m_ok (m_s_ch q3 (upd (m_ch q3) (v : Int32).toNatClampNeg ((m_ch q3 (v : Int32).toNatClampNeg) + n))) := hok
  refine lv_aload_n hx hb dX5_plainLash_20 rfl (lv_at hl 0 rfl) ?_
  refine va_get (D := gD G) (ci := 5) (v := .ref hch) (C := RX5) (T := TX5) (N := 17) hx hb hts iX5 hown hE.1 hP 0 rfl rfl 5 (by decide) k0 (fun _ h9 => h9) rfl dX5_plainLash_21 ?_
  refine lv_iload_n hx hb dX5_plainLash_24 rfl (lv_at hl 1 rfl) ?_
  refine va_iald hx hb hE.1 hP 5 0 rfl rfl (hv) dX5_plainLash_25 ?_
  exact gRi (u := m_s_ch q3 (upd (m_ch q3) (v : Int32).toNatClampNeg ((m_ch q3 (v : Int32).toNatClampNeg) + n))) hx hb hr hlk hP hD hok hS (by rw [← hfv, f_X5_plainLash, ← e3, f_X5_plainLash_k3]) dX5_plainLash_26
set_option maxHeartbeats 4000000 in
set_option maxRecDepth 100000 in
theorem c_X5_plainLash (l : Launch) (G : gC) (A : Nat → Prop) (hM hTm hkd hsz hld hch hdk htk hme hte : Nat) (v : Int32) (hv : vp_in v 70) (n : Int32) (u : MS) (hok : m_ok u) : CI l yX5_plainLash wsX5_plainLash ({ frames := 1, cells := 0, slots := 0, locals := 22 } : Room) G A (m_W (gI G) hM hTm hkd hsz hld hch hdk htk hme hte) m_ok [.ref hM, .int v, .int n] u (f_X5_plainLash v n u) := by
  refine Met.ofW (cc := cX5_plainLash) (maxL := 3) (ret := (some .int)) (by decide) rfl ?_
  intro p e s m args below meth c s₁ B hml hv
  obtain ⟨rfl, hE, hP, hD⟩ := hv
  have hl := lv_entry ([.ref hM, .int v, .int n]) (n := 3) (Nat.le_of_ble_eq_true rfl)
  rw [lg_entry_eq]
  generalize (lg_sl ([.ref hM, .int v, .int n]) ++ List.replicate (3 - (lg_sl ([.ref hM, .int v, .int n])).length) Slot.unset).toArray = ls at hl ⊢
  exact c_X5_plainLash_0 l G A hM hTm hkd hsz hld hch hdk htk hme hte v hv ⟨⟨B.exec, B.bytes, hml, findClass_of_methodNamed B.named, atoms_spec (ws := wsX5_plainLash) B.pre⟩, B.returns, B.notSynchronized⟩ hE n u hP hD hok va_S.rf hl rfl

-- FerryDecksModel.vanLash
def f_X5_vanLash_k16 (v : Int32) (q16 : Int32 × MS) : Int32 × MS :=
  (q16.1, q16.2)
def f_X5_vanLash_k9 (v : Int32) (q9 : Int32 × MS) : Int32 × MS :=
  (f_X5_vanLash_k16 v (f_X5_plainLash v (1 : Int32) q9.2))
def f_X5_vanLash_k3 (v : Int32) (n : Int32) (q3 : MS) : Int32 × MS :=
  (f_X5_vanLash_k9 v (f_X5_plainLash v n q3))
def f_X5_vanLash (v : Int32) (n : Int32) (u : MS) : Int32 × MS :=
  (f_X5_vanLash_k3 v n (f_X5_began (2 : Int32) (3 : Int32) u))
set_option maxHeartbeats 4000000 in
set_option maxRecDepth 100000 in
theorem c_X5_vanLash_0 {p : Program} {e : Env} {s : State} {m : MethodId} {args : Array Value} {below : List Frame} {meth : Method} {c : Code} (l : Launch) (G : gC) (A : Nat → Prop) (hM hTm hkd hsz hld hch hdk htk hme hte : Nat) (v : Int32) (hv : vp_in v 70) (C0 : gX p s m args meth c cX5_vanLash 3 wsX5_vanLash RX5 (some .int)) (hE : gE G A s) (n : Int32) (u : MS) {H : Heap} {locs : List Loc} (hP : va_P (gD G) vwCl ((m_W (gI G) hM hTm hkd hsz hld hch hdk htk hme hte) u) H) (hD : va_D A ((m_W (gI G) hM hTm hkd hsz hld hch hdk htk hme hte) u)) (hok : m_ok u) (hS : va_S A s.heap H locs) {ls : Array Slot} (hl : lv_has ls 3 [(0, .ref hM), (1, .int v), (2, .int n)]) {fv : Int32 × MS} (hfv : f_X5_vanLash v n u = fv) : W p l e ({ frames := 2, cells := 0, slots := 0, locals := 44 } : Room) s m args below meth c H locs 0 0 (MQ below (gQi G A (m_W (gI G) hM hTm hkd hsz hld hch hdk htk hme hte) m_ok fv) args s 0 0 A) (F0 m 0 ls []) := by
  obtain ⟨⟨hx, hb, hml, hown, hts⟩, hr, hlk⟩ := id C0
  have hok0 := hok
  refine lv_aload_n hx hb dX5_vanLash_0 rfl (lv_at hl 0 rfl) ?_
  refine lv_iconst (v := 2) hx hb dX5_vanLash_1 (by decide) ?_
  refine lv_iconst (v := 3) hx hb dX5_vanLash_2 (by decide) ?_
  refine gVv (u := u) (Wd := (m_W (gI G) hM hTm hkd hsz hld hch hdk htk hme hte)) (ok := m_ok) (As := [.int (2 : Int32), .int (3 : Int32)]) (rest := []) ⟨hx, hb, hml, hown, hts⟩ (c_X5_began l G A hM hTm hkd hsz hld hch hdk htk hme hte (2 : Int32) (3 : Int32) u hok) (cwV 2 hts gX5_vanLash_X5_began rfl rfl rfl (by decide +kernel) ⟨Nat.le_of_ble_eq_true rfl, Nat.le_of_ble_eq_true rfl⟩) hE hP hD hS (va_recv hE.1 hP (ci := 5) (q0 := 0) rfl rfl) rfl hl.1 rfl (Nat.le_of_ble_eq_true rfl) dX5_vanLash_3 ⟨Nat.zero_le _, Nat.zero_le _⟩ (fun q3 H locs e3 hP hD hok hS => ?_)
  refine lv_aload_n hx hb dX5_vanLash_6 rfl (lv_at hl 0 rfl) ?_
  refine lv_iload_n hx hb dX5_vanLash_7 rfl (lv_at hl 1 rfl) ?_
  refine lv_iload_n hx hb dX5_vanLash_8 rfl (lv_at hl 2 rfl) ?_
  refine gVi (u := q3) (Wd := (m_W (gI G) hM hTm hkd hsz hld hch hdk htk hme hte)) (ok := m_ok) (As := [.int v, .int n]) (rest := []) ⟨hx, hb, hml, hown, hts⟩ (c_X5_plainLash l G A hM hTm hkd hsz hld hch hdk htk hme hte v hv n q3 hok) (cwV 2 hts gX5_vanLash_X5_plainLash rfl rfl rfl (by decide +kernel) ⟨Nat.le_of_ble_eq_true rfl, Nat.le_of_ble_eq_true rfl⟩) hE hP hD hS (va_recv hE.1 hP (ci := 5) (q0 := 0) rfl rfl) rfl hl.1 rfl (Nat.le_of_ble_eq_true rfl) dX5_vanLash_9 ⟨Nat.zero_le _, Nat.zero_le _⟩ (fun q9 H locs e9 hP hD hok hS => ?_)
  refine lv_pop hx hb dX5_vanLash_12 rfl ?_
  refine lv_aload_n hx hb dX5_vanLash_13 rfl (lv_at hl 0 rfl) ?_
  refine lv_iload_n hx hb dX5_vanLash_14 rfl (lv_at hl 1 rfl) ?_
  refine lv_iconst (v := 1) hx hb dX5_vanLash_15 (by decide) ?_
  refine gVi (u := q9.2) (Wd := (m_W (gI G) hM hTm hkd hsz hld hch hdk htk hme hte)) (ok := m_ok) (As := [.int v, .int (1 : Int32)]) (rest := []) ⟨hx, hb, hml, hown, hts⟩ (c_X5_plainLash l G A hM hTm hkd hsz hld hch hdk htk hme hte v hv (1 : Int32) q9.2 hok) (cwV 2 hts gX5_vanLash_X5_plainLash rfl rfl rfl (by decide +kernel) ⟨Nat.le_of_ble_eq_true rfl, Nat.le_of_ble_eq_true rfl⟩) hE hP hD hS (va_recv hE.1 hP (ci := 5) (q0 := 0) rfl rfl) rfl hl.1 rfl (Nat.le_of_ble_eq_true rfl) dX5_vanLash_16 ⟨Nat.zero_le _, Nat.zero_le _⟩ (fun q16 H locs e16 hP hD hok hS => ?_)
  exact gRi (u := q16.2) hx hb hr hlk hP hD hok hS (by rw [← hfv, f_X5_vanLash, ← e3, f_X5_vanLash_k3, ← e9, f_X5_vanLash_k9, ← e16, f_X5_vanLash_k16]) dX5_vanLash_19
set_option maxHeartbeats 4000000 in
set_option maxRecDepth 100000 in
theorem c_X5_vanLash (l : Launch) (G : gC) (A : Nat → Prop) (hM hTm hkd hsz hld hch hdk htk hme hte : Nat) (v : Int32) (hv : vp_in v 70) (n : Int32) (u : MS) (hok : m_ok u) : CI l yX5_vanLash wsX5_vanLash ({ frames := 2, cells := 0, slots := 0, locals := 44 } : Room) G A (m_W (gI G) hM hTm hkd hsz hld hch hdk htk hme hte) m_ok [.ref hM, .int v, .int n] u (f_X5_vanLash v n u) := by
  refine Met.ofW (cc := cX5_vanLash) (maxL := 3) (ret := (some .int)) (by decide) rfl ?_
  intro p e s m args below meth c s₁ B hml hv
  obtain ⟨rfl, hE, hP, hD⟩ := hv
  have hl := lv_entry ([.ref hM, .int v, .int n]) (n := 3) (Nat.le_of_ble_eq_true rfl)
  rw [lg_entry_eq]
  generalize (lg_sl ([.ref hM, .int v, .int n]) ++ List.replicate (3 - (lg_sl ([.ref hM, .int v, .int n])).length) Slot.unset).toArray = ls at hl ⊢
  exact c_X5_vanLash_0 l G A hM hTm hkd hsz hld hch hdk htk hme hte v hv ⟨⟨B.exec, B.bytes, hml, findClass_of_methodNamed B.named, atoms_spec (ws := wsX5_vanLash) B.pre⟩, B.returns, B.notSynchronized⟩ hE n u hP hD hok va_S.rf hl rfl

-- FerryDecksModel.tankerLash
def f_X5_tankerLash_k12 (v : Int32) (q12 : Int32 × MS) : Int32 × MS :=
  (q12.1, q12.2)
def f_X5_tankerLash_k4 (v : Int32) (n : Int32) (q4 : MS) : Int32 × MS :=
  (f_X5_tankerLash_k12 v (f_X5_plainLash v (n + n) q4))
def f_X5_tankerLash (v : Int32) (n : Int32) (u : MS) : Int32 × MS :=
  (f_X5_tankerLash_k4 v n (f_X5_began (7 : Int32) (3 : Int32) u))
set_option maxHeartbeats 4000000 in
set_option maxRecDepth 100000 in
theorem c_X5_tankerLash_0 {p : Program} {e : Env} {s : State} {m : MethodId} {args : Array Value} {below : List Frame} {meth : Method} {c : Code} (l : Launch) (G : gC) (A : Nat → Prop) (hM hTm hkd hsz hld hch hdk htk hme hte : Nat) (v : Int32) (hv : vp_in v 70) (C0 : gX p s m args meth c cX5_tankerLash 3 wsX5_tankerLash RX5 (some .int)) (hE : gE G A s) (n : Int32) (u : MS) {H : Heap} {locs : List Loc} (hP : va_P (gD G) vwCl ((m_W (gI G) hM hTm hkd hsz hld hch hdk htk hme hte) u) H) (hD : va_D A ((m_W (gI G) hM hTm hkd hsz hld hch hdk htk hme hte) u)) (hok : m_ok u) (hS : va_S A s.heap H locs) {ls : Array Slot} (hl : lv_has ls 3 [(0, .ref hM), (1, .int v), (2, .int n)]) {fv : Int32 × MS} (hfv : f_X5_tankerLash v n u = fv) : W p l e ({ frames := 2, cells := 0, slots := 0, locals := 44 } : Room) s m args below meth c H locs 0 0 (MQ below (gQi G A (m_W (gI G) hM hTm hkd hsz hld hch hdk htk hme hte) m_ok fv) args s 0 0 A) (F0 m 0 ls []) := by
  obtain ⟨⟨hx, hb, hml, hown, hts⟩, hr, hlk⟩ := id C0
  have hok0 := hok
  refine lv_aload_n hx hb dX5_tankerLash_0 rfl (lv_at hl 0 rfl) ?_
  refine lv_bipush (v := 7) hx hb dX5_tankerLash_1 (by decide) ?_
  refine lv_iconst (v := 3) hx hb dX5_tankerLash_3 (by decide) ?_
  refine gVv (u := u) (Wd := (m_W (gI G) hM hTm hkd hsz hld hch hdk htk hme hte)) (ok := m_ok) (As := [.int (7 : Int32), .int (3 : Int32)]) (rest := []) ⟨hx, hb, hml, hown, hts⟩ (c_X5_began l G A hM hTm hkd hsz hld hch hdk htk hme hte (7 : Int32) (3 : Int32) u hok) (cwV 2 hts gX5_tankerLash_X5_began rfl rfl rfl (by decide +kernel) ⟨Nat.le_of_ble_eq_true rfl, Nat.le_of_ble_eq_true rfl⟩) hE hP hD hS (va_recv hE.1 hP (ci := 5) (q0 := 0) rfl rfl) rfl hl.1 rfl (Nat.le_of_ble_eq_true rfl) dX5_tankerLash_4 ⟨Nat.zero_le _, Nat.zero_le _⟩ (fun q4 H locs e4 hP hD hok hS => ?_)
  refine lv_aload_n hx hb dX5_tankerLash_7 rfl (lv_at hl 0 rfl) ?_
  refine lv_iload_n hx hb dX5_tankerLash_8 rfl (lv_at hl 1 rfl) ?_
  refine lv_iload_n hx hb dX5_tankerLash_9 rfl (lv_at hl 2 rfl) ?_
  refine lv_iload_n hx hb dX5_tankerLash_10 rfl (lv_at hl 2 rfl) ?_
  refine lv_iadd hx hb dX5_tankerLash_11 ?_
  refine gVi (u := q4) (Wd := (m_W (gI G) hM hTm hkd hsz hld hch hdk htk hme hte)) (ok := m_ok) (As := [.int v, .int (n + n)]) (rest := []) ⟨hx, hb, hml, hown, hts⟩ (c_X5_plainLash l G A hM hTm hkd hsz hld hch hdk htk hme hte v hv (n + n) q4 hok) (cwV 2 hts gX5_tankerLash_X5_plainLash rfl rfl rfl (by decide +kernel) ⟨Nat.le_of_ble_eq_true rfl, Nat.le_of_ble_eq_true rfl⟩) hE hP hD hS (va_recv hE.1 hP (ci := 5) (q0 := 0) rfl rfl) rfl hl.1 rfl (Nat.le_of_ble_eq_true rfl) dX5_tankerLash_12 ⟨Nat.zero_le _, Nat.zero_le _⟩ (fun q12 H locs e12 hP hD hok hS => ?_)
  exact gRi (u := q12.2) hx hb hr hlk hP hD hok hS (by rw [← hfv, f_X5_tankerLash, ← e4, f_X5_tankerLash_k4, ← e12, f_X5_tankerLash_k12]) dX5_tankerLash_15
set_option maxHeartbeats 4000000 in
set_option maxRecDepth 100000 in
theorem c_X5_tankerLash (l : Launch) (G : gC) (A : Nat → Prop) (hM hTm hkd hsz hld hch hdk htk hme hte : Nat) (v : Int32) (hv : vp_in v 70) (n : Int32) (u : MS) (hok : m_ok u) : CI l yX5_tankerLash wsX5_tankerLash ({ frames := 2, cells := 0, slots := 0, locals := 44 } : Room) G A (m_W (gI G) hM hTm hkd hsz hld hch hdk htk hme hte) m_ok [.ref hM, .int v, .int n] u (f_X5_tankerLash v n u) := by
  refine Met.ofW (cc := cX5_tankerLash) (maxL := 3) (ret := (some .int)) (by decide) rfl ?_
  intro p e s m args below meth c s₁ B hml hv
  obtain ⟨rfl, hE, hP, hD⟩ := hv
  have hl := lv_entry ([.ref hM, .int v, .int n]) (n := 3) (Nat.le_of_ble_eq_true rfl)
  rw [lg_entry_eq]
  generalize (lg_sl ([.ref hM, .int v, .int n]) ++ List.replicate (3 - (lg_sl ([.ref hM, .int v, .int n])).length) Slot.unset).toArray = ls at hl ⊢
  exact c_X5_tankerLash_0 l G A hM hTm hkd hsz hld hch hdk htk hme hte v hv ⟨⟨B.exec, B.bytes, hml, findClass_of_methodNamed B.named, atoms_spec (ws := wsX5_tankerLash) B.pre⟩, B.returns, B.notSynchronized⟩ hE n u hP hD hok va_S.rf hl rfl

-- FerryDecksModel.gasLash
def f_X5_gasLash_k33 (v : Int32) (q33 : Int32 × MS) : Int32 × MS :=
  (q33.1, q33.2)
def f_X5_gasLash_k24 (v : Int32) (q24 : Int32 × MS) : Int32 × MS :=
  (q24.1, q24.2)
def f_X5_gasLash_k4 (v : Int32) (n : Int32) (q4 : MS) : Int32 × MS :=
  (if (m_ch q4 (v : Int32).toNatClampNeg) ≤ (m_T q4 ((5 : Int32) : Int32).toNatClampNeg) then (f_X5_gasLash_k33 v (f_X5_tankerLash v n q4)) else (f_X5_gasLash_k24 v (f_X5_fails (4 : Int32) q4)))
def f_X5_gasLash (v : Int32) (n : Int32) (u : MS) : Int32 × MS :=
  (f_X5_gasLash_k4 v n (f_X5_began (8 : Int32) (3 : Int32) u))
set_option maxHeartbeats 4000000 in
set_option maxRecDepth 100000 in
theorem c_X5_gasLash_0 {p : Program} {e : Env} {s : State} {m : MethodId} {args : Array Value} {below : List Frame} {meth : Method} {c : Code} (l : Launch) (G : gC) (A : Nat → Prop) (hM hTm hkd hsz hld hch hdk htk hme hte : Nat) (v : Int32) (hv : vp_in v 70) (C0 : gX p s m args meth c cX5_gasLash 3 wsX5_gasLash RX5 (some .int)) (hE : gE G A s) (n : Int32) (u : MS) {H : Heap} {locs : List Loc} (hP : va_P (gD G) vwCl ((m_W (gI G) hM hTm hkd hsz hld hch hdk htk hme hte) u) H) (hD : va_D A ((m_W (gI G) hM hTm hkd hsz hld hch hdk htk hme hte) u)) (hok : m_ok u) (hS : va_S A s.heap H locs) {ls : Array Slot} (hl : lv_has ls 3 [(0, .ref hM), (1, .int v), (2, .int n)]) {fv : Int32 × MS} (hfv : f_X5_gasLash v n u = fv) : W p l e ({ frames := 3, cells := 0, slots := 0, locals := 66 } : Room) s m args below meth c H locs 0 0 (MQ below (gQi G A (m_W (gI G) hM hTm hkd hsz hld hch hdk htk hme hte) m_ok fv) args s 0 0 A) (F0 m 0 ls []) := by
  obtain ⟨⟨hx, hb, hml, hown, hts⟩, hr, hlk⟩ := id C0
  have hok0 := hok
  have k0 := hts (.fieldLink RX5 22 "FerryDecksModel" "chains" "[I") (by decide +kernel)
  have k1 := hts (.fieldLink RX5 7 "FerryDecksModel" "terms" "[I") (by decide +kernel)
  have iX5 : ∀ w ∈ wsX50, w ∈ wsX5_gasLash := by decide +kernel
  refine lv_aload_n hx hb dX5_gasLash_0 rfl (lv_at hl 0 rfl) ?_
  refine lv_bipush (v := 8) hx hb dX5_gasLash_1 (by decide) ?_
  refine lv_iconst (v := 3) hx hb dX5_gasLash_3 (by decide) ?_
  refine gVv (u := u) (Wd := (m_W (gI G) hM hTm hkd hsz hld hch hdk htk hme hte)) (ok := m_ok) (As := [.int (8 : Int32), .int (3 : Int32)]) (rest := []) ⟨hx, hb, hml, hown, hts⟩ (c_X5_began l G A hM hTm hkd hsz hld hch hdk htk hme hte (8 : Int32) (3 : Int32) u hok) (cwV 2 hts gX5_gasLash_X5_began rfl rfl rfl (by decide +kernel) ⟨Nat.le_of_ble_eq_true rfl, Nat.le_of_ble_eq_true rfl⟩) hE hP hD hS (va_recv hE.1 hP (ci := 5) (q0 := 0) rfl rfl) rfl hl.1 rfl (Nat.le_of_ble_eq_true rfl) dX5_gasLash_4 ⟨Nat.zero_le _, Nat.zero_le _⟩ (fun q4 H locs e4 hP hD hok hS => ?_)
  refine lv_aload_n hx hb dX5_gasLash_7 rfl (lv_at hl 0 rfl) ?_
  refine va_get (D := gD G) (ci := 5) (v := .ref hch) (C := RX5) (T := TX5) (N := 17) hx hb hts iX5 hown hE.1 hP 0 rfl rfl 5 (by decide) k0 (fun _ h9 => h9) rfl dX5_gasLash_8 ?_
  refine lv_iload_n hx hb dX5_gasLash_11 rfl (lv_at hl 1 rfl) ?_
  refine va_iald hx hb hE.1 hP 5 0 rfl rfl (hv) dX5_gasLash_12 ?_
  refine lv_aload_n hx hb dX5_gasLash_13 rfl (lv_at hl 0 rfl) ?_
  refine va_get (D := gD G) (ci := 5) (v := .ref hTm) (C := RX5) (T := TX5) (N := 17) hx hb hts iX5 hown hE.1 hP 0 rfl rfl 0 (by decide) k1 (fun _ h9 => h9) rfl dX5_gasLash_14 ?_
  refine lv_iconst (v := 5) hx hb dX5_gasLash_17 (by decide) ?_
  refine va_iald hx hb hE.1 hP 1 0 rfl rfl (gIn (by decide) (by decide) (by decide)) dX5_gasLash_18 ?_
  refine lv_icmp_le (tgt := 30) hx hb dX5_gasLash_19 (by decide) (fun c19 => ?_) (fun c19 => ?_)
  · refine lv_aload_n hx hb dX5_gasLash_30 rfl (lv_at hl 0 rfl) ?_
    refine lv_iload_n hx hb dX5_gasLash_31 rfl (lv_at hl 1 rfl) ?_
    refine lv_iload_n hx hb dX5_gasLash_32 rfl (lv_at hl 2 rfl) ?_
    refine gVi (u := q4) (Wd := (m_W (gI G) hM hTm hkd hsz hld hch hdk htk hme hte)) (ok := m_ok) (As := [.int v, .int n]) (rest := []) ⟨hx, hb, hml, hown, hts⟩ (c_X5_tankerLash l G A hM hTm hkd hsz hld hch hdk htk hme hte v hv n q4 hok) (cwV 2 hts gX5_gasLash_X5_tankerLash rfl rfl rfl (by decide +kernel) ⟨Nat.le_of_ble_eq_true rfl, Nat.le_of_ble_eq_true rfl⟩) hE hP hD hS (va_recv hE.1 hP (ci := 5) (q0 := 0) rfl rfl) rfl hl.1 rfl (Nat.le_of_ble_eq_true rfl) dX5_gasLash_33 ⟨Nat.zero_le _, Nat.zero_le _⟩ (fun q33 H locs e33 hP hD hok hS => ?_)
    exact gRi (u := q33.2) hx hb hr hlk hP hD hok hS (by rw [← hfv, f_X5_gasLash, ← e4, f_X5_gasLash_k4, if_pos c19, ← e33, f_X5_gasLash_k33]) dX5_gasLash_36
  · refine lv_aload_n hx hb dX5_gasLash_22 rfl (lv_at hl 0 rfl) ?_
    refine lv_iconst (v := 4) hx hb dX5_gasLash_23 (by decide) ?_
    refine gVi (u := q4) (Wd := (m_W (gI G) hM hTm hkd hsz hld hch hdk htk hme hte)) (ok := m_ok) (As := [.int (4 : Int32)]) (rest := []) ⟨hx, hb, hml, hown, hts⟩ (c_X5_fails l G A hM hTm hkd hsz hld hch hdk htk hme hte (4 : Int32) q4 hok) (cwV 1 hts gX5_gasLash_X5_fails rfl rfl rfl (by decide +kernel) ⟨Nat.le_of_ble_eq_true rfl, Nat.le_of_ble_eq_true rfl⟩) hE hP hD hS (va_recv hE.1 hP (ci := 5) (q0 := 0) rfl rfl) rfl hl.1 rfl (Nat.le_of_ble_eq_true rfl) dX5_gasLash_24 ⟨Nat.zero_le _, Nat.zero_le _⟩ (fun q24 H locs e24 hP hD hok hS => ?_)
    refine lv_goto (tgt := 36) hx hb dX5_gasLash_27 (by decide) ?_
    exact gRi (u := q24.2) hx hb hr hlk hP hD hok hS (by rw [← hfv, f_X5_gasLash, ← e4, f_X5_gasLash_k4, if_neg c19, ← e24, f_X5_gasLash_k24]) dX5_gasLash_36
set_option maxHeartbeats 4000000 in
set_option maxRecDepth 100000 in
theorem c_X5_gasLash (l : Launch) (G : gC) (A : Nat → Prop) (hM hTm hkd hsz hld hch hdk htk hme hte : Nat) (v : Int32) (hv : vp_in v 70) (n : Int32) (u : MS) (hok : m_ok u) : CI l yX5_gasLash wsX5_gasLash ({ frames := 3, cells := 0, slots := 0, locals := 66 } : Room) G A (m_W (gI G) hM hTm hkd hsz hld hch hdk htk hme hte) m_ok [.ref hM, .int v, .int n] u (f_X5_gasLash v n u) := by
  refine Met.ofW (cc := cX5_gasLash) (maxL := 3) (ret := (some .int)) (by decide) rfl ?_
  intro p e s m args below meth c s₁ B hml hv
  obtain ⟨rfl, hE, hP, hD⟩ := hv
  have hl := lv_entry ([.ref hM, .int v, .int n]) (n := 3) (Nat.le_of_ble_eq_true rfl)
  rw [lg_entry_eq]
  generalize (lg_sl ([.ref hM, .int v, .int n]) ++ List.replicate (3 - (lg_sl ([.ref hM, .int v, .int n])).length) Slot.unset).toArray = ls at hl ⊢
  exact c_X5_gasLash_0 l G A hM hTm hkd hsz hld hch hdk htk hme hte v hv ⟨⟨B.exec, B.bytes, hml, findClass_of_methodNamed B.named, atoms_spec (ws := wsX5_gasLash) B.pre⟩, B.returns, B.notSynchronized⟩ hE n u hP hD hok va_S.rf hl rfl

-- FerryDecksModel.lash
def f_X5_lash_k55 (v : Int32) (q55 : Int32 × MS) : Int32 × MS :=
  (q55.1, q55.2)
def f_X5_lash_k62 (v : Int32) (q62 : Int32 × MS) : Int32 × MS :=
  (q62.1, q62.2)
def f_X5_lash_k62_1 (v : Int32) (q62 : Int32 × MS) : Int32 × MS :=
  (q62.1, q62.2)
def f_X5_lash_k77 (v : Int32) (q77 : Int32 × MS) : Int32 × MS :=
  (q77.1, q77.2)
def f_X5_lash_k69 (v : Int32) (n : Int32) (q69 : MS) : Int32 × MS :=
  (f_X5_lash_k77 v (f_X5_vanLash v (n / (2 : Int32)) q69))
def f_X5_lash_k77_1 (v : Int32) (q77 : Int32 × MS) : Int32 × MS :=
  (q77.1, q77.2)
def f_X5_lash_k69_1 (v : Int32) (n : Int32) (q69 : MS) : Int32 × MS :=
  (f_X5_lash_k77_1 v (f_X5_vanLash v (n / (2 : Int32)) q69))
def f_X5_lash_k55_1 (v : Int32) (q55 : Int32 × MS) : Int32 × MS :=
  (q55.1, q55.2)
def f_X5_lash_k84 (v : Int32) (q84 : Int32 × MS) : Int32 × MS :=
  (q84.1, q84.2)
def f_X5_lash_k91 (v : Int32) (q91 : Int32 × MS) : Int32 × MS :=
  (q91.1, q91.2)
def f_X5_lash_k133 (v : Int32) (q133 : Int32 × MS) : Int32 × MS :=
  (q133.1, q133.2)
def f_X5_lash_k105 (v : Int32) (n : Int32) (q105 : Int32 × MS) : Int32 × MS :=
  (if (m_fl q105.2) = 0 then (q105.1, q105.2) else (f_X5_lash_k133 v (f_X5_gasLash v n (m_s_ch (m_s_fl q105.2 (0 : Int32)) (upd (m_ch (m_s_fl q105.2 (0 : Int32))) (v : Int32).toNatClampNeg (0 : Int32))))))
def f_X5_lash_k99 (v : Int32) (n : Int32) (q99 : MS) : Int32 × MS :=
  (f_X5_lash_k105 v n (f_X5_gasLash v n q99))
def f_X5_lash (v : Int32) (n : Int32) (u : MS) : Int32 × MS :=
  (if (m_kd u (v : Int32).toNatClampNeg) = 1 then (f_X5_lash_k55 v (f_X5_plainLash v n u)) else (if (m_kd u (v : Int32).toNatClampNeg) = 2 then (f_X5_lash_k62 v (f_X5_vanLash v n u)) else (if (m_kd u (v : Int32).toNatClampNeg) = 3 then (f_X5_lash_k62_1 v (f_X5_vanLash v n u)) else (if (m_kd u (v : Int32).toNatClampNeg) = 4 then (f_X5_lash_k69 v n (f_X5_began (4 : Int32) (3 : Int32) u)) else (if (m_kd u (v : Int32).toNatClampNeg) = 5 then (f_X5_lash_k69_1 v n (f_X5_began (4 : Int32) (3 : Int32) u)) else (if (m_kd u (v : Int32).toNatClampNeg) = 6 then (f_X5_lash_k55_1 v (f_X5_plainLash v n u)) else (if (m_kd u (v : Int32).toNatClampNeg) = 7 then (f_X5_lash_k84 v (f_X5_tankerLash v n u)) else (if (m_kd u (v : Int32).toNatClampNeg) = 8 then (f_X5_lash_k91 v (f_X5_gasLash v n u)) else (f_X5_lash_k99 v n (f_X5_began (9 : Int32) (3 : Int32) u))))))))))
set_option maxHeartbeats 4000000 in
set_option maxRecDepth 100000 in
theorem c_X5_lash_0 {p : Program} {e : Env} {s : State} {m : MethodId} {args : Array Value} {below : List Frame} {meth : Method} {c : Code} (l : Launch) (G : gC) (A : Nat → Prop) (hM hTm hkd hsz hld hch hdk htk hme hte : Nat) (v : Int32) (hv : vp_in v 70) (C0 : gX p s m args meth c cX5_lash 4 wsX5_lash RX5 (some .int)) (hE : gE G A s) (n : Int32) (u : MS) {H : Heap} {locs : List Loc} (hP : va_P (gD G) vwCl ((m_W (gI G) hM hTm hkd hsz hld hch hdk htk hme hte) u) H) (hD : va_D A ((m_W (gI G) hM hTm hkd hsz hld hch hdk htk hme hte) u)) (hok : m_ok u) (hS : va_S A s.heap H locs) {ls : Array Slot} (hl : lv_has ls 4 [(0, .ref hM), (1, .int v), (2, .int n)]) {fv : Int32 × MS} (hfv : f_X5_lash v n u = fv) : W p l e ({ frames := 4, cells := 0, slots := 0, locals := 88 } : Room) s m args below meth c H locs 0 0 (MQ below (gQi G A (m_W (gI G) hM hTm hkd hsz hld hch hdk htk hme hte) m_ok fv) args s 0 0 A) (F0 m 0 ls []) := by
  obtain ⟨⟨hx, hb, hml, hown, hts⟩, hr, hlk⟩ := id C0
  have hok0 := hok
  have k0 := hts (.fieldLink RX5 13 "FerryDecksModel" "kinds" "[I") (by decide +kernel)
  have k1 := hts (.fieldLink RX5 73 "FerryDecksModel" "failure" "I") (by decide +kernel)
  have k2 := hts (.fieldLink RX5 22 "FerryDecksModel" "chains" "[I") (by decide +kernel)
  have iX5 : ∀ w ∈ wsX50, w ∈ wsX5_lash := by decide +kernel
  refine lv_aload_n hx hb dX5_lash_0 rfl (lv_at hl 0 rfl) ?_
  refine va_get (D := gD G) (ci := 5) (v := .ref hkd) (C := RX5) (T := TX5) (N := 17) hx hb hts iX5 hown hE.1 hP 0 rfl rfl 2 (by decide) k0 (fun _ h9 => h9) rfl dX5_lash_1 ?_
  refine lv_iload_n hx hb dX5_lash_4 rfl (lv_at hl 1 rfl) ?_
  refine va_iald hx hb hE.1 hP 2 0 rfl rfl (hv) dX5_lash_5 ?_
  by_cases c6_1 : (m_kd u (v : Int32).toNatClampNeg) = 1
  · refine gTs (off := 46) (tgt := 52) hx hb dX5_lash_6 rfl (by rw [c6_1]; decide) (by decide) ?_
    refine lv_aload_n hx hb dX5_lash_52 rfl (lv_at hl 0 rfl) ?_
    refine lv_iload_n hx hb dX5_lash_53 rfl (lv_at hl 1 rfl) ?_
    refine lv_iload_n hx hb dX5_lash_54 rfl (lv_at hl 2 rfl) ?_
    refine gVi (u := u) (Wd := (m_W (gI G) hM hTm hkd hsz hld hch hdk htk hme hte)) (ok := m_ok) (As := [.int v, .int n]) (rest := []) ⟨hx, hb, hml, hown, hts⟩ (c_X5_plainLash l G A hM hTm hkd hsz hld hch hdk htk hme hte v hv n u hok) (cwV 2 hts gX5_lash_X5_plainLash rfl rfl rfl (by decide +kernel) ⟨Nat.le_of_ble_eq_true rfl, Nat.le_of_ble_eq_true rfl⟩) hE hP hD hS (va_recv hE.1 hP (ci := 5) (q0 := 0) rfl rfl) rfl hl.1 rfl (Nat.le_of_ble_eq_true rfl) dX5_lash_55 ⟨Nat.zero_le _, Nat.zero_le _⟩ (fun q55 H locs e55 hP hD hok hS => ?_)
    exact gRi (u := q55.2) hx hb hr hlk hP hD hok hS (by rw [← hfv, f_X5_lash, if_pos c6_1, ← e55, f_X5_lash_k55]) dX5_lash_58
  by_cases c6_2 : (m_kd u (v : Int32).toNatClampNeg) = 2
  · refine gTs (off := 53) (tgt := 59) hx hb dX5_lash_6 rfl (by rw [c6_2]; decide) (by decide) ?_
    refine lv_aload_n hx hb dX5_lash_59 rfl (lv_at hl 0 rfl) ?_
    refine lv_iload_n hx hb dX5_lash_60 rfl (lv_at hl 1 rfl) ?_
    refine lv_iload_n hx hb dX5_lash_61 rfl (lv_at hl 2 rfl) ?_
    refine gVi (u := u) (Wd := (m_W (gI G) hM hTm hkd hsz hld hch hdk htk hme hte)) (ok := m_ok) (As := [.int v, .int n]) (rest := []) ⟨hx, hb, hml, hown, hts⟩ (c_X5_vanLash l G A hM hTm hkd hsz hld hch hdk htk hme hte v hv n u hok) (cwV 2 hts gX5_lash_X5_vanLash rfl rfl rfl (by decide +kernel) ⟨Nat.le_of_ble_eq_true rfl, Nat.le_of_ble_eq_true rfl⟩) hE hP hD hS (va_recv hE.1 hP (ci := 5) (q0 := 0) rfl rfl) rfl hl.1 rfl (Nat.le_of_ble_eq_true rfl) dX5_lash_62 ⟨Nat.zero_le _, Nat.zero_le _⟩ (fun q62 H locs e62 hP hD hok hS => ?_)
    exact gRi (u := q62.2) hx hb hr hlk hP hD hok hS (by rw [← hfv, f_X5_lash, if_neg c6_1, if_pos c6_2, ← e62, f_X5_lash_k62]) dX5_lash_65
  by_cases c6_3 : (m_kd u (v : Int32).toNatClampNeg) = 3
  · refine gTs (off := 53) (tgt := 59) hx hb dX5_lash_6 rfl (by rw [c6_3]; decide) (by decide) ?_
    refine lv_aload_n hx hb dX5_lash_59 rfl (lv_at hl 0 rfl) ?_
    refine lv_iload_n hx hb dX5_lash_60 rfl (lv_at hl 1 rfl) ?_
    refine lv_iload_n hx hb dX5_lash_61 rfl (lv_at hl 2 rfl) ?_
    refine gVi (u := u) (Wd := (m_W (gI G) hM hTm hkd hsz hld hch hdk htk hme hte)) (ok := m_ok) (As := [.int v, .int n]) (rest := []) ⟨hx, hb, hml, hown, hts⟩ (c_X5_vanLash l G A hM hTm hkd hsz hld hch hdk htk hme hte v hv n u hok) (cwV 2 hts gX5_lash_X5_vanLash rfl rfl rfl (by decide +kernel) ⟨Nat.le_of_ble_eq_true rfl, Nat.le_of_ble_eq_true rfl⟩) hE hP hD hS (va_recv hE.1 hP (ci := 5) (q0 := 0) rfl rfl) rfl hl.1 rfl (Nat.le_of_ble_eq_true rfl) dX5_lash_62 ⟨Nat.zero_le _, Nat.zero_le _⟩ (fun q62 H locs e62 hP hD hok hS => ?_)
    exact gRi (u := q62.2) hx hb hr hlk hP hD hok hS (by rw [← hfv, f_X5_lash, if_neg c6_1, if_neg c6_2, if_pos c6_3, ← e62, f_X5_lash_k62_1]) dX5_lash_65
  by_cases c6_4 : (m_kd u (v : Int32).toNatClampNeg) = 4
  · refine gTs (off := 60) (tgt := 66) hx hb dX5_lash_6 rfl (by rw [c6_4]; decide) (by decide) ?_
    refine lv_aload_n hx hb dX5_lash_66 rfl (lv_at hl 0 rfl) ?_
    refine lv_iconst (v := 4) hx hb dX5_lash_67 (by decide) ?_
    refine lv_iconst (v := 3) hx hb dX5_lash_68 (by decide) ?_
    refine gVv (u := u) (Wd := (m_W (gI G) hM hTm hkd hsz hld hch hdk htk hme hte)) (ok := m_ok) (As := [.int (4 : Int32), .int (3 : Int32)]) (rest := []) ⟨hx, hb, hml, hown, hts⟩ (c_X5_began l G A hM hTm hkd hsz hld hch hdk htk hme hte (4 : Int32) (3 : Int32) u hok) (cwV 2 hts gX5_lash_X5_began rfl rfl rfl (by decide +kernel) ⟨Nat.le_of_ble_eq_true rfl, Nat.le_of_ble_eq_true rfl⟩) hE hP hD hS (va_recv hE.1 hP (ci := 5) (q0 := 0) rfl rfl) rfl hl.1 rfl (Nat.le_of_ble_eq_true rfl) dX5_lash_69 ⟨Nat.zero_le _, Nat.zero_le _⟩ (fun q69 H locs e69 hP hD hok hS => ?_)
    refine lv_aload_n hx hb dX5_lash_72 rfl (lv_at hl 0 rfl) ?_
    refine lv_iload_n hx hb dX5_lash_73 rfl (lv_at hl 1 rfl) ?_
    refine lv_iload_n hx hb dX5_lash_74 rfl (lv_at hl 2 rfl) ?_
    refine lv_iconst (v := 2) hx hb dX5_lash_75 (by decide) ?_
    refine lv_idiv hx hb dX5_lash_76 (by decide) ?_
    refine gVi (u := q69) (Wd := (m_W (gI G) hM hTm hkd hsz hld hch hdk htk hme hte)) (ok := m_ok) (As := [.int v, .int (n / (2 : Int32))]) (rest := []) ⟨hx, hb, hml, hown, hts⟩ (c_X5_vanLash l G A hM hTm hkd hsz hld hch hdk htk hme hte v hv (n / (2 : Int32)) q69 hok) (cwV 2 hts gX5_lash_X5_vanLash rfl rfl rfl (by decide +kernel) ⟨Nat.le_of_ble_eq_true rfl, Nat.le_of_ble_eq_true rfl⟩) hE hP hD hS (va_recv hE.1 hP (ci := 5) (q0 := 0) rfl rfl) rfl hl.1 rfl (Nat.le_of_ble_eq_true rfl) dX5_lash_77 ⟨Nat.zero_le _, Nat.zero_le _⟩ (fun q77 H locs e77 hP hD hok hS => ?_)
    exact gRi (u := q77.2) hx hb hr hlk hP hD hok hS (by rw [← hfv, f_X5_lash, if_neg c6_1, if_neg c6_2, if_neg c6_3, if_pos c6_4, ← e69, f_X5_lash_k69, ← e77, f_X5_lash_k77]) dX5_lash_80
  by_cases c6_5 : (m_kd u (v : Int32).toNatClampNeg) = 5
  · refine gTs (off := 60) (tgt := 66) hx hb dX5_lash_6 rfl (by rw [c6_5]; decide) (by decide) ?_
    refine lv_aload_n hx hb dX5_lash_66 rfl (lv_at hl 0 rfl) ?_
    refine lv_iconst (v := 4) hx hb dX5_lash_67 (by decide) ?_
    refine lv_iconst (v := 3) hx hb dX5_lash_68 (by decide) ?_
    refine gVv (u := u) (Wd := (m_W (gI G) hM hTm hkd hsz hld hch hdk htk hme hte)) (ok := m_ok) (As := [.int (4 : Int32), .int (3 : Int32)]) (rest := []) ⟨hx, hb, hml, hown, hts⟩ (c_X5_began l G A hM hTm hkd hsz hld hch hdk htk hme hte (4 : Int32) (3 : Int32) u hok) (cwV 2 hts gX5_lash_X5_began rfl rfl rfl (by decide +kernel) ⟨Nat.le_of_ble_eq_true rfl, Nat.le_of_ble_eq_true rfl⟩) hE hP hD hS (va_recv hE.1 hP (ci := 5) (q0 := 0) rfl rfl) rfl hl.1 rfl (Nat.le_of_ble_eq_true rfl) dX5_lash_69 ⟨Nat.zero_le _, Nat.zero_le _⟩ (fun q69 H locs e69 hP hD hok hS => ?_)
    refine lv_aload_n hx hb dX5_lash_72 rfl (lv_at hl 0 rfl) ?_
    refine lv_iload_n hx hb dX5_lash_73 rfl (lv_at hl 1 rfl) ?_
    refine lv_iload_n hx hb dX5_lash_74 rfl (lv_at hl 2 rfl) ?_
    refine lv_iconst (v := 2) hx hb dX5_lash_75 (by decide) ?_
    refine lv_idiv hx hb dX5_lash_76 (by decide) ?_
    refine gVi (u := q69) (Wd := (m_W (gI G) hM hTm hkd hsz hld hch hdk htk hme hte)) (ok := m_ok) (As := [.int v, .int (n / (2 : Int32))]) (rest := []) ⟨hx, hb, hml, hown, hts⟩ (c_X5_vanLash l G A hM hTm hkd hsz hld hch hdk htk hme hte v hv (n / (2 : Int32)) q69 hok) (cwV 2 hts gX5_lash_X5_vanLash rfl rfl rfl (by decide +kernel) ⟨Nat.le_of_ble_eq_true rfl, Nat.le_of_ble_eq_true rfl⟩) hE hP hD hS (va_recv hE.1 hP (ci := 5) (q0 := 0) rfl rfl) rfl hl.1 rfl (Nat.le_of_ble_eq_true rfl) dX5_lash_77 ⟨Nat.zero_le _, Nat.zero_le _⟩ (fun q77 H locs e77 hP hD hok hS => ?_)
    exact gRi (u := q77.2) hx hb hr hlk hP hD hok hS (by rw [← hfv, f_X5_lash, if_neg c6_1, if_neg c6_2, if_neg c6_3, if_neg c6_4, if_pos c6_5, ← e69, f_X5_lash_k69_1, ← e77, f_X5_lash_k77_1]) dX5_lash_80
  by_cases c6_6 : (m_kd u (v : Int32).toNatClampNeg) = 6
  · refine gTs (off := 46) (tgt := 52) hx hb dX5_lash_6 rfl (by rw [c6_6]; decide) (by decide) ?_
    refine lv_aload_n hx hb dX5_lash_52 rfl (lv_at hl 0 rfl) ?_
    refine lv_iload_n hx hb dX5_lash_53 rfl (lv_at hl 1 rfl) ?_
    refine lv_iload_n hx hb dX5_lash_54 rfl (lv_at hl 2 rfl) ?_
    refine gVi (u := u) (Wd := (m_W (gI G) hM hTm hkd hsz hld hch hdk htk hme hte)) (ok := m_ok) (As := [.int v, .int n]) (rest := []) ⟨hx, hb, hml, hown, hts⟩ (c_X5_plainLash l G A hM hTm hkd hsz hld hch hdk htk hme hte v hv n u hok) (cwV 2 hts gX5_lash_X5_plainLash rfl rfl rfl (by decide +kernel) ⟨Nat.le_of_ble_eq_true rfl, Nat.le_of_ble_eq_true rfl⟩) hE hP hD hS (va_recv hE.1 hP (ci := 5) (q0 := 0) rfl rfl) rfl hl.1 rfl (Nat.le_of_ble_eq_true rfl) dX5_lash_55 ⟨Nat.zero_le _, Nat.zero_le _⟩ (fun q55 H locs e55 hP hD hok hS => ?_)
    exact gRi (u := q55.2) hx hb hr hlk hP hD hok hS (by rw [← hfv, f_X5_lash, if_neg c6_1, if_neg c6_2, if_neg c6_3, if_neg c6_4, if_neg c6_5, if_pos c6_6, ← e55, f_X5_lash_k55_1]) dX5_lash_58
  by_cases c6_7 : (m_kd u (v : Int32).toNatClampNeg) = 7
  · refine gTs (off := 75) (tgt := 81) hx hb dX5_lash_6 rfl (by rw [c6_7]; decide) (by decide) ?_
    refine lv_aload_n hx hb dX5_lash_81 rfl (lv_at hl 0 rfl) ?_
    refine lv_iload_n hx hb dX5_lash_82 rfl (lv_at hl 1 rfl) ?_
    refine lv_iload_n hx hb dX5_lash_83 rfl (lv_at hl 2 rfl) ?_
    refine gVi (u := u) (Wd := (m_W (gI G) hM hTm hkd hsz hld hch hdk htk hme hte)) (ok := m_ok) (As := [.int v, .int n]) (rest := []) ⟨hx, hb, hml, hown, hts⟩ (c_X5_tankerLash l G A hM hTm hkd hsz hld hch hdk htk hme hte v hv n u hok) (cwV 2 hts gX5_lash_X5_tankerLash rfl rfl rfl (by decide +kernel) ⟨Nat.le_of_ble_eq_true rfl, Nat.le_of_ble_eq_true rfl⟩) hE hP hD hS (va_recv hE.1 hP (ci := 5) (q0 := 0) rfl rfl) rfl hl.1 rfl (Nat.le_of_ble_eq_true rfl) dX5_lash_84 ⟨Nat.zero_le _, Nat.zero_le _⟩ (fun q84 H locs e84 hP hD hok hS => ?_)
    exact gRi (u := q84.2) hx hb hr hlk hP hD hok hS (by rw [← hfv, f_X5_lash, if_neg c6_1, if_neg c6_2, if_neg c6_3, if_neg c6_4, if_neg c6_5, if_neg c6_6, if_pos c6_7, ← e84, f_X5_lash_k84]) dX5_lash_87
  by_cases c6_8 : (m_kd u (v : Int32).toNatClampNeg) = 8
  · refine gTs (off := 82) (tgt := 88) hx hb dX5_lash_6 rfl (by rw [c6_8]; decide) (by decide) ?_
    refine lv_aload_n hx hb dX5_lash_88 rfl (lv_at hl 0 rfl) ?_
    refine lv_iload_n hx hb dX5_lash_89 rfl (lv_at hl 1 rfl) ?_
    refine lv_iload_n hx hb dX5_lash_90 rfl (lv_at hl 2 rfl) ?_
    refine gVi (u := u) (Wd := (m_W (gI G) hM hTm hkd hsz hld hch hdk htk hme hte)) (ok := m_ok) (As := [.int v, .int n]) (rest := []) ⟨hx, hb, hml, hown, hts⟩ (c_X5_gasLash l G A hM hTm hkd hsz hld hch hdk htk hme hte v hv n u hok) (cwV 2 hts gX5_lash_X5_gasLash rfl rfl rfl (by decide +kernel) ⟨Nat.le_of_ble_eq_true rfl, Nat.le_of_ble_eq_true rfl⟩) hE hP hD hS (va_recv hE.1 hP (ci := 5) (q0 := 0) rfl rfl) rfl hl.1 rfl (Nat.le_of_ble_eq_true rfl) dX5_lash_91 ⟨Nat.zero_le _, Nat.zero_le _⟩ (fun q91 H locs e91 hP hD hok hS => ?_)
    exact gRi (u := q91.2) hx hb hr hlk hP hD hok hS (by rw [← hfv, f_X5_lash, if_neg c6_1, if_neg c6_2, if_neg c6_3, if_neg c6_4, if_neg c6_5, if_neg c6_6, if_neg c6_7, if_pos c6_8, ← e91, f_X5_lash_k91]) dX5_lash_94
  refine gTs (off := 89) (tgt := 95) hx hb dX5_lash_6 rfl (by have z1 := lv_neT (a := 1) c6_1 (by decide); have z2 := lv_neT (a := 2) c6_2 (by decide); have z3 := lv_neT (a := 3) c6_3 (by decide); have z4 := lv_neT (a := 4) c6_4 (by decide); have z5 := lv_neT (a := 5) c6_5 (by decide); have z6 := lv_neT (a := 6) c6_6 (by decide); have z7 := lv_neT (a := 7) c6_7 (by decide); have z8 := lv_neT (a := 8) c6_8 (by decide); unfold tsO; by_cases hh : (m_kd u (v : Int32).toNatClampNeg).toInt < 1 ∨ 8 < (m_kd u (v : Int32).toNatClampNeg).toInt; (rw [if_pos hh]); (rw [if_neg hh]; omega)) (by decide) ?_
  refine lv_aload_n hx hb dX5_lash_95 rfl (lv_at hl 0 rfl) ?_
  refine lv_bipush (v := 9) hx hb dX5_lash_96 (by decide) ?_
  refine lv_iconst (v := 3) hx hb dX5_lash_98 (by decide) ?_
  refine gVv (u := u) (Wd := (m_W (gI G) hM hTm hkd hsz hld hch hdk htk hme hte)) (ok := m_ok) (As := [.int (9 : Int32), .int (3 : Int32)]) (rest := []) ⟨hx, hb, hml, hown, hts⟩ (c_X5_began l G A hM hTm hkd hsz hld hch hdk htk hme hte (9 : Int32) (3 : Int32) u hok) (cwV 2 hts gX5_lash_X5_began rfl rfl rfl (by decide +kernel) ⟨Nat.le_of_ble_eq_true rfl, Nat.le_of_ble_eq_true rfl⟩) hE hP hD hS (va_recv hE.1 hP (ci := 5) (q0 := 0) rfl rfl) rfl hl.1 rfl (Nat.le_of_ble_eq_true rfl) dX5_lash_99 ⟨Nat.zero_le _, Nat.zero_le _⟩ (fun q99 H locs e99 hP hD hok hS => ?_)
  refine lv_aload_n hx hb dX5_lash_102 rfl (lv_at hl 0 rfl) ?_
  refine lv_iload_n hx hb dX5_lash_103 rfl (lv_at hl 1 rfl) ?_
  refine lv_iload_n hx hb dX5_lash_104 rfl (lv_at hl 2 rfl) ?_
  refine gVi (u := q99) (Wd := (m_W (gI G) hM hTm hkd hsz hld hch hdk htk hme hte)) (ok := m_ok) (As := [.int v, .int n]) (rest := []) ⟨hx, hb, hml, hown, hts⟩ (c_X5_gasLash l G A hM hTm hkd hsz hld hch hdk htk hme hte v hv n q99 hok) (cwV 2 hts gX5_lash_X5_gasLash rfl rfl rfl (by decide +kernel) ⟨Nat.le_of_ble_eq_true rfl, Nat.le_of_ble_eq_true rfl⟩) hE hP hD hS (va_recv hE.1 hP (ci := 5) (q0 := 0) rfl rfl) rfl hl.1 rfl (Nat.le_of_ble_eq_true rfl) dX5_lash_105 ⟨Nat.zero_le _, Nat.zero_le _⟩ (fun q105 H locs e105 hP hD hok hS => ?_)
  refine lv_istore_n (lv' := [(3, .int q105.1), (0, .ref hM), (1, .int v), (2, .int n)]) hx hb dX5_lash_108 rfl hl (by decide) rfl (fun ls hl => ?_)
  refine lv_aload_n hx hb dX5_lash_109 rfl (lv_at hl 1 rfl) ?_
  refine va_get (D := gD G) (ci := 5) (v := .int (m_fl q105.2)) (C := RX5) (T := TX5) (N := 17) hx hb hts iX5 hown hE.1 hP 0 rfl rfl 16 (by decide) k1 (fun _ h9 => h9) rfl dX5_lash_110 ?_
  refine lv_if_ne (tgt := 118) hx hb dX5_lash_113 (by decide) (fun c113 => ?_) (fun c113 => ?_)
  · refine lv_aload_n hx hb dX5_lash_118 rfl (lv_at hl 1 rfl) ?_
    refine lv_iconst (v := 0) hx hb dX5_lash_119 (by decide) ?_
    refine va_put (D := gD G) (ci := 5) (v := .int (0 : Int32)) (ty := .int) (C := RX5) (T := TX5) (N := 17) hx hb hts iX5 tyX5 tyX5_ok nmX5 hown hE.1 hP hD hS 0 rfl rfl 16 (by decide) k1 (fun _ h9 => h9) rfl (by decide +kernel) rfl rfl (Nat.le_of_ble_eq_true rfl) dX5_lash_120 (fun H locs hP hD hS => ?_)
    have hP : va_P (gD G) vwCl ((m_W (gI G) hM hTm hkd hsz hld hch hdk htk hme hte) (m_s_fl q105.2 (0 : Int32))) H := hP
    have hD : va_D A ((m_W (gI G) hM hTm hkd hsz hld hch hdk htk hme hte) (m_s_fl q105.2 (0 : Int32))) := hD
    have hok : m_ok (m_s_fl q105.2 (0 : Int32)) := hok
    refine lv_aload_n hx hb dX5_lash_123 rfl (lv_at hl 1 rfl) ?_
    refine va_get (D := gD G) (ci := 5) (v := .ref hch) (C := RX5) (T := TX5) (N := 17) hx hb hts iX5 hown hE.1 hP 0 rfl rfl 5 (by decide) k2 (fun _ h9 => h9) rfl dX5_lash_124 ?_
    refine lv_iload_n hx hb dX5_lash_127 rfl (lv_at hl 2 rfl) ?_
    refine lv_iconst (v := 0) hx hb dX5_lash_128 (by decide) ?_
    refine va_iast hx hb hE.1 hP hD hS 5 0 rfl rfl (hv) dX5_lash_129 (fun H locs hP hD hS => ?_)
    have hP : va_P (gD G) vwCl ((m_W (gI G) hM hTm hkd hsz hld hch hdk htk hme hte) (m_s_ch (m_s_fl q105.2 (0 : Int32)) (upd (m_ch (m_s_fl q105.2 (0 : Int32))) (v : Int32).toNatClampNeg (0 : Int32)))) H := hP
    have hD : va_D A ((m_W (gI G) hM hTm hkd hsz hld hch hdk htk hme hte) (m_s_ch (m_s_fl q105.2 (0 : Int32)) (upd (m_ch (m_s_fl q105.2 (0 : Int32))) (v : Int32).toNatClampNeg (0 : Int32)))) := hD
    have hok : m_ok (m_s_ch (m_s_fl q105.2 (0 : Int32)) (upd (m_ch (m_s_fl q105.2 (0 : Int32))) (v : Int32).toNatClampNeg (0 : Int32))) := hok
    refine lv_aload_n hx hb dX5_lash_130 rfl (lv_at hl 1 rfl) ?_
    refine lv_iload_n hx hb dX5_lash_131 rfl (lv_at hl 2 rfl) ?_
    refine lv_iload_n hx hb dX5_lash_132 rfl (lv_at hl 3 rfl) ?_
    refine gVi (u := m_s_ch (m_s_fl q105.2 (0 : Int32)) (upd (m_ch (m_s_fl q105.2 (0 : Int32))) (v : Int32).toNatClampNeg (0 : Int32))) (Wd := (m_W (gI G) hM hTm hkd hsz hld hch hdk htk hme hte)) (ok := m_ok) (As := [.int v, .int n]) (rest := []) ⟨hx, hb, hml, hown, hts⟩ (c_X5_gasLash l G A hM hTm hkd hsz hld hch hdk htk hme hte v hv n (m_s_ch (m_s_fl q105.2 (0 : Int32)) (upd (m_ch (m_s_fl q105.2 (0 : Int32))) (v : Int32).toNatClampNeg (0 : Int32))) hok) (cwV 2 hts gX5_lash_X5_gasLash rfl rfl rfl (by decide +kernel) ⟨Nat.le_of_ble_eq_true rfl, Nat.le_of_ble_eq_true rfl⟩) hE hP hD hS (va_recv hE.1 hP (ci := 5) (q0 := 0) rfl rfl) rfl hl.1 rfl (Nat.le_of_ble_eq_true rfl) dX5_lash_133 ⟨Nat.zero_le _, Nat.zero_le _⟩ (fun q133 H locs e133 hP hD hok hS => ?_)
    exact gRi (u := q133.2) hx hb hr hlk hP hD hok hS (by rw [← hfv, f_X5_lash, if_neg c6_1, if_neg c6_2, if_neg c6_3, if_neg c6_4, if_neg c6_5, if_neg c6_6, if_neg c6_7, if_neg c6_8, ← e99, f_X5_lash_k99, ← e105, f_X5_lash_k105, if_neg c113, ← e133, f_X5_lash_k133]) dX5_lash_136
  · refine lv_iload_n hx hb dX5_lash_116 rfl (lv_at hl 0 rfl) ?_
    exact gRi (u := q105.2) hx hb hr hlk hP hD hok hS (by rw [← hfv, f_X5_lash, if_neg c6_1, if_neg c6_2, if_neg c6_3, if_neg c6_4, if_neg c6_5, if_neg c6_6, if_neg c6_7, if_neg c6_8, ← e99, f_X5_lash_k99, ← e105, f_X5_lash_k105, if_pos c113]) dX5_lash_117
set_option maxHeartbeats 4000000 in
set_option maxRecDepth 100000 in
theorem c_X5_lash (l : Launch) (G : gC) (A : Nat → Prop) (hM hTm hkd hsz hld hch hdk htk hme hte : Nat) (v : Int32) (hv : vp_in v 70) (n : Int32) (u : MS) (hok : m_ok u) : CI l yX5_lash wsX5_lash ({ frames := 4, cells := 0, slots := 0, locals := 88 } : Room) G A (m_W (gI G) hM hTm hkd hsz hld hch hdk htk hme hte) m_ok [.ref hM, .int v, .int n] u (f_X5_lash v n u) := by
  refine Met.ofW (cc := cX5_lash) (maxL := 4) (ret := (some .int)) (by decide) rfl ?_
  intro p e s m args below meth c s₁ B hml hv
  obtain ⟨rfl, hE, hP, hD⟩ := hv
  have hl := lv_entry ([.ref hM, .int v, .int n]) (n := 4) (Nat.le_of_ble_eq_true rfl)
  rw [lg_entry_eq]
  generalize (lg_sl ([.ref hM, .int v, .int n]) ++ List.replicate (4 - (lg_sl ([.ref hM, .int v, .int n])).length) Slot.unset).toArray = ls at hl ⊢
  exact c_X5_lash_0 l G A hM hTm hkd hsz hld hch hdk htk hme hte v hv ⟨⟨B.exec, B.bytes, hml, findClass_of_methodNamed B.named, atoms_spec (ws := wsX5_lash) B.pre⟩, B.returns, B.notSynchronized⟩ hE n u hP hD hok va_S.rf hl rfl

-- FerryDecksModel.asked
def f_X5_asked_k42 (v : Int32) (q42 : Int32 × MS) : Int32 × MS :=
  (q42.1, q42.2)
def f_X5_asked_k49 (v : Int32) (q49 : Int32 × MS) : Int32 × MS :=
  (q49.1, q49.2)
def f_X5_asked_k56 (v : Int32) (q56 : Int32 × MS) : Int32 × MS :=
  (q56.1, q56.2)
def f_X5_asked_k63 (v : Int32) (q63 : Int32 × MS) : Int32 × MS :=
  (q63.1, q63.2)
def f_X5_asked_k69 (v : Int32) (q69 : Int32 × MS) : Int32 × MS :=
  (q69.1, q69.2)
def f_X5_asked_k76 (v : Int32) (q76 : Int32 × MS) : Int32 × MS :=
  (q76.1, q76.2)
def f_X5_asked_k82 (v : Int32) (q82 : Int32 × MS) : Int32 × MS :=
  (q82.1, q82.2)
def f_X5_asked (v : Int32) (mb : Int32) (n : Int32) (u : MS) : Int32 × MS :=
  (if mb = 0 then (f_X5_asked_k42 v (f_X5_length v u)) else (if mb = 1 then (f_X5_asked_k49 v (f_X5_fee v n u)) else (if mb = 2 then (f_X5_asked_k56 v (f_X5_riskOf v n u)) else (if mb = 3 then (f_X5_asked_k63 v (f_X5_lash v n u)) else (if mb = 4 then (f_X5_asked_k69 v (f_X5_mark v u)) else (if mb = 5 then (f_X5_asked_k76 v (f_X5_pulls v n u)) else (f_X5_asked_k82 v (f_X5_hook v u))))))))
set_option maxHeartbeats 4000000 in
set_option maxRecDepth 100000 in
theorem c_X5_asked_0 {p : Program} {e : Env} {s : State} {m : MethodId} {args : Array Value} {below : List Frame} {meth : Method} {c : Code} (l : Launch) (G : gC) (A : Nat → Prop) (hM hTm hkd hsz hld hch hdk htk hme hte : Nat) (v : Int32) (hv : vp_in v 70) (C0 : gX p s m args meth c cX5_asked 4 wsX5_asked RX5 (some .int)) (hE : gE G A s) (mb : Int32) (n : Int32) (u : MS) {H : Heap} {locs : List Loc} (hP : va_P (gD G) vwCl ((m_W (gI G) hM hTm hkd hsz hld hch hdk htk hme hte) u) H) (hD : va_D A ((m_W (gI G) hM hTm hkd hsz hld hch hdk htk hme hte) u)) (hok : m_ok u) (hS : va_S A s.heap H locs) {ls : Array Slot} (hl : lv_has ls 4 [(0, .ref hM), (1, .int v), (2, .int mb), (3, .int n)]) {fv : Int32 × MS} (hfv : f_X5_asked v mb n u = fv) : W p l e ({ frames := 6, cells := 0, slots := 0, locals := 134 } : Room) s m args below meth c H locs 0 0 (MQ below (gQi G A (m_W (gI G) hM hTm hkd hsz hld hch hdk htk hme hte) m_ok fv) args s 0 0 A) (F0 m 0 ls []) := by
  obtain ⟨⟨hx, hb, hml, hown, hts⟩, hr, hlk⟩ := id C0
  have hok0 := hok
  refine lv_iload_n hx hb dX5_asked_0 rfl (lv_at hl 2 rfl) ?_
  by_cases c1_0 : mb = 0
  · refine gTs (off := 39) (tgt := 40) hx hb dX5_asked_1 rfl (by rw [c1_0]; decide) (by decide) ?_
    refine lv_aload_n hx hb dX5_asked_40 rfl (lv_at hl 0 rfl) ?_
    refine lv_iload_n hx hb dX5_asked_41 rfl (lv_at hl 1 rfl) ?_
    refine gVi (u := u) (Wd := (m_W (gI G) hM hTm hkd hsz hld hch hdk htk hme hte)) (ok := m_ok) (As := [.int v]) (rest := []) ⟨hx, hb, hml, hown, hts⟩ (c_X5_length l G A hM hTm hkd hsz hld hch hdk htk hme hte v hv u hok) (cwV 1 hts gX5_asked_X5_length rfl rfl rfl (by decide +kernel) ⟨Nat.le_of_ble_eq_true rfl, Nat.le_of_ble_eq_true rfl⟩) hE hP hD hS (va_recv hE.1 hP (ci := 5) (q0 := 0) rfl rfl) rfl hl.1 rfl (Nat.le_of_ble_eq_true rfl) dX5_asked_42 ⟨Nat.zero_le _, Nat.zero_le _⟩ (fun q42 H locs e42 hP hD hok hS => ?_)
    exact gRi (u := q42.2) hx hb hr hlk hP hD hok hS (by rw [← hfv, f_X5_asked, if_pos c1_0, ← e42, f_X5_asked_k42]) dX5_asked_45
  by_cases c1_1 : mb = 1
  · refine gTs (off := 45) (tgt := 46) hx hb dX5_asked_1 rfl (by rw [c1_1]; decide) (by decide) ?_
    refine lv_aload_n hx hb dX5_asked_46 rfl (lv_at hl 0 rfl) ?_
    refine lv_iload_n hx hb dX5_asked_47 rfl (lv_at hl 1 rfl) ?_
    refine lv_iload_n hx hb dX5_asked_48 rfl (lv_at hl 3 rfl) ?_
    refine gVi (u := u) (Wd := (m_W (gI G) hM hTm hkd hsz hld hch hdk htk hme hte)) (ok := m_ok) (As := [.int v, .int n]) (rest := []) ⟨hx, hb, hml, hown, hts⟩ (c_X5_fee l G A hM hTm hkd hsz hld hch hdk htk hme hte v hv n u hok) (cwV 2 hts gX5_asked_X5_fee rfl rfl rfl (by decide +kernel) ⟨Nat.le_of_ble_eq_true rfl, Nat.le_of_ble_eq_true rfl⟩) hE hP hD hS (va_recv hE.1 hP (ci := 5) (q0 := 0) rfl rfl) rfl hl.1 rfl (Nat.le_of_ble_eq_true rfl) dX5_asked_49 ⟨Nat.zero_le _, Nat.zero_le _⟩ (fun q49 H locs e49 hP hD hok hS => ?_)
    exact gRi (u := q49.2) hx hb hr hlk hP hD hok hS (by rw [← hfv, f_X5_asked, if_neg c1_0, if_pos c1_1, ← e49, f_X5_asked_k49]) dX5_asked_52
  by_cases c1_2 : mb = 2
  · refine gTs (off := 52) (tgt := 53) hx hb dX5_asked_1 rfl (by rw [c1_2]; decide) (by decide) ?_
    refine lv_aload_n hx hb dX5_asked_53 rfl (lv_at hl 0 rfl) ?_
    refine lv_iload_n hx hb dX5_asked_54 rfl (lv_at hl 1 rfl) ?_
    refine lv_iload_n hx hb dX5_asked_55 rfl (lv_at hl 3 rfl) ?_
    refine gVi (u := u) (Wd := (m_W (gI G) hM hTm hkd hsz hld hch hdk htk hme hte)) (ok := m_ok) (As := [.int v, .int n]) (rest := []) ⟨hx, hb, hml, hown, hts⟩ (c_X5_riskOf l G A hM hTm hkd hsz hld hch hdk htk hme hte v hv n u hok) (cwV 2 hts gX5_asked_X5_riskOf rfl rfl rfl (by decide +kernel) ⟨Nat.le_of_ble_eq_true rfl, Nat.le_of_ble_eq_true rfl⟩) hE hP hD hS (va_recv hE.1 hP (ci := 5) (q0 := 0) rfl rfl) rfl hl.1 rfl (Nat.le_of_ble_eq_true rfl) dX5_asked_56 ⟨Nat.zero_le _, Nat.zero_le _⟩ (fun q56 H locs e56 hP hD hok hS => ?_)
    exact gRi (u := q56.2) hx hb hr hlk hP hD hok hS (by rw [← hfv, f_X5_asked, if_neg c1_0, if_neg c1_1, if_pos c1_2, ← e56, f_X5_asked_k56]) dX5_asked_59
  by_cases c1_3 : mb = 3
  · refine gTs (off := 59) (tgt := 60) hx hb dX5_asked_1 rfl (by rw [c1_3]; decide) (by decide) ?_
    refine lv_aload_n hx hb dX5_asked_60 rfl (lv_at hl 0 rfl) ?_
    refine lv_iload_n hx hb dX5_asked_61 rfl (lv_at hl 1 rfl) ?_
    refine lv_iload_n hx hb dX5_asked_62 rfl (lv_at hl 3 rfl) ?_
    refine gVi (u := u) (Wd := (m_W (gI G) hM hTm hkd hsz hld hch hdk htk hme hte)) (ok := m_ok) (As := [.int v, .int n]) (rest := []) ⟨hx, hb, hml, hown, hts⟩ (c_X5_lash l G A hM hTm hkd hsz hld hch hdk htk hme hte v hv n u hok) (cwV 2 hts gX5_asked_X5_lash rfl rfl rfl (by decide +kernel) ⟨Nat.le_of_ble_eq_true rfl, Nat.le_of_ble_eq_true rfl⟩) hE hP hD hS (va_recv hE.1 hP (ci := 5) (q0 := 0) rfl rfl) rfl hl.1 rfl (Nat.le_of_ble_eq_true rfl) dX5_asked_63 ⟨Nat.zero_le _, Nat.zero_le _⟩ (fun q63 H locs e63 hP hD hok hS => ?_)
    exact gRi (u := q63.2) hx hb hr hlk hP hD hok hS (by rw [← hfv, f_X5_asked, if_neg c1_0, if_neg c1_1, if_neg c1_2, if_pos c1_3, ← e63, f_X5_asked_k63]) dX5_asked_66
  by_cases c1_4 : mb = 4
  · refine gTs (off := 66) (tgt := 67) hx hb dX5_asked_1 rfl (by rw [c1_4]; decide) (by decide) ?_
    refine lv_aload_n hx hb dX5_asked_67 rfl (lv_at hl 0 rfl) ?_
    refine lv_iload_n hx hb dX5_asked_68 rfl (lv_at hl 1 rfl) ?_
    refine gVi (u := u) (Wd := (m_W (gI G) hM hTm hkd hsz hld hch hdk htk hme hte)) (ok := m_ok) (As := [.int v]) (rest := []) ⟨hx, hb, hml, hown, hts⟩ (c_X5_mark l G A hM hTm hkd hsz hld hch hdk htk hme hte v hv u hok) (cwV 1 hts gX5_asked_X5_mark rfl rfl rfl (by decide +kernel) ⟨Nat.le_of_ble_eq_true rfl, Nat.le_of_ble_eq_true rfl⟩) hE hP hD hS (va_recv hE.1 hP (ci := 5) (q0 := 0) rfl rfl) rfl hl.1 rfl (Nat.le_of_ble_eq_true rfl) dX5_asked_69 ⟨Nat.zero_le _, Nat.zero_le _⟩ (fun q69 H locs e69 hP hD hok hS => ?_)
    exact gRi (u := q69.2) hx hb hr hlk hP hD hok hS (by rw [← hfv, f_X5_asked, if_neg c1_0, if_neg c1_1, if_neg c1_2, if_neg c1_3, if_pos c1_4, ← e69, f_X5_asked_k69]) dX5_asked_72
  by_cases c1_5 : mb = 5
  · refine gTs (off := 72) (tgt := 73) hx hb dX5_asked_1 rfl (by rw [c1_5]; decide) (by decide) ?_
    refine lv_aload_n hx hb dX5_asked_73 rfl (lv_at hl 0 rfl) ?_
    refine lv_iload_n hx hb dX5_asked_74 rfl (lv_at hl 1 rfl) ?_
    refine lv_iload_n hx hb dX5_asked_75 rfl (lv_at hl 3 rfl) ?_
    refine gVi (u := u) (Wd := (m_W (gI G) hM hTm hkd hsz hld hch hdk htk hme hte)) (ok := m_ok) (As := [.int v, .int n]) (rest := []) ⟨hx, hb, hml, hown, hts⟩ (c_X5_pulls l G A hM hTm hkd hsz hld hch hdk htk hme hte v hv n u hok) (cwV 2 hts gX5_asked_X5_pulls rfl rfl rfl (by decide +kernel) ⟨Nat.le_of_ble_eq_true rfl, Nat.le_of_ble_eq_true rfl⟩) hE hP hD hS (va_recv hE.1 hP (ci := 5) (q0 := 0) rfl rfl) rfl hl.1 rfl (Nat.le_of_ble_eq_true rfl) dX5_asked_76 ⟨Nat.zero_le _, Nat.zero_le _⟩ (fun q76 H locs e76 hP hD hok hS => ?_)
    exact gRi (u := q76.2) hx hb hr hlk hP hD hok hS (by rw [← hfv, f_X5_asked, if_neg c1_0, if_neg c1_1, if_neg c1_2, if_neg c1_3, if_neg c1_4, if_pos c1_5, ← e76, f_X5_asked_k76]) dX5_asked_79
  refine gTs (off := 79) (tgt := 80) hx hb dX5_asked_1 rfl (by have z0 := lv_neT (a := 0) c1_0 (by decide); have z1 := lv_neT (a := 1) c1_1 (by decide); have z2 := lv_neT (a := 2) c1_2 (by decide); have z3 := lv_neT (a := 3) c1_3 (by decide); have z4 := lv_neT (a := 4) c1_4 (by decide); have z5 := lv_neT (a := 5) c1_5 (by decide); unfold tsO; by_cases hh : mb.toInt < 0 ∨ 5 < mb.toInt; (rw [if_pos hh]); (rw [if_neg hh]; omega)) (by decide) ?_
  refine lv_aload_n hx hb dX5_asked_80 rfl (lv_at hl 0 rfl) ?_
  refine lv_iload_n hx hb dX5_asked_81 rfl (lv_at hl 1 rfl) ?_
  refine gVi (u := u) (Wd := (m_W (gI G) hM hTm hkd hsz hld hch hdk htk hme hte)) (ok := m_ok) (As := [.int v]) (rest := []) ⟨hx, hb, hml, hown, hts⟩ (c_X5_hook l G A hM hTm hkd hsz hld hch hdk htk hme hte v hv u hok) (cwV 1 hts gX5_asked_X5_hook rfl rfl rfl (by decide +kernel) ⟨Nat.le_of_ble_eq_true rfl, Nat.le_of_ble_eq_true rfl⟩) hE hP hD hS (va_recv hE.1 hP (ci := 5) (q0 := 0) rfl rfl) rfl hl.1 rfl (Nat.le_of_ble_eq_true rfl) dX5_asked_82 ⟨Nat.zero_le _, Nat.zero_le _⟩ (fun q82 H locs e82 hP hD hok hS => ?_)
  exact gRi (u := q82.2) hx hb hr hlk hP hD hok hS (by rw [← hfv, f_X5_asked, if_neg c1_0, if_neg c1_1, if_neg c1_2, if_neg c1_3, if_neg c1_4, if_neg c1_5, ← e82, f_X5_asked_k82]) dX5_asked_85
set_option maxHeartbeats 4000000 in
set_option maxRecDepth 100000 in
theorem c_X5_asked (l : Launch) (G : gC) (A : Nat → Prop) (hM hTm hkd hsz hld hch hdk htk hme hte : Nat) (v : Int32) (hv : vp_in v 70) (mb : Int32) (n : Int32) (u : MS) (hok : m_ok u) : CI l yX5_asked wsX5_asked ({ frames := 6, cells := 0, slots := 0, locals := 134 } : Room) G A (m_W (gI G) hM hTm hkd hsz hld hch hdk htk hme hte) m_ok [.ref hM, .int v, .int mb, .int n] u (f_X5_asked v mb n u) := by
  refine Met.ofW (cc := cX5_asked) (maxL := 4) (ret := (some .int)) (by decide) rfl ?_
  intro p e s m args below meth c s₁ B hml hv
  obtain ⟨rfl, hE, hP, hD⟩ := hv
  have hl := lv_entry ([.ref hM, .int v, .int mb, .int n]) (n := 4) (Nat.le_of_ble_eq_true rfl)
  rw [lg_entry_eq]
  generalize (lg_sl ([.ref hM, .int v, .int mb, .int n]) ++ List.replicate (4 - (lg_sl ([.ref hM, .int v, .int mb, .int n])).length) Slot.unset).toArray = ls at hl ⊢
  exact c_X5_asked_0 l G A hM hTm hkd hsz hld hch hdk htk hme hte v hv ⟨⟨B.exec, B.bytes, hml, findClass_of_methodNamed B.named, atoms_spec (ws := wsX5_asked) B.pre⟩, B.returns, B.notSynchronized⟩ hE mb n u hP hD hok va_S.rf hl rfl
