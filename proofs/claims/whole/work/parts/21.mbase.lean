-- FerryDecksModel.isVehicle
def f_X5_isVehicle_k10 (u : MS) (q10 : Int32) : Int32 × MS :=
  (q10, u)
def f_X5_isVehicle (v : Int32) (u : MS) : Int32 × MS :=
  (f_X5_isVehicle_k10 u (f_X5_in ((v : Int32).toInt64) (0 : Int64) ((((m_v u) - (1 : Int32)) : Int32).toInt64)))
set_option maxHeartbeats 4000000 in
set_option maxRecDepth 100000 in
theorem c_X5_isVehicle_0 {p : Program} {e : Env} {s : State} {m : MethodId} {args : Array Value} {below : List Frame} {meth : Method} {c : Code} (l : Launch) (G : gC) (A : Nat → Prop) (hM hTm hkd hsz hld hch hdk htk hme hte : Nat) (C0 : gX p s m args meth c cX5_isVehicle 2 wsX5_isVehicle RX5 (some .boolean)) (hE : gE G A s) (v : Int32) (u : MS) {H : Heap} {locs : List Loc} (hP : va_P (gD G) vwCl ((m_W (gI G) hM hTm hkd hsz hld hch hdk htk hme hte) u) H) (hD : va_D A ((m_W (gI G) hM hTm hkd hsz hld hch hdk htk hme hte) u)) (hok : m_ok u) (hS : va_S A s.heap H locs) {ls : Array Slot} (hl : lv_has ls 2 [(0, .ref hM), (1, .int v)]) {fv : Int32 × MS} (hfv : f_X5_isVehicle v u = fv) : W p l e ({ frames := 1, cells := 0, slots := 0, locals := 25 } : Room) s m args below meth c H locs 0 0 (MQ below (gQi G A (m_W (gI G) hM hTm hkd hsz hld hch hdk htk hme hte) m_ok fv) args s 0 0 A) (F0 m 0 ls []) := by
  obtain ⟨⟨hx, hb, hml, hown, hts⟩, hr, hlk⟩ := id C0
  have hok0 := hok
  have k0 := hts (.fieldLink RX5 37 "FerryDecksModel" "vehicles" "I") (by decide +kernel)
  have iX5 : ∀ w ∈ wsX50, w ∈ wsX5_isVehicle := by decide +kernel
  refine lv_iload_n hx hb dX5_isVehicle_0 rfl (lv_at hl 1 rfl) ?_
  refine lv_i2l (v := (v : Int32).toInt64) hx hb dX5_isVehicle_1 rfl ?_
  refine lv_lconst (v := 0) hx hb dX5_isVehicle_2 (by decide) ?_
  refine lv_aload_n hx hb dX5_isVehicle_3 rfl (lv_at hl 0 rfl) ?_
  refine va_get (D := gD G) (ci := 5) (v := .int (m_v u)) (C := RX5) (T := TX5) (N := 17) hx hb hts iX5 hown hE.1 hP 0 rfl rfl 1 (by decide) k0 (fun _ h9 => h9) rfl dX5_isVehicle_4 ?_
  refine lv_iconst (v := 1) hx hb dX5_isVehicle_7 (by decide) ?_
  refine lv_isub hx hb dX5_isVehicle_8 ?_
  refine lv_i2l (v := (((m_v u) - (1 : Int32)) : Int32).toInt64) hx hb dX5_isVehicle_9 rfl ?_
  refine gSi (As := [.long ((v : Int32).toInt64), .long (0 : Int64), .long ((((m_v u) - (1 : Int32)) : Int32).toInt64)]) (rest := []) ⟨hx, hb, hml, hown, hts⟩ (c_X5_in l G A ((v : Int32).toInt64) (0 : Int64) ((((m_v u) - (1 : Int32)) : Int32).toInt64)) (va_cwS 3 hts gX5_isVehicle_X5_in rfl rfl rfl (by decide +kernel) ⟨Nat.le_of_ble_eq_true rfl, Nat.le_of_ble_eq_true rfl⟩) hE hS rfl hl.1 rfl (Nat.le_of_ble_eq_true rfl) dX5_isVehicle_10 ⟨Nat.zero_le _, Nat.zero_le _⟩ (fun q10 e10 => ?_)
  exact gRz (u := u) hx hb hr hlk (in_nar e10) hP hD hok hS (by rw [← hfv, f_X5_isVehicle, ← e10, f_X5_isVehicle_k10]) dX5_isVehicle_13
set_option maxHeartbeats 4000000 in
set_option maxRecDepth 100000 in
theorem c_X5_isVehicle (l : Launch) (G : gC) (A : Nat → Prop) (hM hTm hkd hsz hld hch hdk htk hme hte : Nat) (v : Int32) (u : MS) (hok : m_ok u) : CI l yX5_isVehicle wsX5_isVehicle ({ frames := 1, cells := 0, slots := 0, locals := 25 } : Room) G A (m_W (gI G) hM hTm hkd hsz hld hch hdk htk hme hte) m_ok [.ref hM, .int v] u (f_X5_isVehicle v u) := by
  refine Met.ofW (cc := cX5_isVehicle) (maxL := 2) (ret := (some .boolean)) (by decide) rfl ?_
  intro p e s m args below meth c s₁ B hml hv
  obtain ⟨rfl, hE, hP, hD⟩ := hv
  have hl := lv_entry ([.ref hM, .int v]) (n := 2) (Nat.le_of_ble_eq_true rfl)
  rw [lg_entry_eq]
  generalize (lg_sl ([.ref hM, .int v]) ++ List.replicate (2 - (lg_sl ([.ref hM, .int v])).length) Slot.unset).toArray = ls at hl ⊢
  exact c_X5_isVehicle_0 l G A hM hTm hkd hsz hld hch hdk htk hme hte ⟨⟨B.exec, B.bytes, hml, findClass_of_methodNamed B.named, atoms_spec (ws := wsX5_isVehicle) B.pre⟩, B.returns, B.notSynchronized⟩ hE v u hP hD hok va_S.rf hl rfl

-- FerryDecksModel.act
def f_X5_act (u : MS) : MS :=
  m_s_fl (m_s_ac (m_s_z u (0 : Int32)) ((m_ac (m_s_z u (0 : Int32))) + (1 : Int32))) (0 : Int32)
set_option maxHeartbeats 4000000 in
set_option maxRecDepth 100000 in
theorem c_X5_act_0 {p : Program} {e : Env} {s : State} {m : MethodId} {args : Array Value} {below : List Frame} {meth : Method} {c : Code} (l : Launch) (G : gC) (A : Nat → Prop) (hM hTm hkd hsz hld hch hdk htk hme hte : Nat) (C0 : gX p s m args meth c cX5_act 1 wsX5_act RX5 none) (hE : gE G A s) (u : MS) {H : Heap} {locs : List Loc} (hP : va_P (gD G) vwCl ((m_W (gI G) hM hTm hkd hsz hld hch hdk htk hme hte) u) H) (hD : va_D A ((m_W (gI G) hM hTm hkd hsz hld hch hdk htk hme hte) u)) (hok : m_ok u) (hS : va_S A s.heap H locs) {ls : Array Slot} (hl : lv_has ls 1 [(0, .ref hM)]) {fv : MS} (hfv : f_X5_act u = fv) : W p l e ({ frames := 0, cells := 0, slots := 0, locals := 0 } : Room) s m args below meth c H locs 0 0 (MQ below (gQv G A (m_W (gI G) hM hTm hkd hsz hld hch hdk htk hme hte) m_ok fv) args s 0 0 A) (F0 m 0 ls []) := by
  obtain ⟨⟨hx, hb, hml, hown, hts⟩, hr, hlk⟩ := id C0
  have hok0 := hok
  have k0 := hts (.fieldLink RX5 67 "FerryDecksModel" "traced" "I") (by decide +kernel)
  have k1 := hts (.fieldLink RX5 70 "FerryDecksModel" "acts" "I") (by decide +kernel)
  have k2 := hts (.fieldLink RX5 73 "FerryDecksModel" "failure" "I") (by decide +kernel)
  have iX5 : ∀ w ∈ wsX50, w ∈ wsX5_act := by decide +kernel
  refine lv_aload_n hx hb dX5_act_0 rfl (lv_at hl 0 rfl) ?_
  refine lv_iconst (v := 0) hx hb dX5_act_1 (by decide) ?_
  refine va_put (D := gD G) (ci := 5) (v := .int (0 : Int32)) (ty := .int) (C := RX5) (T := TX5) (N := 17) hx hb hts iX5 tyX5 tyX5_ok nmX5 hown hE.1 hP hD hS 0 rfl rfl 13 (by decide) k0 (fun _ h9 => h9) rfl (by decide +kernel) rfl rfl (Nat.le_of_ble_eq_true rfl) dX5_act_2 (fun H locs hP hD hS => ?_)
  have hP : va_P (gD G) vwCl ((m_W (gI G) hM hTm hkd hsz hld hch hdk htk hme hte) (m_s_z u (0 : Int32))) H := hP
  have hD : va_D A ((m_W (gI G) hM hTm hkd hsz hld hch hdk htk hme hte) (m_s_z u (0 : Int32))) := hD
  have hok : m_ok (m_s_z u (0 : Int32)) := ⟨hok.1, ok0, hok.2.2⟩
  refine lv_aload_n hx hb dX5_act_5 rfl (lv_at hl 0 rfl) ?_
  refine lv_dup hx hb dX5_act_6 rfl ?_
  refine va_get (D := gD G) (ci := 5) (v := .int (m_ac (m_s_z u (0 : Int32)))) (C := RX5) (T := TX5) (N := 17) hx hb hts iX5 hown hE.1 hP 0 rfl rfl 14 (by decide) k1 (fun _ h9 => h9) rfl dX5_act_7 ?_
  refine lv_iconst (v := 1) hx hb dX5_act_10 (by decide) ?_
  refine lv_iadd hx hb dX5_act_11 ?_
  refine va_put (D := gD G) (ci := 5) (v := .int ((m_ac (m_s_z u (0 : Int32))) + (1 : Int32))) (ty := .int) (C := RX5) (T := TX5) (N := 17) hx hb hts iX5 tyX5 tyX5_ok nmX5 hown hE.1 hP hD hS 0 rfl rfl 14 (by decide) k1 (fun _ h9 => h9) rfl (by decide +kernel) rfl rfl (Nat.le_of_ble_eq_true rfl) dX5_act_12 (fun H locs hP hD hS => ?_)
  have hP : va_P (gD G) vwCl ((m_W (gI G) hM hTm hkd hsz hld hch hdk htk hme hte) (m_s_ac (m_s_z u (0 : Int32)) ((m_ac (m_s_z u (0 : Int32))) + (1 : Int32)))) H := hP
  have hD : va_D A ((m_W (gI G) hM hTm hkd hsz hld hch hdk htk hme hte) (m_s_ac (m_s_z u (0 : Int32)) ((m_ac (m_s_z u (0 : Int32))) + (1 : Int32)))) := hD
  have hok : m_ok (m_s_ac (m_s_z u (0 : Int32)) ((m_ac (m_s_z u (0 : Int32))) + (1 : Int32))) := hok
  refine lv_aload_n hx hb dX5_act_15 rfl (lv_at hl 0 rfl) ?_
  refine lv_iconst (v := 0) hx hb dX5_act_16 (by decide) ?_
  refine va_put (D := gD G) (ci := 5) (v := .int (0 : Int32)) (ty := .int) (C := RX5) (T := TX5) (N := 17) hx hb hts iX5 tyX5 tyX5_ok nmX5 hown hE.1 hP hD hS 0 rfl rfl 16 (by decide) k2 (fun _ h9 => h9) rfl (by decide +kernel) rfl rfl (Nat.le_of_ble_eq_true rfl) dX5_act_17 (fun H locs hP hD hS => ?_)
  have hP : va_P (gD G) vwCl ((m_W (gI G) hM hTm hkd hsz hld hch hdk htk hme hte) (m_s_fl (m_s_ac (m_s_z u (0 : Int32)) ((m_ac (m_s_z u (0 : Int32))) + (1 : Int32))) (0 : Int32))) H := hP
  have hD : va_D A ((m_W (gI G) hM hTm hkd hsz hld hch hdk htk hme hte) (m_s_fl (m_s_ac (m_s_z u (0 : Int32)) ((m_ac (m_s_z u (0 : Int32))) + (1 : Int32))) (0 : Int32))) := hD
  have hok : m_ok (m_s_fl (m_s_ac (m_s_z u (0 : Int32)) ((m_ac (m_s_z u (0 : Int32))) + (1 : Int32))) (0 : Int32)) := hok
  exact gRv hx hb hr hlk hP hD hok hS (by rw [← hfv, f_X5_act]) dX5_act_20
set_option maxHeartbeats 4000000 in
set_option maxRecDepth 100000 in
theorem c_X5_act (l : Launch) (G : gC) (A : Nat → Prop) (hM hTm hkd hsz hld hch hdk htk hme hte : Nat) (u : MS) (hok : m_ok u) : CV l yX5_act wsX5_act ({ frames := 0, cells := 0, slots := 0, locals := 0 } : Room) G A (m_W (gI G) hM hTm hkd hsz hld hch hdk htk hme hte) m_ok [.ref hM] u (f_X5_act u) := by
  refine Met.ofW (cc := cX5_act) (maxL := 1) (ret := none) (by decide) rfl ?_
  intro p e s m args below meth c s₁ B hml hv
  obtain ⟨rfl, hE, hP, hD⟩ := hv
  have hl := lv_entry ([.ref hM]) (n := 1) (Nat.le_of_ble_eq_true rfl)
  rw [lg_entry_eq]
  generalize (lg_sl ([.ref hM]) ++ List.replicate (1 - (lg_sl ([.ref hM])).length) Slot.unset).toArray = ls at hl ⊢
  exact c_X5_act_0 l G A hM hTm hkd hsz hld hch hdk htk hme hte ⟨⟨B.exec, B.bytes, hml, findClass_of_methodNamed B.named, atoms_spec (ws := wsX5_act) B.pre⟩, B.returns, B.notSynchronized⟩ hE u hP hD hok va_S.rf hl rfl

-- FerryDecksModel.began
def f_X5_began (x : Int32) (y : Int32) (u : MS) : MS :=
  (if (400 : Int32) ≤ (m_z u) then u else m_s_z (m_s_te u (upd (m_te u) ((m_z u) : Int32).toNatClampNeg (((10 : Int32) * x) + y))) ((m_z (m_s_te u (upd (m_te u) ((m_z u) : Int32).toNatClampNeg (((10 : Int32) * x) + y)))) + (1 : Int32)))
set_option maxHeartbeats 4000000 in
set_option maxRecDepth 100000 in
theorem c_X5_began_0 {p : Program} {e : Env} {s : State} {m : MethodId} {args : Array Value} {below : List Frame} {meth : Method} {c : Code} (l : Launch) (G : gC) (A : Nat → Prop) (hM hTm hkd hsz hld hch hdk htk hme hte : Nat) (C0 : gX p s m args meth c cX5_began 3 wsX5_began RX5 none) (hE : gE G A s) (x : Int32) (y : Int32) (u : MS) {H : Heap} {locs : List Loc} (hP : va_P (gD G) vwCl ((m_W (gI G) hM hTm hkd hsz hld hch hdk htk hme hte) u) H) (hD : va_D A ((m_W (gI G) hM hTm hkd hsz hld hch hdk htk hme hte) u)) (hok : m_ok u) (hS : va_S A s.heap H locs) {ls : Array Slot} (hl : lv_has ls 3 [(0, .ref hM), (1, .int x), (2, .int y)]) {fv : MS} (hfv : f_X5_began x y u = fv) : W p l e ({ frames := 0, cells := 0, slots := 0, locals := 0 } : Room) s m args below meth c H locs 0 0 (MQ below (gQv G A (m_W (gI G) hM hTm hkd hsz hld hch hdk htk hme hte) m_ok fv) args s 0 0 A) (F0 m 0 ls []) := by
  obtain ⟨⟨hx, hb, hml, hown, hts⟩, hr, hlk⟩ := id C0
  have hok0 := hok
  have k0 := hts (.fieldLink RX5 67 "FerryDecksModel" "traced" "I") (by decide +kernel)
  have k1 := hts (.fieldLink RX5 34 "FerryDecksModel" "trace" "[I") (by decide +kernel)
  have iX5 : ∀ w ∈ wsX50, w ∈ wsX5_began := by decide +kernel
  refine lv_aload_n hx hb dX5_began_0 rfl (lv_at hl 0 rfl) ?_
  refine va_get (D := gD G) (ci := 5) (v := .int (m_z u)) (C := RX5) (T := TX5) (N := 17) hx hb hts iX5 hown hE.1 hP 0 rfl rfl 13 (by decide) k0 (fun _ h9 => h9) rfl dX5_began_1 ?_
  refine lv_sipush (v := 400) hx hb dX5_began_4 (by decide) ?_
  refine lv_icmp_ge (tgt := 35) hx hb dX5_began_7 (by decide) (fun c7 => ?_) (fun c7 => ?_)
  · exact gRv hx hb hr hlk hP hD hok hS (by rw [← hfv, f_X5_began, if_pos c7]) dX5_began_35
  · refine lv_aload_n hx hb dX5_began_10 rfl (lv_at hl 0 rfl) ?_
    refine va_get (D := gD G) (ci := 5) (v := .ref hte) (C := RX5) (T := TX5) (N := 17) hx hb hts iX5 hown hE.1 hP 0 rfl rfl 12 (by decide) k1 (fun _ h9 => h9) rfl dX5_began_11 ?_
    refine lv_aload_n hx hb dX5_began_14 rfl (lv_at hl 0 rfl) ?_
    refine va_get (D := gD G) (ci := 5) (v := .int (m_z u)) (C := RX5) (T := TX5) (N := 17) hx hb hts iX5 hown hE.1 hP 0 rfl rfl 13 (by decide) k0 (fun _ h9 => h9) rfl dX5_began_15 ?_
    refine lv_bipush (v := 10) hx hb dX5_began_18 (by decide) ?_
    refine lv_iload_n hx hb dX5_began_20 rfl (lv_at hl 1 rfl) ?_
    refine lv_imul hx hb dX5_began_21 ?_
    refine lv_iload_n hx hb dX5_began_22 rfl (lv_at hl 2 rfl) ?_
    refine lv_iadd hx hb dX5_began_23 ?_
    refine va_iast hx hb hE.1 hP hD hS 9 0 rfl rfl (gIn (by decide) hok.2.1.1 (okLt c7)) dX5_began_24 (fun H locs hP hD hS => ?_)
    have hP : va_P (gD G) vwCl ((m_W (gI G) hM hTm hkd hsz hld hch hdk htk hme hte) (m_s_te u (upd (m_te u) ((m_z u) : Int32).toNatClampNeg (((10 : Int32) * x) + y)))) H := hP
    have hD : va_D A ((m_W (gI G) hM hTm hkd hsz hld hch hdk htk hme hte) (m_s_te u (upd (m_te u) ((m_z u) : Int32).toNatClampNeg (((10 : Int32) * x) + y)))) := hD
    have hok : m_ok (m_s_te u (upd (m_te u) ((m_z u) : Int32).toNatClampNeg (((10 : Int32) * x) + y))) := hok
    refine lv_aload_n hx hb dX5_began_25 rfl (lv_at hl 0 rfl) ?_
    refine lv_dup hx hb dX5_began_26 rfl ?_
    refine va_get (D := gD G) (ci := 5) (v := .int (m_z (m_s_te u (upd (m_te u) ((m_z u) : Int32).toNatClampNeg (((10 : Int32) * x) + y))))) (C := RX5) (T := TX5) (N := 17) hx hb hts iX5 hown hE.1 hP 0 rfl rfl 13 (by decide) k0 (fun _ h9 => h9) rfl dX5_began_27 ?_
    refine lv_iconst (v := 1) hx hb dX5_began_30 (by decide) ?_
    refine lv_iadd hx hb dX5_began_31 ?_
    refine va_put (D := gD G) (ci := 5) (v := .int ((m_z (m_s_te u (upd (m_te u) ((m_z u) : Int32).toNatClampNeg (((10 : Int32) * x) + y)))) + (1 : Int32))) (ty := .int) (C := RX5) (T := TX5) (N := 17) hx hb hts iX5 tyX5 tyX5_ok nmX5 hown hE.1 hP hD hS 0 rfl rfl 13 (by decide) k0 (fun _ h9 => h9) rfl (by decide +kernel) rfl rfl (Nat.le_of_ble_eq_true rfl) dX5_began_32 (fun H locs hP hD hS => ?_)
    have hP : va_P (gD G) vwCl ((m_W (gI G) hM hTm hkd hsz hld hch hdk htk hme hte) (m_s_z (m_s_te u (upd (m_te u) ((m_z u) : Int32).toNatClampNeg (((10 : Int32) * x) + y))) ((m_z (m_s_te u (upd (m_te u) ((m_z u) : Int32).toNatClampNeg (((10 : Int32) * x) + y)))) + (1 : Int32)))) H := hP
    have hD : va_D A ((m_W (gI G) hM hTm hkd hsz hld hch hdk htk hme hte) (m_s_z (m_s_te u (upd (m_te u) ((m_z u) : Int32).toNatClampNeg (((10 : Int32) * x) + y))) ((m_z (m_s_te u (upd (m_te u) ((m_z u) : Int32).toNatClampNeg (((10 : Int32) * x) + y)))) + (1 : Int32)))) := hD
    have hok : m_ok (m_s_z (m_s_te u (upd (m_te u) ((m_z u) : Int32).toNatClampNeg (((10 : Int32) * x) + y))) ((m_z (m_s_te u (upd (m_te u) ((m_z u) : Int32).toNatClampNeg (((10 : Int32) * x) + y)))) + (1 : Int32))) := ⟨hok.1, okInc hok.2.1 c7, hok.2.2⟩
    exact gRv hx hb hr hlk hP hD hok hS (by rw [← hfv, f_X5_began, if_neg c7]) dX5_began_35
set_option maxHeartbeats 4000000 in
set_option maxRecDepth 100000 in
theorem c_X5_began (l : Launch) (G : gC) (A : Nat → Prop) (hM hTm hkd hsz hld hch hdk htk hme hte : Nat) (x : Int32) (y : Int32) (u : MS) (hok : m_ok u) : CV l yX5_began wsX5_began ({ frames := 0, cells := 0, slots := 0, locals := 0 } : Room) G A (m_W (gI G) hM hTm hkd hsz hld hch hdk htk hme hte) m_ok [.ref hM, .int x, .int y] u (f_X5_began x y u) := by
  refine Met.ofW (cc := cX5_began) (maxL := 3) (ret := none) (by decide) rfl ?_
  intro p e s m args below meth c s₁ B hml hv
  obtain ⟨rfl, hE, hP, hD⟩ := hv
  have hl := lv_entry ([.ref hM, .int x, .int y]) (n := 3) (Nat.le_of_ble_eq_true rfl)
  rw [lg_entry_eq]
  generalize (lg_sl ([.ref hM, .int x, .int y]) ++ List.replicate (3 - (lg_sl ([.ref hM, .int x, .int y])).length) Slot.unset).toArray = ls at hl ⊢
  exact c_X5_began_0 l G A hM hTm hkd hsz hld hch hdk htk hme hte ⟨⟨B.exec, B.bytes, hml, findClass_of_methodNamed B.named, atoms_spec (ws := wsX5_began) B.pre⟩, B.returns, B.notSynchronized⟩ hE x y u hP hD hok va_S.rf hl rfl

-- FerryDecksModel.fails
def f_X5_fails (x : Int32) (u : MS) : Int32 × MS :=
  ((0 : Int32), m_s_fl u x)
set_option maxHeartbeats 4000000 in
set_option maxRecDepth 100000 in
theorem c_X5_fails_0 {p : Program} {e : Env} {s : State} {m : MethodId} {args : Array Value} {below : List Frame} {meth : Method} {c : Code} (l : Launch) (G : gC) (A : Nat → Prop) (hM hTm hkd hsz hld hch hdk htk hme hte : Nat) (C0 : gX p s m args meth c cX5_fails 2 wsX5_fails RX5 (some .int)) (hE : gE G A s) (x : Int32) (u : MS) {H : Heap} {locs : List Loc} (hP : va_P (gD G) vwCl ((m_W (gI G) hM hTm hkd hsz hld hch hdk htk hme hte) u) H) (hD : va_D A ((m_W (gI G) hM hTm hkd hsz hld hch hdk htk hme hte) u)) (hok : m_ok u) (hS : va_S A s.heap H locs) {ls : Array Slot} (hl : lv_has ls 2 [(0, .ref hM), (1, .int x)]) {fv : Int32 × MS} (hfv : f_X5_fails x u = fv) : W p l e ({ frames := 0, cells := 0, slots := 0, locals := 0 } : Room) s m args below meth c H locs 0 0 (MQ below (gQi G A (m_W (gI G) hM hTm hkd hsz hld hch hdk htk hme hte) m_ok fv) args s 0 0 A) (F0 m 0 ls []) := by
  obtain ⟨⟨hx, hb, hml, hown, hts⟩, hr, hlk⟩ := id C0
  have hok0 := hok
  have k0 := hts (.fieldLink RX5 73 "FerryDecksModel" "failure" "I") (by decide +kernel)
  have iX5 : ∀ w ∈ wsX50, w ∈ wsX5_fails := by decide +kernel
  refine lv_aload_n hx hb dX5_fails_0 rfl (lv_at hl 0 rfl) ?_
  refine lv_iload_n hx hb dX5_fails_1 rfl (lv_at hl 1 rfl) ?_
  refine va_put (D := gD G) (ci := 5) (v := .int x) (ty := .int) (C := RX5) (T := TX5) (N := 17) hx hb hts iX5 tyX5 tyX5_ok nmX5 hown hE.1 hP hD hS 0 rfl rfl 16 (by decide) k0 (fun _ h9 => h9) rfl (by decide +kernel) rfl rfl (Nat.le_of_ble_eq_true rfl) dX5_fails_2 (fun H locs hP hD hS => ?_)
  have hP : va_P (gD G) vwCl ((m_W (gI G) hM hTm hkd hsz hld hch hdk htk hme hte) (m_s_fl u x)) H := hP
  have hD : va_D A ((m_W (gI G) hM hTm hkd hsz hld hch hdk htk hme hte) (m_s_fl u x)) := hD
  have hok : m_ok (m_s_fl u x) := hok
  refine lv_iconst (v := 0) hx hb dX5_fails_5 (by decide) ?_
  exact gRi (u := m_s_fl u x) hx hb hr hlk hP hD hok hS (by rw [← hfv, f_X5_fails]) dX5_fails_6
set_option maxHeartbeats 4000000 in
set_option maxRecDepth 100000 in
theorem c_X5_fails (l : Launch) (G : gC) (A : Nat → Prop) (hM hTm hkd hsz hld hch hdk htk hme hte : Nat) (x : Int32) (u : MS) (hok : m_ok u) : CI l yX5_fails wsX5_fails ({ frames := 0, cells := 0, slots := 0, locals := 0 } : Room) G A (m_W (gI G) hM hTm hkd hsz hld hch hdk htk hme hte) m_ok [.ref hM, .int x] u (f_X5_fails x u) := by
  refine Met.ofW (cc := cX5_fails) (maxL := 2) (ret := (some .int)) (by decide) rfl ?_
  intro p e s m args below meth c s₁ B hml hv
  obtain ⟨rfl, hE, hP, hD⟩ := hv
  have hl := lv_entry ([.ref hM, .int x]) (n := 2) (Nat.le_of_ble_eq_true rfl)
  rw [lg_entry_eq]
  generalize (lg_sl ([.ref hM, .int x]) ++ List.replicate (2 - (lg_sl ([.ref hM, .int x])).length) Slot.unset).toArray = ls at hl ⊢
  exact c_X5_fails_0 l G A hM hTm hkd hsz hld hch hdk htk hme hte ⟨⟨B.exec, B.bytes, hml, findClass_of_methodNamed B.named, atoms_spec (ws := wsX5_fails) B.pre⟩, B.returns, B.notSynchronized⟩ hE x u hP hD hok va_S.rf hl rfl

-- FerryDecksModel.taken
def f_X5_taken (x : Int32) (y : Int32) (y2 : Int32) (u : MS) : Int32 × MS :=
  (if (m_fl u) = x then (y2, m_s_fl u (0 : Int32)) else (y, u))
set_option maxHeartbeats 4000000 in
set_option maxRecDepth 100000 in
theorem c_X5_taken_0 {p : Program} {e : Env} {s : State} {m : MethodId} {args : Array Value} {below : List Frame} {meth : Method} {c : Code} (l : Launch) (G : gC) (A : Nat → Prop) (hM hTm hkd hsz hld hch hdk htk hme hte : Nat) (C0 : gX p s m args meth c cX5_taken 4 wsX5_taken RX5 (some .int)) (hE : gE G A s) (x : Int32) (y : Int32) (y2 : Int32) (u : MS) {H : Heap} {locs : List Loc} (hP : va_P (gD G) vwCl ((m_W (gI G) hM hTm hkd hsz hld hch hdk htk hme hte) u) H) (hD : va_D A ((m_W (gI G) hM hTm hkd hsz hld hch hdk htk hme hte) u)) (hok : m_ok u) (hS : va_S A s.heap H locs) {ls : Array Slot} (hl : lv_has ls 4 [(0, .ref hM), (1, .int x), (2, .int y), (3, .int y2)]) {fv : Int32 × MS} (hfv : f_X5_taken x y y2 u = fv) : W p l e ({ frames := 0, cells := 0, slots := 0, locals := 0 } : Room) s m args below meth c H locs 0 0 (MQ below (gQi G A (m_W (gI G) hM hTm hkd hsz hld hch hdk htk hme hte) m_ok fv) args s 0 0 A) (F0 m 0 ls []) := by
  obtain ⟨⟨hx, hb, hml, hown, hts⟩, hr, hlk⟩ := id C0
  have hok0 := hok
  have k0 := hts (.fieldLink RX5 73 "FerryDecksModel" "failure" "I") (by decide +kernel)
  have iX5 : ∀ w ∈ wsX50, w ∈ wsX5_taken := by decide +kernel
  refine lv_aload_n hx hb dX5_taken_0 rfl (lv_at hl 0 rfl) ?_
  refine va_get (D := gD G) (ci := 5) (v := .int (m_fl u)) (C := RX5) (T := TX5) (N := 17) hx hb hts iX5 hown hE.1 hP 0 rfl rfl 16 (by decide) k0 (fun _ h9 => h9) rfl dX5_taken_1 ?_
  refine lv_iload_n hx hb dX5_taken_4 rfl (lv_at hl 1 rfl) ?_
  refine lv_icmp_eq (tgt := 10) hx hb dX5_taken_5 (by decide) (fun c5 => ?_) (fun c5 => ?_)
  · refine lv_aload_n hx hb dX5_taken_10 rfl (lv_at hl 0 rfl) ?_
    refine lv_iconst (v := 0) hx hb dX5_taken_11 (by decide) ?_
    refine va_put (D := gD G) (ci := 5) (v := .int (0 : Int32)) (ty := .int) (C := RX5) (T := TX5) (N := 17) hx hb hts iX5 tyX5 tyX5_ok nmX5 hown hE.1 hP hD hS 0 rfl rfl 16 (by decide) k0 (fun _ h9 => h9) rfl (by decide +kernel) rfl rfl (Nat.le_of_ble_eq_true rfl) dX5_taken_12 (fun H locs hP hD hS => ?_)
    have hP : va_P (gD G) vwCl ((m_W (gI G) hM hTm hkd hsz hld hch hdk htk hme hte) (m_s_fl u (0 : Int32))) H := hP
    have hD : va_D A ((m_W (gI G) hM hTm hkd hsz hld hch hdk htk hme hte) (m_s_fl u (0 : Int32))) := hD
    have hok : m_ok (m_s_fl u (0 : Int32)) := hok
    refine lv_iload_n hx hb dX5_taken_15 rfl (lv_at hl 3 rfl) ?_
    exact gRi (u := m_s_fl u (0 : Int32)) hx hb hr hlk hP hD hok hS (by rw [← hfv, f_X5_taken, if_pos c5]) dX5_taken_16
  · refine lv_iload_n hx hb dX5_taken_8 rfl (lv_at hl 2 rfl) ?_
    exact gRi (u := u) hx hb hr hlk hP hD hok hS (by rw [← hfv, f_X5_taken, if_neg c5]) dX5_taken_9
set_option maxHeartbeats 4000000 in
set_option maxRecDepth 100000 in
theorem c_X5_taken (l : Launch) (G : gC) (A : Nat → Prop) (hM hTm hkd hsz hld hch hdk htk hme hte : Nat) (x : Int32) (y : Int32) (y2 : Int32) (u : MS) (hok : m_ok u) : CI l yX5_taken wsX5_taken ({ frames := 0, cells := 0, slots := 0, locals := 0 } : Room) G A (m_W (gI G) hM hTm hkd hsz hld hch hdk htk hme hte) m_ok [.ref hM, .int x, .int y, .int y2] u (f_X5_taken x y y2 u) := by
  refine Met.ofW (cc := cX5_taken) (maxL := 4) (ret := (some .int)) (by decide) rfl ?_
  intro p e s m args below meth c s₁ B hml hv
  obtain ⟨rfl, hE, hP, hD⟩ := hv
  have hl := lv_entry ([.ref hM, .int x, .int y, .int y2]) (n := 4) (Nat.le_of_ble_eq_true rfl)
  rw [lg_entry_eq]
  generalize (lg_sl ([.ref hM, .int x, .int y, .int y2]) ++ List.replicate (4 - (lg_sl ([.ref hM, .int x, .int y, .int y2])).length) Slot.unset).toArray = ls at hl ⊢
  exact c_X5_taken_0 l G A hM hTm hkd hsz hld hch hdk htk hme hte ⟨⟨B.exec, B.bytes, hml, findClass_of_methodNamed B.named, atoms_spec (ws := wsX5_taken) B.pre⟩, B.returns, B.notSynchronized⟩ hE x y y2 u hP hD hok va_S.rf hl rfl

-- FerryDecksModel.plainFee
def f_X5_plainFee_k3 (d : Int32) (q3 : MS) : Int32 × MS :=
  ((m_T q3 ((1 : Int32) : Int32).toNatClampNeg) + (d * (m_T q3 ((2 : Int32) : Int32).toNatClampNeg)), q3)
def f_X5_plainFee (d : Int32) (u : MS) : Int32 × MS :=
  (f_X5_plainFee_k3 d (f_X5_began (0 : Int32) (1 : Int32) u))
set_option maxHeartbeats 4000000 in
set_option maxRecDepth 100000 in
theorem c_X5_plainFee_0 {p : Program} {e : Env} {s : State} {m : MethodId} {args : Array Value} {below : List Frame} {meth : Method} {c : Code} (l : Launch) (G : gC) (A : Nat → Prop) (hM hTm hkd hsz hld hch hdk htk hme hte : Nat) (C0 : gX p s m args meth c cX5_plainFee 2 wsX5_plainFee RX5 (some .int)) (hE : gE G A s) (d : Int32) (u : MS) {H : Heap} {locs : List Loc} (hP : va_P (gD G) vwCl ((m_W (gI G) hM hTm hkd hsz hld hch hdk htk hme hte) u) H) (hD : va_D A ((m_W (gI G) hM hTm hkd hsz hld hch hdk htk hme hte) u)) (hok : m_ok u) (hS : va_S A s.heap H locs) {ls : Array Slot} (hl : lv_has ls 2 [(0, .ref hM), (1, .int d)]) {fv : Int32 × MS} (hfv : f_X5_plainFee d u = fv) : W p l e ({ frames := 1, cells := 0, slots := 0, locals := 22 } : Room) s m args below meth c H locs 0 0 (MQ below (gQi G A (m_W (gI G) hM hTm hkd hsz hld hch hdk htk hme hte) m_ok fv) args s 0 0 A) (F0 m 0 ls []) := by
  obtain ⟨⟨hx, hb, hml, hown, hts⟩, hr, hlk⟩ := id C0
  have hok0 := hok
  have k0 := hts (.fieldLink RX5 7 "FerryDecksModel" "terms" "[I") (by decide +kernel)
  have iX5 : ∀ w ∈ wsX50, w ∈ wsX5_plainFee := by decide +kernel
  refine lv_aload_n hx hb dX5_plainFee_0 rfl (lv_at hl 0 rfl) ?_
  refine lv_iconst (v := 0) hx hb dX5_plainFee_1 (by decide) ?_
  refine lv_iconst (v := 1) hx hb dX5_plainFee_2 (by decide) ?_
  refine gVv (u := u) (Wd := (m_W (gI G) hM hTm hkd hsz hld hch hdk htk hme hte)) (ok := m_ok) (As := [.int (0 : Int32), .int (1 : Int32)]) (rest := []) ⟨hx, hb, hml, hown, hts⟩ (c_X5_began l G A hM hTm hkd hsz hld hch hdk htk hme hte (0 : Int32) (1 : Int32) u hok) (cwV 2 hts gX5_plainFee_X5_began rfl rfl rfl (by decide +kernel) ⟨Nat.le_of_ble_eq_true rfl, Nat.le_of_ble_eq_true rfl⟩) hE hP hD hS (va_recv hE.1 hP (ci := 5) (q0 := 0) rfl rfl) rfl hl.1 rfl (Nat.le_of_ble_eq_true rfl) dX5_plainFee_3 ⟨Nat.zero_le _, Nat.zero_le _⟩ (fun q3 H locs e3 hP hD hok hS => ?_)
  refine lv_aload_n hx hb dX5_plainFee_6 rfl (lv_at hl 0 rfl) ?_
  refine va_get (D := gD G) (ci := 5) (v := .ref hTm) (C := RX5) (T := TX5) (N := 17) hx hb hts iX5 hown hE.1 hP 0 rfl rfl 0 (by decide) k0 (fun _ h9 => h9) rfl dX5_plainFee_7 ?_
  refine lv_iconst (v := 1) hx hb dX5_plainFee_10 (by decide) ?_
  refine va_iald hx hb hE.1 hP 1 0 rfl rfl (gIn (by decide) (by decide) (by decide)) dX5_plainFee_11 ?_
  refine lv_iload_n hx hb dX5_plainFee_12 rfl (lv_at hl 1 rfl) ?_
  refine lv_aload_n hx hb dX5_plainFee_13 rfl (lv_at hl 0 rfl) ?_
  refine va_get (D := gD G) (ci := 5) (v := .ref hTm) (C := RX5) (T := TX5) (N := 17) hx hb hts iX5 hown hE.1 hP 0 rfl rfl 0 (by decide) k0 (fun _ h9 => h9) rfl dX5_plainFee_14 ?_
  refine lv_iconst (v := 2) hx hb dX5_plainFee_17 (by decide) ?_
  refine va_iald hx hb hE.1 hP 1 0 rfl rfl (gIn (by decide) (by decide) (by decide)) dX5_plainFee_18 ?_
  refine lv_imul hx hb dX5_plainFee_19 ?_
  refine lv_iadd hx hb dX5_plainFee_20 ?_
  exact gRi (u := q3) hx hb hr hlk hP hD hok hS (by rw [← hfv, f_X5_plainFee, ← e3, f_X5_plainFee_k3]) dX5_plainFee_21
set_option maxHeartbeats 4000000 in
set_option maxRecDepth 100000 in
theorem c_X5_plainFee (l : Launch) (G : gC) (A : Nat → Prop) (hM hTm hkd hsz hld hch hdk htk hme hte : Nat) (d : Int32) (u : MS) (hok : m_ok u) : CI l yX5_plainFee wsX5_plainFee ({ frames := 1, cells := 0, slots := 0, locals := 22 } : Room) G A (m_W (gI G) hM hTm hkd hsz hld hch hdk htk hme hte) m_ok [.ref hM, .int d] u (f_X5_plainFee d u) := by
  refine Met.ofW (cc := cX5_plainFee) (maxL := 2) (ret := (some .int)) (by decide) rfl ?_
  intro p e s m args below meth c s₁ B hml hv
  obtain ⟨rfl, hE, hP, hD⟩ := hv
  have hl := lv_entry ([.ref hM, .int d]) (n := 2) (Nat.le_of_ble_eq_true rfl)
  rw [lg_entry_eq]
  generalize (lg_sl ([.ref hM, .int d]) ++ List.replicate (2 - (lg_sl ([.ref hM, .int d])).length) Slot.unset).toArray = ls at hl ⊢
  exact c_X5_plainFee_0 l G A hM hTm hkd hsz hld hch hdk htk hme hte ⟨⟨B.exec, B.bytes, hml, findClass_of_methodNamed B.named, atoms_spec (ws := wsX5_plainFee) B.pre⟩, B.returns, B.notSynchronized⟩ hE d u hP hD hok va_S.rf hl rfl

-- FerryDecksModel.carFee
def f_X5_carFee_k8 (q8 : Int32 × MS) : Int32 × MS :=
  (if 0 ≤ (q8.1 - (m_T q8.2 ((3 : Int32) : Int32).toNatClampNeg)) then (q8.1 - (m_T q8.2 ((3 : Int32) : Int32).toNatClampNeg), q8.2) else ((0 : Int32), q8.2))
def f_X5_carFee_k3 (d : Int32) (q3 : MS) : Int32 × MS :=
  (f_X5_carFee_k8 (f_X5_plainFee d q3))
def f_X5_carFee (d : Int32) (u : MS) : Int32 × MS :=
  (f_X5_carFee_k3 d (f_X5_began (1 : Int32) (1 : Int32) u))
set_option maxHeartbeats 4000000 in
set_option maxRecDepth 100000 in
theorem c_X5_carFee_0 {p : Program} {e : Env} {s : State} {m : MethodId} {args : Array Value} {below : List Frame} {meth : Method} {c : Code} (l : Launch) (G : gC) (A : Nat → Prop) (hM hTm hkd hsz hld hch hdk htk hme hte : Nat) (C0 : gX p s m args meth c cX5_carFee 3 wsX5_carFee RX5 (some .int)) (hE : gE G A s) (d : Int32) (u : MS) {H : Heap} {locs : List Loc} (hP : va_P (gD G) vwCl ((m_W (gI G) hM hTm hkd hsz hld hch hdk htk hme hte) u) H) (hD : va_D A ((m_W (gI G) hM hTm hkd hsz hld hch hdk htk hme hte) u)) (hok : m_ok u) (hS : va_S A s.heap H locs) {ls : Array Slot} (hl : lv_has ls 3 [(0, .ref hM), (1, .int d)]) {fv : Int32 × MS} (hfv : f_X5_carFee d u = fv) : W p l e ({ frames := 2, cells := 0, slots := 0, locals := 43 } : Room) s m args below meth c H locs 0 0 (MQ below (gQi G A (m_W (gI G) hM hTm hkd hsz hld hch hdk htk hme hte) m_ok fv) args s 0 0 A) (F0 m 0 ls []) := by
  obtain ⟨⟨hx, hb, hml, hown, hts⟩, hr, hlk⟩ := id C0
  have hok0 := hok
  have k0 := hts (.fieldLink RX5 7 "FerryDecksModel" "terms" "[I") (by decide +kernel)
  have iX5 : ∀ w ∈ wsX50, w ∈ wsX5_carFee := by decide +kernel
  refine lv_aload_n hx hb dX5_carFee_0 rfl (lv_at hl 0 rfl) ?_
  refine lv_iconst (v := 1) hx hb dX5_carFee_1 (by decide) ?_
  refine lv_iconst (v := 1) hx hb dX5_carFee_2 (by decide) ?_
  refine gVv (u := u) (Wd := (m_W (gI G) hM hTm hkd hsz hld hch hdk htk hme hte)) (ok := m_ok) (As := [.int (1 : Int32), .int (1 : Int32)]) (rest := []) ⟨hx, hb, hml, hown, hts⟩ (c_X5_began l G A hM hTm hkd hsz hld hch hdk htk hme hte (1 : Int32) (1 : Int32) u hok) (cwV 2 hts gX5_carFee_X5_began rfl rfl rfl (by decide +kernel) ⟨Nat.le_of_ble_eq_true rfl, Nat.le_of_ble_eq_true rfl⟩) hE hP hD hS (va_recv hE.1 hP (ci := 5) (q0 := 0) rfl rfl) rfl hl.1 rfl (Nat.le_of_ble_eq_true rfl) dX5_carFee_3 ⟨Nat.zero_le _, Nat.zero_le _⟩ (fun q3 H locs e3 hP hD hok hS => ?_)
  refine lv_aload_n hx hb dX5_carFee_6 rfl (lv_at hl 0 rfl) ?_
  refine lv_iload_n hx hb dX5_carFee_7 rfl (lv_at hl 1 rfl) ?_
  refine gVi (u := q3) (Wd := (m_W (gI G) hM hTm hkd hsz hld hch hdk htk hme hte)) (ok := m_ok) (As := [.int d]) (rest := []) ⟨hx, hb, hml, hown, hts⟩ (c_X5_plainFee l G A hM hTm hkd hsz hld hch hdk htk hme hte d q3 hok) (cwV 1 hts gX5_carFee_X5_plainFee rfl rfl rfl (by decide +kernel) ⟨Nat.le_of_ble_eq_true rfl, Nat.le_of_ble_eq_true rfl⟩) hE hP hD hS (va_recv hE.1 hP (ci := 5) (q0 := 0) rfl rfl) rfl hl.1 rfl (Nat.le_of_ble_eq_true rfl) dX5_carFee_8 ⟨Nat.zero_le _, Nat.zero_le _⟩ (fun q8 H locs e8 hP hD hok hS => ?_)
  refine lv_aload_n hx hb dX5_carFee_11 rfl (lv_at hl 0 rfl) ?_
  refine va_get (D := gD G) (ci := 5) (v := .ref hTm) (C := RX5) (T := TX5) (N := 17) hx hb hts iX5 hown hE.1 hP 0 rfl rfl 0 (by decide) k0 (fun _ h9 => h9) rfl dX5_carFee_12 ?_
  refine lv_iconst (v := 3) hx hb dX5_carFee_15 (by decide) ?_
  refine va_iald hx hb hE.1 hP 1 0 rfl rfl (gIn (by decide) (by decide) (by decide)) dX5_carFee_16 ?_
  refine lv_isub hx hb dX5_carFee_17 ?_
  refine lv_istore_n (lv' := [(2, .int (q8.1 - (m_T q8.2 ((3 : Int32) : Int32).toNatClampNeg))), (0, .ref hM), (1, .int d)]) hx hb dX5_carFee_18 rfl hl (by decide) rfl (fun ls hl => ?_)
  refine lv_iload_n hx hb dX5_carFee_19 rfl (lv_at hl 0 rfl) ?_
  refine lv_if_ge (tgt := 27) hx hb dX5_carFee_20 (by decide) (fun c20 => ?_) (fun c20 => ?_)
  · refine lv_iload_n hx hb dX5_carFee_27 rfl (lv_at hl 0 rfl) ?_
    exact gRi (u := q8.2) hx hb hr hlk hP hD hok hS (by rw [← hfv, f_X5_carFee, ← e3, f_X5_carFee_k3, ← e8, f_X5_carFee_k8, if_pos c20]) dX5_carFee_28
  · refine lv_iconst (v := 0) hx hb dX5_carFee_23 (by decide) ?_
    refine lv_goto (tgt := 28) hx hb dX5_carFee_24 (by decide) ?_
    exact gRi (u := q8.2) hx hb hr hlk hP hD hok hS (by rw [← hfv, f_X5_carFee, ← e3, f_X5_carFee_k3, ← e8, f_X5_carFee_k8, if_neg c20]) dX5_carFee_28
set_option maxHeartbeats 4000000 in
set_option maxRecDepth 100000 in
theorem c_X5_carFee (l : Launch) (G : gC) (A : Nat → Prop) (hM hTm hkd hsz hld hch hdk htk hme hte : Nat) (d : Int32) (u : MS) (hok : m_ok u) : CI l yX5_carFee wsX5_carFee ({ frames := 2, cells := 0, slots := 0, locals := 43 } : Room) G A (m_W (gI G) hM hTm hkd hsz hld hch hdk htk hme hte) m_ok [.ref hM, .int d] u (f_X5_carFee d u) := by
  refine Met.ofW (cc := cX5_carFee) (maxL := 3) (ret := (some .int)) (by decide) rfl ?_
  intro p e s m args below meth c s₁ B hml hv
  obtain ⟨rfl, hE, hP, hD⟩ := hv
  have hl := lv_entry ([.ref hM, .int d]) (n := 3) (Nat.le_of_ble_eq_true rfl)
  rw [lg_entry_eq]
  generalize (lg_sl ([.ref hM, .int d]) ++ List.replicate (3 - (lg_sl ([.ref hM, .int d])).length) Slot.unset).toArray = ls at hl ⊢
  exact c_X5_carFee_0 l G A hM hTm hkd hsz hld hch hdk htk hme hte ⟨⟨B.exec, B.bytes, hml, findClass_of_methodNamed B.named, atoms_spec (ws := wsX5_carFee) B.pre⟩, B.returns, B.notSynchronized⟩ hE d u hP hD hok va_S.rf hl rfl

-- FerryDecksModel.tankerFee
def f_X5_tankerFee_k10 (q10 : Int32 × MS) : Int32 × MS :=
  ((2 : Int32) * q10.1, q10.2)
def f_X5_tankerFee_k4 (d : Int32) (q4 : MS) : Int32 × MS :=
  (f_X5_tankerFee_k10 (f_X5_plainFee d q4))
def f_X5_tankerFee (d : Int32) (u : MS) : Int32 × MS :=
  (f_X5_tankerFee_k4 d (f_X5_began (7 : Int32) (1 : Int32) u))
set_option maxHeartbeats 4000000 in
set_option maxRecDepth 100000 in
theorem c_X5_tankerFee_0 {p : Program} {e : Env} {s : State} {m : MethodId} {args : Array Value} {below : List Frame} {meth : Method} {c : Code} (l : Launch) (G : gC) (A : Nat → Prop) (hM hTm hkd hsz hld hch hdk htk hme hte : Nat) (C0 : gX p s m args meth c cX5_tankerFee 2 wsX5_tankerFee RX5 (some .int)) (hE : gE G A s) (d : Int32) (u : MS) {H : Heap} {locs : List Loc} (hP : va_P (gD G) vwCl ((m_W (gI G) hM hTm hkd hsz hld hch hdk htk hme hte) u) H) (hD : va_D A ((m_W (gI G) hM hTm hkd hsz hld hch hdk htk hme hte) u)) (hok : m_ok u) (hS : va_S A s.heap H locs) {ls : Array Slot} (hl : lv_has ls 2 [(0, .ref hM), (1, .int d)]) {fv : Int32 × MS} (hfv : f_X5_tankerFee d u = fv) : W p l e ({ frames := 2, cells := 0, slots := 0, locals := 43 } : Room) s m args below meth c H locs 0 0 (MQ below (gQi G A (m_W (gI G) hM hTm hkd hsz hld hch hdk htk hme hte) m_ok fv) args s 0 0 A) (F0 m 0 ls []) := by
  obtain ⟨⟨hx, hb, hml, hown, hts⟩, hr, hlk⟩ := id C0
  have hok0 := hok
  refine lv_aload_n hx hb dX5_tankerFee_0 rfl (lv_at hl 0 rfl) ?_
  refine lv_bipush (v := 7) hx hb dX5_tankerFee_1 (by decide) ?_
  refine lv_iconst (v := 1) hx hb dX5_tankerFee_3 (by decide) ?_
  refine gVv (u := u) (Wd := (m_W (gI G) hM hTm hkd hsz hld hch hdk htk hme hte)) (ok := m_ok) (As := [.int (7 : Int32), .int (1 : Int32)]) (rest := []) ⟨hx, hb, hml, hown, hts⟩ (c_X5_began l G A hM hTm hkd hsz hld hch hdk htk hme hte (7 : Int32) (1 : Int32) u hok) (cwV 2 hts gX5_tankerFee_X5_began rfl rfl rfl (by decide +kernel) ⟨Nat.le_of_ble_eq_true rfl, Nat.le_of_ble_eq_true rfl⟩) hE hP hD hS (va_recv hE.1 hP (ci := 5) (q0 := 0) rfl rfl) rfl hl.1 rfl (Nat.le_of_ble_eq_true rfl) dX5_tankerFee_4 ⟨Nat.zero_le _, Nat.zero_le _⟩ (fun q4 H locs e4 hP hD hok hS => ?_)
  refine lv_iconst (v := 2) hx hb dX5_tankerFee_7 (by decide) ?_
  refine lv_aload_n hx hb dX5_tankerFee_8 rfl (lv_at hl 0 rfl) ?_
  refine lv_iload_n hx hb dX5_tankerFee_9 rfl (lv_at hl 1 rfl) ?_
  refine gVi (u := q4) (Wd := (m_W (gI G) hM hTm hkd hsz hld hch hdk htk hme hte)) (ok := m_ok) (As := [.int d]) (rest := [.int (2 : Int32)]) ⟨hx, hb, hml, hown, hts⟩ (c_X5_plainFee l G A hM hTm hkd hsz hld hch hdk htk hme hte d q4 hok) (cwV 1 hts gX5_tankerFee_X5_plainFee rfl rfl rfl (by decide +kernel) ⟨Nat.le_of_ble_eq_true rfl, Nat.le_of_ble_eq_true rfl⟩) hE hP hD hS (va_recv hE.1 hP (ci := 5) (q0 := 0) rfl rfl) rfl hl.1 rfl (Nat.le_of_ble_eq_true rfl) dX5_tankerFee_10 ⟨Nat.zero_le _, Nat.zero_le _⟩ (fun q10 H locs e10 hP hD hok hS => ?_)
  refine lv_imul hx hb dX5_tankerFee_13 ?_
  exact gRi (u := q10.2) hx hb hr hlk hP hD hok hS (by rw [← hfv, f_X5_tankerFee, ← e4, f_X5_tankerFee_k4, ← e10, f_X5_tankerFee_k10]) dX5_tankerFee_14
set_option maxHeartbeats 4000000 in
set_option maxRecDepth 100000 in
theorem c_X5_tankerFee (l : Launch) (G : gC) (A : Nat → Prop) (hM hTm hkd hsz hld hch hdk htk hme hte : Nat) (d : Int32) (u : MS) (hok : m_ok u) : CI l yX5_tankerFee wsX5_tankerFee ({ frames := 2, cells := 0, slots := 0, locals := 43 } : Room) G A (m_W (gI G) hM hTm hkd hsz hld hch hdk htk hme hte) m_ok [.ref hM, .int d] u (f_X5_tankerFee d u) := by
  refine Met.ofW (cc := cX5_tankerFee) (maxL := 2) (ret := (some .int)) (by decide) rfl ?_
  intro p e s m args below meth c s₁ B hml hv
  obtain ⟨rfl, hE, hP, hD⟩ := hv
  have hl := lv_entry ([.ref hM, .int d]) (n := 2) (Nat.le_of_ble_eq_true rfl)
  rw [lg_entry_eq]
  generalize (lg_sl ([.ref hM, .int d]) ++ List.replicate (2 - (lg_sl ([.ref hM, .int d])).length) Slot.unset).toArray = ls at hl ⊢
  exact c_X5_tankerFee_0 l G A hM hTm hkd hsz hld hch hdk htk hme hte ⟨⟨B.exec, B.bytes, hml, findClass_of_methodNamed B.named, atoms_spec (ws := wsX5_tankerFee) B.pre⟩, B.returns, B.notSynchronized⟩ hE d u hP hD hok va_S.rf hl rfl

-- FerryDecksModel.plainRisk
def f_X5_plainRisk_k14 (q14 : Int32 × MS) : Int32 × MS :=
  (q14.1, q14.2)
def f_X5_plainRisk_k3 (w : Int32) (q3 : MS) : Int32 × MS :=
  (if w ≤ (9 : Int32) then (w, q3) else (f_X5_plainRisk_k14 (f_X5_fails (1 : Int32) q3)))
def f_X5_plainRisk (w : Int32) (u : MS) : Int32 × MS :=
  (f_X5_plainRisk_k3 w (f_X5_began (0 : Int32) (2 : Int32) u))
set_option maxHeartbeats 4000000 in
set_option maxRecDepth 100000 in
theorem c_X5_plainRisk_0 {p : Program} {e : Env} {s : State} {m : MethodId} {args : Array Value} {below : List Frame} {meth : Method} {c : Code} (l : Launch) (G : gC) (A : Nat → Prop) (hM hTm hkd hsz hld hch hdk htk hme hte : Nat) (C0 : gX p s m args meth c cX5_plainRisk 2 wsX5_plainRisk RX5 (some .int)) (hE : gE G A s) (w : Int32) (u : MS) {H : Heap} {locs : List Loc} (hP : va_P (gD G) vwCl ((m_W (gI G) hM hTm hkd hsz hld hch hdk htk hme hte) u) H) (hD : va_D A ((m_W (gI G) hM hTm hkd hsz hld hch hdk htk hme hte) u)) (hok : m_ok u) (hS : va_S A s.heap H locs) {ls : Array Slot} (hl : lv_has ls 2 [(0, .ref hM), (1, .int w)]) {fv : Int32 × MS} (hfv : f_X5_plainRisk w u = fv) : W p l e ({ frames := 1, cells := 0, slots := 0, locals := 22 } : Room) s m args below meth c H locs 0 0 (MQ below (gQi G A (m_W (gI G) hM hTm hkd hsz hld hch hdk htk hme hte) m_ok fv) args s 0 0 A) (F0 m 0 ls []) := by
  obtain ⟨⟨hx, hb, hml, hown, hts⟩, hr, hlk⟩ := id C0
  have hok0 := hok
  refine lv_aload_n hx hb dX5_plainRisk_0 rfl (lv_at hl 0 rfl) ?_
  refine lv_iconst (v := 0) hx hb dX5_plainRisk_1 (by decide) ?_
  refine lv_iconst (v := 2) hx hb dX5_plainRisk_2 (by decide) ?_
  refine gVv (u := u) (Wd := (m_W (gI G) hM hTm hkd hsz hld hch hdk htk hme hte)) (ok := m_ok) (As := [.int (0 : Int32), .int (2 : Int32)]) (rest := []) ⟨hx, hb, hml, hown, hts⟩ (c_X5_began l G A hM hTm hkd hsz hld hch hdk htk hme hte (0 : Int32) (2 : Int32) u hok) (cwV 2 hts gX5_plainRisk_X5_began rfl rfl rfl (by decide +kernel) ⟨Nat.le_of_ble_eq_true rfl, Nat.le_of_ble_eq_true rfl⟩) hE hP hD hS (va_recv hE.1 hP (ci := 5) (q0 := 0) rfl rfl) rfl hl.1 rfl (Nat.le_of_ble_eq_true rfl) dX5_plainRisk_3 ⟨Nat.zero_le _, Nat.zero_le _⟩ (fun q3 H locs e3 hP hD hok hS => ?_)
  refine lv_iload_n hx hb dX5_plainRisk_6 rfl (lv_at hl 1 rfl) ?_
  refine lv_bipush (v := 9) hx hb dX5_plainRisk_7 (by decide) ?_
  refine lv_icmp_le (tgt := 20) hx hb dX5_plainRisk_9 (by decide) (fun c9 => ?_) (fun c9 => ?_)
  · refine lv_iload_n hx hb dX5_plainRisk_20 rfl (lv_at hl 1 rfl) ?_
    exact gRi (u := q3) hx hb hr hlk hP hD hok hS (by rw [← hfv, f_X5_plainRisk, ← e3, f_X5_plainRisk_k3, if_pos c9]) dX5_plainRisk_21
  · refine lv_aload_n hx hb dX5_plainRisk_12 rfl (lv_at hl 0 rfl) ?_
    refine lv_iconst (v := 1) hx hb dX5_plainRisk_13 (by decide) ?_
    refine gVi (u := q3) (Wd := (m_W (gI G) hM hTm hkd hsz hld hch hdk htk hme hte)) (ok := m_ok) (As := [.int (1 : Int32)]) (rest := []) ⟨hx, hb, hml, hown, hts⟩ (c_X5_fails l G A hM hTm hkd hsz hld hch hdk htk hme hte (1 : Int32) q3 hok) (cwV 1 hts gX5_plainRisk_X5_fails rfl rfl rfl (by decide +kernel) ⟨Nat.le_of_ble_eq_true rfl, Nat.le_of_ble_eq_true rfl⟩) hE hP hD hS (va_recv hE.1 hP (ci := 5) (q0 := 0) rfl rfl) rfl hl.1 rfl (Nat.le_of_ble_eq_true rfl) dX5_plainRisk_14 ⟨Nat.zero_le _, Nat.zero_le _⟩ (fun q14 H locs e14 hP hD hok hS => ?_)
    refine lv_goto (tgt := 21) hx hb dX5_plainRisk_17 (by decide) ?_
    exact gRi (u := q14.2) hx hb hr hlk hP hD hok hS (by rw [← hfv, f_X5_plainRisk, ← e3, f_X5_plainRisk_k3, if_neg c9, ← e14, f_X5_plainRisk_k14]) dX5_plainRisk_21
set_option maxHeartbeats 4000000 in
set_option maxRecDepth 100000 in
theorem c_X5_plainRisk (l : Launch) (G : gC) (A : Nat → Prop) (hM hTm hkd hsz hld hch hdk htk hme hte : Nat) (w : Int32) (u : MS) (hok : m_ok u) : CI l yX5_plainRisk wsX5_plainRisk ({ frames := 1, cells := 0, slots := 0, locals := 22 } : Room) G A (m_W (gI G) hM hTm hkd hsz hld hch hdk htk hme hte) m_ok [.ref hM, .int w] u (f_X5_plainRisk w u) := by
  refine Met.ofW (cc := cX5_plainRisk) (maxL := 2) (ret := (some .int)) (by decide) rfl ?_
  intro p e s m args below meth c s₁ B hml hv
  obtain ⟨rfl, hE, hP, hD⟩ := hv
  have hl := lv_entry ([.ref hM, .int w]) (n := 2) (Nat.le_of_ble_eq_true rfl)
  rw [lg_entry_eq]
  generalize (lg_sl ([.ref hM, .int w]) ++ List.replicate (2 - (lg_sl ([.ref hM, .int w])).length) Slot.unset).toArray = ls at hl ⊢
  exact c_X5_plainRisk_0 l G A hM hTm hkd hsz hld hch hdk htk hme hte ⟨⟨B.exec, B.bytes, hml, findClass_of_methodNamed B.named, atoms_spec (ws := wsX5_plainRisk) B.pre⟩, B.returns, B.notSynchronized⟩ hE w u hP hD hok va_S.rf hl rfl
