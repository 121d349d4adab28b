/-! ===== the bodies' world: Bodies, terms, Trace, entries, one Vehicle ===== -/
abbrev BS : Type := (Nat → Int32) × Int32 × Int32 × (Nat → Int32) × Int32 × Int32 × Int32 × Int32 × Int32 × Int32
abbrev b_T (u : BS) : Nat → Int32 := u.1
abbrev b_fl (u : BS) : Int32 := u.2.1
abbrev b_z (u : BS) : Int32 := u.2.2.1
abbrev b_te (u : BS) : Nat → Int32 := u.2.2.2.1
abbrev b_kd (u : BS) : Int32 := u.2.2.2.2.1
abbrev b_sz (u : BS) : Int32 := u.2.2.2.2.2.1
abbrev b_ld (u : BS) : Int32 := u.2.2.2.2.2.2.1
abbrev b_ch (u : BS) : Int32 := u.2.2.2.2.2.2.2.1
abbrev b_dk (u : BS) : Int32 := u.2.2.2.2.2.2.2.2.1
abbrev b_mt (u : BS) : Int32 := u.2.2.2.2.2.2.2.2.2
def b_sFl (u : BS) (x : Int32) : BS := (u.1, x, u.2.2)
def b_sZ (u : BS) (x : Int32) : BS := (u.1, u.2.1, x, u.2.2.2)
def b_sE (u : BS) (f : Nat → Int32) : BS := (u.1, u.2.1, u.2.2.1, f, u.2.2.2.2)
def b_sCh (u : BS) (x : Int32) : BS := (u.1, u.2.1, u.2.2.1, u.2.2.2.1, u.2.2.2.2.1, u.2.2.2.2.2.1, u.2.2.2.2.2.2.1, x, u.2.2.2.2.2.2.2.2)
abbrev b_W (cI : ClassId) (hB hT hW hE hV : Nat) (u : BS) : va_W := [(hB, .inr (0, [.ref hT, .ref hW, .int (b_fl u)])), (hT, .inl (cI, 8, .inl (b_T u))), (hW, .inr (2, [.ref hE, .int (b_z u)])), (hE, .inl (cI, 400, .inl (b_te u))), (hV, .inr (3, [.int (b_kd u), .int (b_sz u), .int (b_ld u), .int (b_ch u), .int (b_dk u), .int (b_mt u)]))]
abbrev b_ok (u : BS) : Prop := 0 ≤ b_z u ∧ b_z u ≤ 400
theorem okInc {z : Int32} (h : 0 ≤ z ∧ z ≤ 400) (c : ¬ 400 ≤ z) : 0 ≤ z + 1 ∧ z + 1 ≤ 400 := by
  obtain ⟨j, hj, rfl⟩ := nI_of (x := z) (by rw [Int32.not_lt]; exact h.1)
  have h2 : ¬ nI 400 ≤ nI j := c
  rw [nI_leI (by omega) hj] at h2
  rw [nI_1]
  exact ⟨nI_pos' (by omega), nI_le (a := j + 1) (b := 400) (by omega) (by omega)⟩
theorem okLt {z : Int32} (c : ¬ 400 ≤ z) : z < Int32.ofNat 400 := Int32.not_le.mp c

-- FerryDecks$Trace.write
def f_X2_write (x : Int32) (u : BS) : BS :=
  (if (400 : Int32) ≤ (b_z u) then u else b_sZ (b_sE u (upd (b_te u) ((b_z u) : Int32).toNatClampNeg x)) ((b_z (b_sE u (upd (b_te u) ((b_z u) : Int32).toNatClampNeg x))) + (1 : Int32)))
set_option maxHeartbeats 4000000 in
set_option maxRecDepth 100000 in
theorem c_X2_write_0 {p : Program} {e : Env} {s : State} {m : MethodId} {args : Array Value} {below : List Frame} {meth : Method} {c : Code} (l : Launch) (G : gC) (A : Nat → Prop) (hB hT hW hEn hV : Nat) (C0 : gX p s m args meth c cX2_write 2 wsX2_write RX2 none) (hE : gE G A s) (x : Int32) (u : BS) {H : Heap} {locs : List Loc} (hP : va_P (gD G) vwCl ((b_W (gI G) hB hT hW hEn hV) u) H) (hD : va_D A ((b_W (gI G) hB hT hW hEn hV) u)) (hok : b_ok u) (hS : va_S A s.heap H locs) {ls : Array Slot} (hl : lv_has ls 2 [(0, .ref hW), (1, .int x)]) {fv : BS} (hfv : f_X2_write x u = fv) : W p l e ({ frames := 0, cells := 0, slots := 0, locals := 0 } : Room) s m args below meth c H locs 0 0 (MQ below (gQv G A (b_W (gI G) hB hT hW hEn hV) b_ok fv) args s 0 0 A) (F0 m 0 ls []) := by
  obtain ⟨⟨hx, hb, hml, hown, hts⟩, hr, hlk⟩ := id C0
  have hok0 := hok
  have k0 := hts (.fieldLink RX2 15 "FerryDecks$Trace" "size" "I") (by decide +kernel)
  have k1 := hts (.fieldLink RX2 9 "FerryDecks$Trace" "entries" "[I") (by decide +kernel)
  have iX2 : ∀ w ∈ wsX20, w ∈ wsX2_write := by decide +kernel
  refine lv_aload_n hx hb dX2_write_0 rfl (lv_at hl 0 rfl) ?_
  refine va_get (D := gD G) (ci := 2) (v := .int (b_z u)) (C := RX2) (T := TX2) (N := 2) hx hb hts iX2 hown hE.1 hP 2 rfl rfl 1 (by decide) k0 (fun _ h9 => h9) rfl dX2_write_1 ?_
  refine lv_sipush (v := 400) hx hb dX2_write_4 (by decide) ?_
  refine lv_icmp_ge (tgt := 30) hx hb dX2_write_7 (by decide) (fun c7 => ?_) (fun c7 => ?_)
  · exact gRv hx hb hr hlk hP hD hok hS (by rw [← hfv, f_X2_write, if_pos c7]) dX2_write_30
  · refine lv_aload_n hx hb dX2_write_10 rfl (lv_at hl 0 rfl) ?_
    refine va_get (D := gD G) (ci := 2) (v := .ref hEn) (C := RX2) (T := TX2) (N := 2) hx hb hts iX2 hown hE.1 hP 2 rfl rfl 0 (by decide) k1 (fun _ h9 => h9) rfl dX2_write_11 ?_
    refine lv_aload_n hx hb dX2_write_14 rfl (lv_at hl 0 rfl) ?_
    refine va_get (D := gD G) (ci := 2) (v := .int (b_z u)) (C := RX2) (T := TX2) (N := 2) hx hb hts iX2 hown hE.1 hP 2 rfl rfl 1 (by decide) k0 (fun _ h9 => h9) rfl dX2_write_15 ?_
    refine lv_iload_n hx hb dX2_write_18 rfl (lv_at hl 1 rfl) ?_
    refine va_iast hx hb hE.1 hP hD hS 3 0 rfl rfl (gIn (by decide) hok.1 (okLt c7)) dX2_write_19 (fun H locs hP hD hS => ?_)
    have hP : va_P (gD G) vwCl ((b_W (gI G) hB hT hW hEn hV) (b_sE u (upd (b_te u) ((b_z u) : Int32).toNatClampNeg x))) H := hP
    have hD : va_D A ((b_W (gI G) hB hT hW hEn hV) (b_sE u (upd (b_te u) ((b_z u) : Int32).toNatClampNeg x))) := hD
    have hok : b_ok (b_sE u (upd (b_te u) ((b_z u) : Int32).toNatClampNeg x)) := hok
    refine lv_aload_n hx hb dX2_write_20 rfl (lv_at hl 0 rfl) ?_
    refine lv_dup hx hb dX2_write_21 rfl ?_
    refine va_get (D := gD G) (ci := 2) (v := .int (b_z (b_sE u (upd (b_te u) ((b_z u) : Int32).toNatClampNeg x)))) (C := RX2) (T := TX2) (N := 2) hx hb hts iX2 hown hE.1 hP 2 rfl rfl 1 (by decide) k0 (fun _ h9 => h9) rfl dX2_write_22 ?_
    refine lv_iconst (v := 1) hx hb dX2_write_25 (by decide) ?_
    refine lv_iadd hx hb dX2_write_26 ?_
    refine va_put (D := gD G) (ci := 2) (v := .int ((b_z (b_sE u (upd (b_te u) ((b_z u) : Int32).toNatClampNeg x))) + (1 : Int32))) (ty := .int) (C := RX2) (T := TX2) (N := 2) hx hb hts iX2 tyX2 tyX2_ok nmX2 hown hE.1 hP hD hS 2 rfl rfl 1 (by decide) k0 (fun _ h9 => h9) rfl (by decide +kernel) rfl rfl (Nat.le_of_ble_eq_true rfl) dX2_write_27 (fun H locs hP hD hS => ?_)
    have hP : va_P (gD G) vwCl ((b_W (gI G) hB hT hW hEn hV) (b_sZ (b_sE u (upd (b_te u) ((b_z u) : Int32).toNatClampNeg x)) ((b_z (b_sE u (upd (b_te u) ((b_z u) : Int32).toNatClampNeg x))) + (1 : Int32)))) H := hP
    have hD : va_D A ((b_W (gI G) hB hT hW hEn hV) (b_sZ (b_sE u (upd (b_te u) ((b_z u) : Int32).toNatClampNeg x)) ((b_z (b_sE u (upd (b_te u) ((b_z u) : Int32).toNatClampNeg x))) + (1 : Int32)))) := hD
    have hok : b_ok (b_sZ (b_sE u (upd (b_te u) ((b_z u) : Int32).toNatClampNeg x)) ((b_z (b_sE u (upd (b_te u) ((b_z u) : Int32).toNatClampNeg x))) + (1 : Int32))) := okInc hok c7
    exact gRv hx hb hr hlk hP hD hok hS (by rw [← hfv, f_X2_write, if_neg c7]) dX2_write_30
set_option maxHeartbeats 4000000 in
set_option maxRecDepth 100000 in
theorem c_X2_write (l : Launch) (G : gC) (A : Nat → Prop) (hB hT hW hEn hV : Nat) (x : Int32) (u : BS) (hok : b_ok u) : CV l yX2_write wsX2_write ({ frames := 0, cells := 0, slots := 0, locals := 0 } : Room) G A (b_W (gI G) hB hT hW hEn hV) b_ok [.ref hW, .int x] u (f_X2_write x u) := by
  refine Met.ofW (cc := cX2_write) (maxL := 2) (ret := none) (by decide) rfl ?_
  intro p e s m args below meth c s₁ B hml hv
  obtain ⟨rfl, hE, hP, hD⟩ := hv
  have hl := lv_entry ([.ref hW, .int x]) (n := 2) (Nat.le_of_ble_eq_true rfl)
  rw [lg_entry_eq]
  generalize (lg_sl ([.ref hW, .int x]) ++ List.replicate (2 - (lg_sl ([.ref hW, .int x])).length) Slot.unset).toArray = ls at hl ⊢
  exact c_X2_write_0 l G A hB hT hW hEn hV ⟨⟨B.exec, B.bytes, hml, findClass_of_methodNamed B.named, atoms_spec (ws := wsX2_write) B.pre⟩, B.returns, B.notSynchronized⟩ hE x u hP hD hok va_S.rf hl rfl

-- FerryDecks$Bodies.failed
def f_X0_failed (u : BS) : Int32 × BS :=
  (if (b_fl u) = 0 then ((0 : Int32), u) else ((1 : Int32), u))
set_option maxHeartbeats 4000000 in
set_option maxRecDepth 100000 in
theorem c_X0_failed_0 {p : Program} {e : Env} {s : State} {m : MethodId} {args : Array Value} {below : List Frame} {meth : Method} {c : Code} (l : Launch) (G : gC) (A : Nat → Prop) (hB hT hW hEn hV : Nat) (C0 : gX p s m args meth c cX0_failed 1 wsX0_failed RX0 (some .boolean)) (hE : gE G A s) (u : BS) {H : Heap} {locs : List Loc} (hP : va_P (gD G) vwCl ((b_W (gI G) hB hT hW hEn hV) u) H) (hD : va_D A ((b_W (gI G) hB hT hW hEn hV) u)) (hok : b_ok u) (hS : va_S A s.heap H locs) {ls : Array Slot} (hl : lv_has ls 1 [(0, .ref hB)]) {fv : Int32 × BS} (hfv : f_X0_failed u = fv) : W p l e ({ frames := 0, cells := 0, slots := 0, locals := 0 } : Room) s m args below meth c H locs 0 0 (MQ below (gQi G A (b_W (gI G) hB hT hW hEn hV) b_ok fv) args s 0 0 A) (F0 m 0 ls []) := by
  obtain ⟨⟨hx, hb, hml, hown, hts⟩, hr, hlk⟩ := id C0
  have hok0 := hok
  have k0 := hts (.fieldLink RX0 26 "FerryDecks$Bodies" "failure" "I") (by decide +kernel)
  have iX0 : ∀ w ∈ wsX00, w ∈ wsX0_failed := by decide +kernel
  refine lv_aload_n hx hb dX0_failed_0 rfl (lv_at hl 0 rfl) ?_
  refine va_get (D := gD G) (ci := 0) (v := .int (b_fl u)) (C := RX0) (T := TX0) (N := 3) hx hb hts iX0 hown hE.1 hP 0 rfl rfl 2 (by decide) k0 (fun _ h9 => h9) rfl dX0_failed_1 ?_
  refine lv_if_eq (tgt := 11) hx hb dX0_failed_4 (by decide) (fun c4 => ?_) (fun c4 => ?_)
  · refine lv_iconst (v := 0) hx hb dX0_failed_11 (by decide) ?_
    exact gRz (u := u) hx hb hr hlk (by decide) hP hD hok hS (by rw [← hfv, f_X0_failed, if_pos c4]) dX0_failed_12
  · refine lv_iconst (v := 1) hx hb dX0_failed_7 (by decide) ?_
    refine lv_goto (tgt := 12) hx hb dX0_failed_8 (by decide) ?_
    exact gRz (u := u) hx hb hr hlk (by decide) hP hD hok hS (by rw [← hfv, f_X0_failed, if_neg c4]) dX0_failed_12
set_option maxHeartbeats 4000000 in
set_option maxRecDepth 100000 in
theorem c_X0_failed (l : Launch) (G : gC) (A : Nat → Prop) (hB hT hW hEn hV : Nat) (u : BS) (hok : b_ok u) : CI l yX0_failed wsX0_failed ({ frames := 0, cells := 0, slots := 0, locals := 0 } : Room) G A (b_W (gI G) hB hT hW hEn hV) b_ok [.ref hB] u (f_X0_failed u) := by
  refine Met.ofW (cc := cX0_failed) (maxL := 1) (ret := (some .boolean)) (by decide) rfl ?_
  intro p e s m args below meth c s₁ B hml hv
  obtain ⟨rfl, hE, hP, hD⟩ := hv
  have hl := lv_entry ([.ref hB]) (n := 1) (Nat.le_of_ble_eq_true rfl)
  rw [lg_entry_eq]
  generalize (lg_sl ([.ref hB]) ++ List.replicate (1 - (lg_sl ([.ref hB])).length) Slot.unset).toArray = ls at hl ⊢
  exact c_X0_failed_0 l G A hB hT hW hEn hV ⟨⟨B.exec, B.bytes, hml, findClass_of_methodNamed B.named, atoms_spec (ws := wsX0_failed) B.pre⟩, B.returns, B.notSynchronized⟩ hE u hP hD hok va_S.rf hl rfl

-- FerryDecks$Bodies.fail
def f_X0_fail (x : Int32) (u : BS) : Int32 × BS :=
  ((0 : Int32), b_sFl u x)
set_option maxHeartbeats 4000000 in
set_option maxRecDepth 100000 in
theorem c_X0_fail_0 {p : Program} {e : Env} {s : State} {m : MethodId} {args : Array Value} {below : List Frame} {meth : Method} {c : Code} (l : Launch) (G : gC) (A : Nat → Prop) (hB hT hW hEn hV : Nat) (C0 : gX p s m args meth c cX0_fail 2 wsX0_fail RX0 (some .int)) (hE : gE G A s) (x : Int32) (u : BS) {H : Heap} {locs : List Loc} (hP : va_P (gD G) vwCl ((b_W (gI G) hB hT hW hEn hV) u) H) (hD : va_D A ((b_W (gI G) hB hT hW hEn hV) u)) (hok : b_ok u) (hS : va_S A s.heap H locs) {ls : Array Slot} (hl : lv_has ls 2 [(0, .ref hB), (1, .int x)]) {fv : Int32 × BS} (hfv : f_X0_fail x u = fv) : W p l e ({ frames := 0, cells := 0, slots := 0, locals := 0 } : Room) s m args below meth c H locs 0 0 (MQ below (gQi G A (b_W (gI G) hB hT hW hEn hV) b_ok fv) args s 0 0 A) (F0 m 0 ls []) := by
  obtain ⟨⟨hx, hb, hml, hown, hts⟩, hr, hlk⟩ := id C0
  have hok0 := hok
  have k0 := hts (.fieldLink RX0 26 "FerryDecks$Bodies" "failure" "I") (by decide +kernel)
  have iX0 : ∀ w ∈ wsX00, w ∈ wsX0_fail := by decide +kernel
  refine lv_aload_n hx hb dX0_fail_0 rfl (lv_at hl 0 rfl) ?_
  refine lv_iload_n hx hb dX0_fail_1 rfl (lv_at hl 1 rfl) ?_
  refine va_put (D := gD G) (ci := 0) (v := .int x) (ty := .int) (C := RX0) (T := TX0) (N := 3) hx hb hts iX0 tyX0 tyX0_ok nmX0 hown hE.1 hP hD hS 0 rfl rfl 2 (by decide) k0 (fun _ h9 => h9) rfl (by decide +kernel) rfl rfl (Nat.le_of_ble_eq_true rfl) dX0_fail_2 (fun H locs hP hD hS => ?_)
  have hP : va_P (gD G) vwCl ((b_W (gI G) hB hT hW hEn hV) (b_sFl u x)) H := hP
  have hD : va_D A ((b_W (gI G) hB hT hW hEn hV) (b_sFl u x)) := hD
  have hok : b_ok (b_sFl u x) := hok
  refine lv_iconst (v := 0) hx hb dX0_fail_5 (by decide) ?_
  exact gRi (u := b_sFl u x) hx hb hr hlk hP hD hok hS (by rw [← hfv, f_X0_fail]) dX0_fail_6
set_option maxHeartbeats 4000000 in
set_option maxRecDepth 100000 in
theorem c_X0_fail (l : Launch) (G : gC) (A : Nat → Prop) (hB hT hW hEn hV : Nat) (x : Int32) (u : BS) (hok : b_ok u) : CI l yX0_fail wsX0_fail ({ frames := 0, cells := 0, slots := 0, locals := 0 } : Room) G A (b_W (gI G) hB hT hW hEn hV) b_ok [.ref hB, .int x] u (f_X0_fail x u) := by
  refine Met.ofW (cc := cX0_fail) (maxL := 2) (ret := (some .int)) (by decide) rfl ?_
  intro p e s m args below meth c s₁ B hml hv
  obtain ⟨rfl, hE, hP, hD⟩ := hv
  have hl := lv_entry ([.ref hB, .int x]) (n := 2) (Nat.le_of_ble_eq_true rfl)
  rw [lg_entry_eq]
  generalize (lg_sl ([.ref hB, .int x]) ++ List.replicate (2 - (lg_sl ([.ref hB, .int x])).length) Slot.unset).toArray = ls at hl ⊢
  exact c_X0_fail_0 l G A hB hT hW hEn hV ⟨⟨B.exec, B.bytes, hml, findClass_of_methodNamed B.named, atoms_spec (ws := wsX0_fail) B.pre⟩, B.returns, B.notSynchronized⟩ hE x u hP hD hok va_S.rf hl rfl

-- FerryDecks$Bodies.takes
def f_X0_takes (x : Int32) (u : BS) : Int32 × BS :=
  (if (b_fl u) = x then ((1 : Int32), b_sFl u (0 : Int32)) else ((0 : Int32), u))
set_option maxHeartbeats 4000000 in
set_option maxRecDepth 100000 in
theorem c_X0_takes_0 {p : Program} {e : Env} {s : State} {m : MethodId} {args : Array Value} {below : List Frame} {meth : Method} {c : Code} (l : Launch) (G : gC) (A : Nat → Prop) (hB hT hW hEn hV : Nat) (C0 : gX p s m args meth c cX0_takes 2 wsX0_takes RX0 (some .boolean)) (hE : gE G A s) (x : Int32) (u : BS) {H : Heap} {locs : List Loc} (hP : va_P (gD G) vwCl ((b_W (gI G) hB hT hW hEn hV) u) H) (hD : va_D A ((b_W (gI G) hB hT hW hEn hV) u)) (hok : b_ok u) (hS : va_S A s.heap H locs) {ls : Array Slot} (hl : lv_has ls 2 [(0, .ref hB), (1, .int x)]) {fv : Int32 × BS} (hfv : f_X0_takes x u = fv) : W p l e ({ frames := 0, cells := 0, slots := 0, locals := 0 } : Room) s m args below meth c H locs 0 0 (MQ below (gQi G A (b_W (gI G) hB hT hW hEn hV) b_ok fv) args s 0 0 A) (F0 m 0 ls []) := by
  obtain ⟨⟨hx, hb, hml, hown, hts⟩, hr, hlk⟩ := id C0
  have hok0 := hok
  have k0 := hts (.fieldLink RX0 26 "FerryDecks$Bodies" "failure" "I") (by decide +kernel)
  have iX0 : ∀ w ∈ wsX00, w ∈ wsX0_takes := by decide +kernel
  refine lv_aload_n hx hb dX0_takes_0 rfl (lv_at hl 0 rfl) ?_
  refine va_get (D := gD G) (ci := 0) (v := .int (b_fl u)) (C := RX0) (T := TX0) (N := 3) hx hb hts iX0 hown hE.1 hP 0 rfl rfl 2 (by decide) k0 (fun _ h9 => h9) rfl dX0_takes_1 ?_
  refine lv_iload_n hx hb dX0_takes_4 rfl (lv_at hl 1 rfl) ?_
  refine lv_icmp_eq (tgt := 10) hx hb dX0_takes_5 (by decide) (fun c5 => ?_) (fun c5 => ?_)
  · refine lv_aload_n hx hb dX0_takes_10 rfl (lv_at hl 0 rfl) ?_
    refine lv_iconst (v := 0) hx hb dX0_takes_11 (by decide) ?_
    refine va_put (D := gD G) (ci := 0) (v := .int (0 : Int32)) (ty := .int) (C := RX0) (T := TX0) (N := 3) hx hb hts iX0 tyX0 tyX0_ok nmX0 hown hE.1 hP hD hS 0 rfl rfl 2 (by decide) k0 (fun _ h9 => h9) rfl (by decide +kernel) rfl rfl (Nat.le_of_ble_eq_true rfl) dX0_takes_12 (fun H locs hP hD hS => ?_)
    have hP : va_P (gD G) vwCl ((b_W (gI G) hB hT hW hEn hV) (b_sFl u (0 : Int32))) H := hP
    have hD : va_D A ((b_W (gI G) hB hT hW hEn hV) (b_sFl u (0 : Int32))) := hD
    have hok : b_ok (b_sFl u (0 : Int32)) := hok
    refine lv_iconst (v := 1) hx hb dX0_takes_15 (by decide) ?_
    exact gRz (u := b_sFl u (0 : Int32)) hx hb hr hlk (by decide) hP hD hok hS (by rw [← hfv, f_X0_takes, if_pos c5]) dX0_takes_16
  · refine lv_iconst (v := 0) hx hb dX0_takes_8 (by decide) ?_
    exact gRz (u := u) hx hb hr hlk (by decide) hP hD hok hS (by rw [← hfv, f_X0_takes, if_neg c5]) dX0_takes_9
set_option maxHeartbeats 4000000 in
set_option maxRecDepth 100000 in
theorem c_X0_takes (l : Launch) (G : gC) (A : Nat → Prop) (hB hT hW hEn hV : Nat) (x : Int32) (u : BS) (hok : b_ok u) : CI l yX0_takes wsX0_takes ({ frames := 0, cells := 0, slots := 0, locals := 0 } : Room) G A (b_W (gI G) hB hT hW hEn hV) b_ok [.ref hB, .int x] u (f_X0_takes x u) := by
  refine Met.ofW (cc := cX0_takes) (maxL := 2) (ret := (some .boolean)) (by decide) rfl ?_
  intro p e s m args below meth c s₁ B hml hv
  obtain ⟨rfl, hE, hP, hD⟩ := hv
  have hl := lv_entry ([.ref hB, .int x]) (n := 2) (Nat.le_of_ble_eq_true rfl)
  rw [lg_entry_eq]
  generalize (lg_sl ([.ref hB, .int x]) ++ List.replicate (2 - (lg_sl ([.ref hB, .int x])).length) Slot.unset).toArray = ls at hl ⊢
  exact c_X0_takes_0 l G A hB hT hW hEn hV ⟨⟨B.exec, B.bytes, hml, findClass_of_methodNamed B.named, atoms_spec (ws := wsX0_takes) B.pre⟩, B.returns, B.notSynchronized⟩ hE x u hP hD hok va_S.rf hl rfl
