theorem trC {N : Nat} {x : Int32} {u : FS} {q : Int32 × FS} (e : q = f_X2_has N x u) (c : ¬ q.1 = 0) : ¬ f_X4_within x 0 (c_z u - 1) = 0 := by
  rw [e] at c
  exact c
-- FerryDecks.risk
def f_X4_risk (N : Nat) (u : FS) : Int32 × FS :=
  (c_lr u, u)
set_option maxHeartbeats 4000000 in
set_option maxRecDepth 100000 in
theorem c_X4_risk_0 {p : Program} {e : Env} {s : State} {m : MethodId} {args : Array Value} {below : List Frame} {meth : Method} {c : Code} (l : Launch) (G : gC) (A : Nat → Prop) (hF hVs hDs hB hT hW hEn : Nat) (dd : Nat → Nat) (N : Nat) (ad : Nat → Nat) (hN : N ≤ 70) (C0 : gX p s m args meth c cX4_risk 1 wsX4_risk RX4 (some .int)) (hE : gE G A s) (u : FS) {H : Heap} {locs : List Loc} (hP : va_P (gD G) vwCl ((c_W G hF hVs hDs hB hT hW hEn dd N ad) u) H) (hD : va_D A ((c_W G hF hVs hDs hB hT hW hEn dd N ad) u)) (hok : c_ok u) (hS : va_S A s.heap H locs) {ls : Array Slot} (hl : lv_has ls 1 [(0, .ref hF)]) {fv : Int32 × FS} (hfv : f_X4_risk N u = fv) : W p l e ({ frames := 0, cells := 0, slots := 0, locals := 0 } : Room) s m args below meth c H locs 0 0 (MQ below (gQi G A (c_W G hF hVs hDs hB hT hW hEn dd N ad) c_ok fv) args s 0 0 A) (F0 m 0 ls []) := by
  obtain ⟨⟨hx, hb, hml, hown, hts⟩, hr, hlk⟩ := id C0
  have hok0 := hok
  have k0 := hts (.fieldLink RX4 103 "FerryDecks" "latestRisk" "I") (by decide +kernel)
  have iX4 : ∀ w ∈ wsX40, w ∈ wsX4_risk := by decide +kernel
  refine lv_aload_n hx hb dX4_risk_0 rfl (lv_at hl 0 rfl) ?_
  refine va_get (D := gD G) (ci := 4) (v := .int (c_lr u)) (C := RX4) (T := TX4) (N := 9) hx hb hts iX4 hown hE.1 hP 0 rfl rfl 6 (by decide) k0 (fun _ h9 => h9) rfl dX4_risk_1 ?_
  exact gRi (u := u) hx hb hr hlk hP hD hok hS (by rw [← hfv, f_X4_risk]) dX4_risk_4
set_option maxHeartbeats 4000000 in
set_option maxRecDepth 100000 in
theorem c_X4_risk (l : Launch) (G : gC) (A : Nat → Prop) (hF hVs hDs hB hT hW hEn : Nat) (dd : Nat → Nat) (N : Nat) (ad : Nat → Nat) (hN : N ≤ 70) (u : FS) (hok : c_ok u) : CI l yX4_risk wsX4_risk ({ frames := 0, cells := 0, slots := 0, locals := 0 } : Room) G A (c_W G hF hVs hDs hB hT hW hEn dd N ad) c_ok [.ref hF] u (f_X4_risk N u) := by
  refine Met.ofW (cc := cX4_risk) (maxL := 1) (ret := (some .int)) (by decide) rfl ?_
  intro p e s m args below meth c s₁ B hml hv
  obtain ⟨rfl, hE, hP, hD⟩ := hv
  have hl := lv_entry ([.ref hF]) (n := 1) (Nat.le_of_ble_eq_true rfl)
  rw [lg_entry_eq]
  generalize (lg_sl ([.ref hF]) ++ List.replicate (1 - (lg_sl ([.ref hF])).length) Slot.unset).toArray = ls at hl ⊢
  exact c_X4_risk_0 l G A hF hVs hDs hB hT hW hEn dd N ad hN ⟨⟨B.exec, B.bytes, hml, findClass_of_methodNamed B.named, atoms_spec (ws := wsX4_risk) B.pre⟩, B.returns, B.notSynchronized⟩ hE u hP hD hok va_S.rf hl rfl

-- FerryDecks.pulled
def f_X4_pulled (N : Nat) (u : FS) : Int32 × FS :=
  (c_lp u, u)
set_option maxHeartbeats 4000000 in
set_option maxRecDepth 100000 in
theorem c_X4_pulled_0 {p : Program} {e : Env} {s : State} {m : MethodId} {args : Array Value} {below : List Frame} {meth : Method} {c : Code} (l : Launch) (G : gC) (A : Nat → Prop) (hF hVs hDs hB hT hW hEn : Nat) (dd : Nat → Nat) (N : Nat) (ad : Nat → Nat) (hN : N ≤ 70) (C0 : gX p s m args meth c cX4_pulled 1 wsX4_pulled RX4 (some .int)) (hE : gE G A s) (u : FS) {H : Heap} {locs : List Loc} (hP : va_P (gD G) vwCl ((c_W G hF hVs hDs hB hT hW hEn dd N ad) u) H) (hD : va_D A ((c_W G hF hVs hDs hB hT hW hEn dd N ad) u)) (hok : c_ok u) (hS : va_S A s.heap H locs) {ls : Array Slot} (hl : lv_has ls 1 [(0, .ref hF)]) {fv : Int32 × FS} (hfv : f_X4_pulled N u = fv) : W p l e ({ frames := 0, cells := 0, slots := 0, locals := 0 } : Room) s m args below meth c H locs 0 0 (MQ below (gQi G A (c_W G hF hVs hDs hB hT hW hEn dd N ad) c_ok fv) args s 0 0 A) (F0 m 0 ls []) := by
  obtain ⟨⟨hx, hb, hml, hown, hts⟩, hr, hlk⟩ := id C0
  have hok0 := hok
  have k0 := hts (.fieldLink RX4 124 "FerryDecks" "latestPull" "I") (by decide +kernel)
  have iX4 : ∀ w ∈ wsX40, w ∈ wsX4_pulled := by decide +kernel
  refine lv_aload_n hx hb dX4_pulled_0 rfl (lv_at hl 0 rfl) ?_
  refine va_get (D := gD G) (ci := 4) (v := .int (c_lp u)) (C := RX4) (T := TX4) (N := 9) hx hb hts iX4 hown hE.1 hP 0 rfl rfl 7 (by decide) k0 (fun _ h9 => h9) rfl dX4_pulled_1 ?_
  exact gRi (u := u) hx hb hr hlk hP hD hok hS (by rw [← hfv, f_X4_pulled]) dX4_pulled_4
set_option maxHeartbeats 4000000 in
set_option maxRecDepth 100000 in
theorem c_X4_pulled (l : Launch) (G : gC) (A : Nat → Prop) (hF hVs hDs hB hT hW hEn : Nat) (dd : Nat → Nat) (N : Nat) (ad : Nat → Nat) (hN : N ≤ 70) (u : FS) (hok : c_ok u) : CI l yX4_pulled wsX4_pulled ({ frames := 0, cells := 0, slots := 0, locals := 0 } : Room) G A (c_W G hF hVs hDs hB hT hW hEn dd N ad) c_ok [.ref hF] u (f_X4_pulled N u) := by
  refine Met.ofW (cc := cX4_pulled) (maxL := 1) (ret := (some .int)) (by decide) rfl ?_
  intro p e s m args below meth c s₁ B hml hv
  obtain ⟨rfl, hE, hP, hD⟩ := hv
  have hl := lv_entry ([.ref hF]) (n := 1) (Nat.le_of_ble_eq_true rfl)
  rw [lg_entry_eq]
  generalize (lg_sl ([.ref hF]) ++ List.replicate (1 - (lg_sl ([.ref hF])).length) Slot.unset).toArray = ls at hl ⊢
  exact c_X4_pulled_0 l G A hF hVs hDs hB hT hW hEn dd N ad hN ⟨⟨B.exec, B.bytes, hml, findClass_of_methodNamed B.named, atoms_spec (ws := wsX4_pulled) B.pre⟩, B.returns, B.notSynchronized⟩ hE u hP hD hok va_S.rf hl rfl

-- FerryDecks.till
def f_X4_till (N : Nat) (u : FS) : Int64 × FS :=
  (c_til u, u)
set_option maxHeartbeats 4000000 in
set_option maxRecDepth 100000 in
theorem c_X4_till_0 {p : Program} {e : Env} {s : State} {m : MethodId} {args : Array Value} {below : List Frame} {meth : Method} {c : Code} (l : Launch) (G : gC) (A : Nat → Prop) (hF hVs hDs hB hT hW hEn : Nat) (dd : Nat → Nat) (N : Nat) (ad : Nat → Nat) (hN : N ≤ 70) (C0 : gX p s m args meth c cX4_till 1 wsX4_till RX4 (some .long)) (hE : gE G A s) (u : FS) {H : Heap} {locs : List Loc} (hP : va_P (gD G) vwCl ((c_W G hF hVs hDs hB hT hW hEn dd N ad) u) H) (hD : va_D A ((c_W G hF hVs hDs hB hT hW hEn dd N ad) u)) (hok : c_ok u) (hS : va_S A s.heap H locs) {ls : Array Slot} (hl : lv_has ls 1 [(0, .ref hF)]) {fv : Int64 × FS} (hfv : f_X4_till N u = fv) : W p l e ({ frames := 0, cells := 0, slots := 0, locals := 0 } : Room) s m args below meth c H locs 0 0 (MQ below (gQl G A (c_W G hF hVs hDs hB hT hW hEn dd N ad) c_ok fv) args s 0 0 A) (F0 m 0 ls []) := by
  obtain ⟨⟨hx, hb, hml, hown, hts⟩, hr, hlk⟩ := id C0
  have hok0 := hok
  have k0 := hts (.fieldLink RX4 109 "FerryDecks" "theTill" "J") (by decide +kernel)
  have iX4 : ∀ w ∈ wsX40, w ∈ wsX4_till := by decide +kernel
  refine lv_aload_n hx hb dX4_till_0 rfl (lv_at hl 0 rfl) ?_
  refine va_get (D := gD G) (ci := 4) (v := .long (c_til u)) (C := RX4) (T := TX4) (N := 9) hx hb hts iX4 hown hE.1 hP 0 rfl rfl 8 (by decide) k0 (fun _ h9 => h9) rfl dX4_till_1 ?_
  exact gRl (u := u) hx hb hr hlk hP hD hok hS (by rw [← hfv, f_X4_till]) dX4_till_4
set_option maxHeartbeats 4000000 in
set_option maxRecDepth 100000 in
theorem c_X4_till (l : Launch) (G : gC) (A : Nat → Prop) (hF hVs hDs hB hT hW hEn : Nat) (dd : Nat → Nat) (N : Nat) (ad : Nat → Nat) (hN : N ≤ 70) (u : FS) (hok : c_ok u) : CL l yX4_till wsX4_till ({ frames := 0, cells := 0, slots := 0, locals := 0 } : Room) G A (c_W G hF hVs hDs hB hT hW hEn dd N ad) c_ok [.ref hF] u (f_X4_till N u) := by
  refine Met.ofW (cc := cX4_till) (maxL := 1) (ret := (some .long)) (by decide) rfl ?_
  intro p e s m args below meth c s₁ B hml hv
  obtain ⟨rfl, hE, hP, hD⟩ := hv
  have hl := lv_entry ([.ref hF]) (n := 1) (Nat.le_of_ble_eq_true rfl)
  rw [lg_entry_eq]
  generalize (lg_sl ([.ref hF]) ++ List.replicate (1 - (lg_sl ([.ref hF])).length) Slot.unset).toArray = ls at hl ⊢
  exact c_X4_till_0 l G A hF hVs hDs hB hT hW hEn dd N ad hN ⟨⟨B.exec, B.bytes, hml, findClass_of_methodNamed B.named, atoms_spec (ws := wsX4_till) B.pre⟩, B.returns, B.notSynchronized⟩ hE u hP hD hok va_S.rf hl rfl

-- FerryDecks.count
def f_X4_count (N : Nat) (x : Int32) (u : FS) : Int32 × FS :=
  (if x = 0 then (nI N, u) else (if x = 1 then (c_z u, u) else (if x = 2 then (c_ac u, u) else (if x = 3 then (c_fa u, u) else ((-1 : Int32), u)))))
set_option maxHeartbeats 4000000 in
set_option maxRecDepth 100000 in
theorem c_X4_count_0 {p : Program} {e : Env} {s : State} {m : MethodId} {args : Array Value} {below : List Frame} {meth : Method} {c : Code} (l : Launch) (G : gC) (A : Nat → Prop) (hF hVs hDs hB hT hW hEn : Nat) (dd : Nat → Nat) (N : Nat) (ad : Nat → Nat) (hN : N ≤ 70) (C0 : gX p s m args meth c cX4_count 2 wsX4_count RX4 (some .int)) (hE : gE G A s) (x : Int32) (u : FS) {H : Heap} {locs : List Loc} (hP : va_P (gD G) vwCl ((c_W G hF hVs hDs hB hT hW hEn dd N ad) u) H) (hD : va_D A ((c_W G hF hVs hDs hB hT hW hEn dd N ad) u)) (hok : c_ok u) (hS : va_S A s.heap H locs) {ls : Array Slot} (hl : lv_has ls 2 [(0, .ref hF), (1, .int x)]) {fv : Int32 × FS} (hfv : f_X4_count N x u = fv) : W p l e ({ frames := 0, cells := 0, slots := 0, locals := 0 } : Room) s m args below meth c H locs 0 0 (MQ below (gQi G A (c_W G hF hVs hDs hB hT hW hEn dd N ad) c_ok fv) args s 0 0 A) (F0 m 0 ls []) := by
  obtain ⟨⟨hx, hb, hml, hown, hts⟩, hr, hlk⟩ := id C0
  have hok0 := hok
  have k0 := hts (.fieldLink RX4 49 "FerryDecks" "vehicleCount" "I") (by decide +kernel)
  have k1 := hts (.fieldLink RX4 25 "FerryDecks" "bodies" "LFerryDecks$Bodies;") (by decide +kernel)
  have k2 := hts (.fieldLink RX4 87 "FerryDecks$Bodies" "written" "LFerryDecks$Trace;") (by decide +kernel)
  have k3 := hts (.fieldLink RX4 139 "FerryDecks$Trace" "size" "I") (by decide +kernel)
  have k4 := hts (.fieldLink RX4 140 "FerryDecks" "acts" "I") (by decide +kernel)
  have k5 := hts (.fieldLink RX4 143 "FerryDecks" "failedActs" "I") (by decide +kernel)
  have iX0 : ∀ w ∈ wsX00, w ∈ wsX4_count := by decide +kernel
  have iX2 : ∀ w ∈ wsX20, w ∈ wsX4_count := by decide +kernel
  have iX4 : ∀ w ∈ wsX40, w ∈ wsX4_count := by decide +kernel
  refine lv_iload_n hx hb dX4_count_0 rfl (lv_at hl 1 rfl) ?_
  by_cases c1_0 : x = 0
  · refine gTs (off := 31) (tgt := 32) hx hb dX4_count_1 rfl (by rw [c1_0]; decide) (by decide) ?_
    refine lv_aload_n hx hb dX4_count_32 rfl (lv_at hl 0 rfl) ?_
    refine va_get (D := gD G) (ci := 4) (v := .int (nI N)) (C := RX4) (T := TX4) (N := 9) hx hb hts iX4 hown hE.1 hP 0 rfl rfl 1 (by decide) k0 (fun _ h9 => h9) rfl dX4_count_33 ?_
    exact gRi (u := u) hx hb hr hlk hP hD hok hS (by rw [← hfv, f_X4_count, if_pos c1_0]) dX4_count_36
  by_cases c1_1 : x = 1
  · refine gTs (off := 36) (tgt := 37) hx hb dX4_count_1 rfl (by rw [c1_1]; decide) (by decide) ?_
    refine lv_aload_n hx hb dX4_count_37 rfl (lv_at hl 0 rfl) ?_
    refine va_get (D := gD G) (ci := 4) (v := .ref hB) (C := RX4) (T := TX4) (N := 9) hx hb hts iX4 hown hE.1 hP 0 rfl rfl 3 (by decide) k1 (fun _ h9 => h9) rfl dX4_count_38 ?_
    refine va_get (D := gD G) (ci := 0) (v := .ref hW) (C := RX0) (T := TX0) (N := 3) hx hb hts iX0 hown hE.1 hP 3 rfl rfl 1 (by decide) k2 (fun _ h9 => h9) rfl dX4_count_41 ?_
    refine va_get (D := gD G) (ci := 2) (v := .int (c_z u)) (C := RX2) (T := TX2) (N := 2) hx hb hts iX2 hown hE.1 hP 5 rfl rfl 1 (by decide) k3 (fun _ h9 => h9) rfl dX4_count_44 ?_
    exact gRi (u := u) hx hb hr hlk hP hD hok hS (by rw [← hfv, f_X4_count, if_neg c1_0, if_pos c1_1]) dX4_count_47
  by_cases c1_2 : x = 2
  · refine gTs (off := 47) (tgt := 48) hx hb dX4_count_1 rfl (by rw [c1_2]; decide) (by decide) ?_
    refine lv_aload_n hx hb dX4_count_48 rfl (lv_at hl 0 rfl) ?_
    refine va_get (D := gD G) (ci := 4) (v := .int (c_ac u)) (C := RX4) (T := TX4) (N := 9) hx hb hts iX4 hown hE.1 hP 0 rfl rfl 4 (by decide) k4 (fun _ h9 => h9) rfl dX4_count_49 ?_
    exact gRi (u := u) hx hb hr hlk hP hD hok hS (by rw [← hfv, f_X4_count, if_neg c1_0, if_neg c1_1, if_pos c1_2]) dX4_count_52
  by_cases c1_3 : x = 3
  · refine gTs (off := 52) (tgt := 53) hx hb dX4_count_1 rfl (by rw [c1_3]; decide) (by decide) ?_
    refine lv_aload_n hx hb dX4_count_53 rfl (lv_at hl 0 rfl) ?_
    refine va_get (D := gD G) (ci := 4) (v := .int (c_fa u)) (C := RX4) (T := TX4) (N := 9) hx hb hts iX4 hown hE.1 hP 0 rfl rfl 5 (by decide) k5 (fun _ h9 => h9) rfl dX4_count_54 ?_
    exact gRi (u := u) hx hb hr hlk hP hD hok hS (by rw [← hfv, f_X4_count, if_neg c1_0, if_neg c1_1, if_neg c1_2, if_pos c1_3]) dX4_count_57
  refine gTs (off := 57) (tgt := 58) hx hb dX4_count_1 rfl (by have z0 := lv_neT (a := 0) c1_0 (by decide); have z1 := lv_neT (a := 1) c1_1 (by decide); have z2 := lv_neT (a := 2) c1_2 (by decide); have z3 := lv_neT (a := 3) c1_3 (by decide); unfold tsO; by_cases hh : x.toInt < 0 ∨ 3 < x.toInt; (rw [if_pos hh]); (rw [if_neg hh]; omega)) (by decide) ?_
  refine lv_iconst (v := -1) hx hb dX4_count_58 (by decide) ?_
  exact gRi (u := u) hx hb hr hlk hP hD hok hS (by rw [← hfv, f_X4_count, if_neg c1_0, if_neg c1_1, if_neg c1_2, if_neg c1_3]) dX4_count_59
set_option maxHeartbeats 4000000 in
set_option maxRecDepth 100000 in
theorem c_X4_count (l : Launch) (G : gC) (A : Nat → Prop) (hF hVs hDs hB hT hW hEn : Nat) (dd : Nat → Nat) (N : Nat) (ad : Nat → Nat) (hN : N ≤ 70) (x : Int32) (u : FS) (hok : c_ok u) : CI l yX4_count wsX4_count ({ frames := 0, cells := 0, slots := 0, locals := 0 } : Room) G A (c_W G hF hVs hDs hB hT hW hEn dd N ad) c_ok [.ref hF, .int x] u (f_X4_count N x u) := by
  refine Met.ofW (cc := cX4_count) (maxL := 2) (ret := (some .int)) (by decide) rfl ?_
  intro p e s m args below meth c s₁ B hml hv
  obtain ⟨rfl, hE, hP, hD⟩ := hv
  have hl := lv_entry ([.ref hF, .int x]) (n := 2) (Nat.le_of_ble_eq_true rfl)
  rw [lg_entry_eq]
  generalize (lg_sl ([.ref hF, .int x]) ++ List.replicate (2 - (lg_sl ([.ref hF, .int x])).length) Slot.unset).toArray = ls at hl ⊢
  exact c_X4_count_0 l G A hF hVs hDs hB hT hW hEn dd N ad hN ⟨⟨B.exec, B.bytes, hml, findClass_of_methodNamed B.named, atoms_spec (ws := wsX4_count) B.pre⟩, B.returns, B.notSynchronized⟩ hE x u hP hD hok va_S.rf hl rfl

-- FerryDecks.term
def f_X4_term_k15 (N : Nat) (k : Int32) (x : Int32) (u : FS) (q15 : Int32) : Int32 × FS :=
  (if q15 = 0 then ((-1 : Int32), u) else (c_T u (k : Int32).toNatClampNeg, c_s_T u (upd (c_T u) (k : Int32).toNatClampNeg x)))
def f_X4_term_k4 (N : Nat) (k : Int32) (x : Int32) (u : FS) (q4 : Int32) : Int32 × FS :=
  (if q4 = 0 then ((-1 : Int32), u) else (f_X4_term_k15 N k x u (f_X4_within x (0 : Int32) (1000 : Int32))))
def f_X4_term (N : Nat) (k : Int32) (x : Int32) (u : FS) : Int32 × FS :=
  (f_X4_term_k4 N k x u (f_X4_within k (0 : Int32) (7 : Int32)))
set_option maxHeartbeats 4000000 in
set_option maxRecDepth 100000 in
theorem c_X4_term_0 {p : Program} {e : Env} {s : State} {m : MethodId} {args : Array Value} {below : List Frame} {meth : Method} {c : Code} (l : Launch) (G : gC) (A : Nat → Prop) (hF hVs hDs hB hT hW hEn : Nat) (dd : Nat → Nat) (N : Nat) (ad : Nat → Nat) (hN : N ≤ 70) (C0 : gX p s m args meth c cX4_term 4 wsX4_term RX4 (some .int)) (hE : gE G A s) (k : Int32) (x : Int32) (u : FS) {H : Heap} {locs : List Loc} (hP : va_P (gD G) vwCl ((c_W G hF hVs hDs hB hT hW hEn dd N ad) u) H) (hD : va_D A ((c_W G hF hVs hDs hB hT hW hEn dd N ad) u)) (hok : c_ok u) (hS : va_S A s.heap H locs) {ls : Array Slot} (hl : lv_has ls 4 [(0, .ref hF), (1, .int k), (2, .int x)]) {fv : Int32 × FS} (hfv : f_X4_term N k x u = fv) : W p l e ({ frames := 1, cells := 0, slots := 0, locals := 22 } : Room) s m args below meth c H locs 0 0 (MQ below (gQi G A (c_W G hF hVs hDs hB hT hW hEn dd N ad) c_ok fv) args s 0 0 A) (F0 m 0 ls []) := by
  obtain ⟨⟨hx, hb, hml, hown, hts⟩, hr, hlk⟩ := id C0
  have hok0 := hok
  have k0 := hts (.fieldLink RX4 25 "FerryDecks" "bodies" "LFerryDecks$Bodies;") (by decide +kernel)
  have k1 := hts (.fieldLink RX4 33 "FerryDecks$Bodies" "terms" "[I") (by decide +kernel)
  have iX0 : ∀ w ∈ wsX00, w ∈ wsX4_term := by decide +kernel
  have iX4 : ∀ w ∈ wsX40, w ∈ wsX4_term := by decide +kernel
  refine lv_iload_n hx hb dX4_term_0 rfl (lv_at hl 1 rfl) ?_
  refine lv_iconst (v := 0) hx hb dX4_term_1 (by decide) ?_
  refine lv_bipush (v := 7) hx hb dX4_term_2 (by decide) ?_
  refine gSi (As := [.int k, .int (0 : Int32), .int (7 : Int32)]) (rest := []) ⟨hx, hb, hml, hown, hts⟩ (c_X4_within l G A k (0 : Int32) (7 : Int32)) (va_cwS 3 hts gX4_term_X4_within rfl rfl rfl (by decide +kernel) ⟨Nat.le_of_ble_eq_true rfl, Nat.le_of_ble_eq_true rfl⟩) hE hS rfl hl.1 rfl (Nat.le_of_ble_eq_true rfl) dX4_term_4 ⟨Nat.zero_le _, Nat.zero_le _⟩ (fun q4 e4 => ?_)
  refine lv_if_eq (tgt := 21) hx hb dX4_term_7 (by decide) (fun c7 => ?_) (fun c7 => ?_)
  · refine lv_iconst (v := -1) hx hb dX4_term_21 (by decide) ?_
    exact gRi (u := u) hx hb hr hlk hP hD hok hS (by rw [← hfv, f_X4_term, ← e4, f_X4_term_k4, if_pos c7]) dX4_term_22
  · refine lv_iload_n hx hb dX4_term_10 rfl (lv_at hl 2 rfl) ?_
    refine lv_iconst (v := 0) hx hb dX4_term_11 (by decide) ?_
    refine lv_sipush (v := 1000) hx hb dX4_term_12 (by decide) ?_
    refine gSi (As := [.int x, .int (0 : Int32), .int (1000 : Int32)]) (rest := []) ⟨hx, hb, hml, hown, hts⟩ (c_X4_within l G A x (0 : Int32) (1000 : Int32)) (va_cwS 3 hts gX4_term_X4_within rfl rfl rfl (by decide +kernel) ⟨Nat.le_of_ble_eq_true rfl, Nat.le_of_ble_eq_true rfl⟩) hE hS rfl hl.1 rfl (Nat.le_of_ble_eq_true rfl) dX4_term_15 ⟨Nat.zero_le _, Nat.zero_le _⟩ (fun q15 e15 => ?_)
    refine lv_if_ne (tgt := 23) hx hb dX4_term_18 (by decide) (fun c18 => ?_) (fun c18 => ?_)
    · refine lv_aload_n hx hb dX4_term_23 rfl (lv_at hl 0 rfl) ?_
      refine va_get (D := gD G) (ci := 4) (v := .ref hB) (C := RX4) (T := TX4) (N := 9) hx hb hts iX4 hown hE.1 hP 0 rfl rfl 3 (by decide) k0 (fun _ h9 => h9) rfl dX4_term_24 ?_
      refine va_get (D := gD G) (ci := 0) (v := .ref hT) (C := RX0) (T := TX0) (N := 3) hx hb hts iX0 hown hE.1 hP 3 rfl rfl 0 (by decide) k1 (fun _ h9 => h9) rfl dX4_term_27 ?_
      refine lv_iload_n hx hb dX4_term_30 rfl (lv_at hl 1 rfl) ?_
      refine va_iald hx hb hE.1 hP 4 0 rfl rfl (inN (N := 7) (Int32.le_refl _) (by omega) (by omega) (within_of (a := k) (b := 0) (d := 7) (fun z => c7 (e4.trans z)))) dX4_term_31 ?_
      refine lv_istore_n (lv' := [(3, .int (c_T u (k : Int32).toNatClampNeg)), (0, .ref hF), (1, .int k), (2, .int x)]) hx hb dX4_term_32 rfl hl (by decide) rfl (fun ls hl => ?_)
      refine lv_aload_n hx hb dX4_term_33 rfl (lv_at hl 1 rfl) ?_
      refine va_get (D := gD G) (ci := 4) (v := .ref hB) (C := RX4) (T := TX4) (N := 9) hx hb hts iX4 hown hE.1 hP 0 rfl rfl 3 (by decide) k0 (fun _ h9 => h9) rfl dX4_term_34 ?_
      refine va_get (D := gD G) (ci := 0) (v := .ref hT) (C := RX0) (T := TX0) (N := 3) hx hb hts iX0 hown hE.1 hP 3 rfl rfl 0 (by decide) k1 (fun _ h9 => h9) rfl dX4_term_37 ?_
      refine lv_iload_n hx hb dX4_term_40 rfl (lv_at hl 2 rfl) ?_
      refine lv_iload_n hx hb dX4_term_41 rfl (lv_at hl 3 rfl) ?_
      refine va_iast hx hb hE.1 hP hD hS 4 0 rfl rfl (inN (N := 7) (Int32.le_refl _) (by omega) (by omega) (within_of (a := k) (b := 0) (d := 7) (fun z => c7 (e4.trans z)))) dX4_term_42 (fun H locs hP hD hS => ?_)
      have hP : va_P (gD G) vwCl ((c_W G hF hVs hDs hB hT hW hEn dd N ad) (c_s_T u (upd (c_T u) (k : Int32).toNatClampNeg x))) H := hP
      have hD : va_D A ((c_W G hF hVs hDs hB hT hW hEn dd N ad) (c_s_T u (upd (c_T u) (k : Int32).toNatClampNeg x))) := hD
      have hok : c_ok (c_s_T u (upd (c_T u) (k : Int32).toNatClampNeg x)) := hok
      refine lv_iload_n hx hb dX4_term_43 rfl (lv_at hl 0 rfl) ?_
      exact gRi (u := c_s_T u (upd (c_T u) (k : Int32).toNatClampNeg x)) hx hb hr hlk hP hD hok hS (by rw [← hfv, f_X4_term, ← e4, f_X4_term_k4, if_neg c7, ← e15, f_X4_term_k15, if_neg c18]) dX4_term_44
    · refine lv_iconst (v := -1) hx hb dX4_term_21 (by decide) ?_
      exact gRi (u := u) hx hb hr hlk hP hD hok hS (by rw [← hfv, f_X4_term, ← e4, f_X4_term_k4, if_neg c7, ← e15, f_X4_term_k15, if_pos c18]) dX4_term_22
set_option maxHeartbeats 4000000 in
set_option maxRecDepth 100000 in
theorem c_X4_term (l : Launch) (G : gC) (A : Nat → Prop) (hF hVs hDs hB hT hW hEn : Nat) (dd : Nat → Nat) (N : Nat) (ad : Nat → Nat) (hN : N ≤ 70) (k : Int32) (x : Int32) (u : FS) (hok : c_ok u) : CI l yX4_term wsX4_term ({ frames := 1, cells := 0, slots := 0, locals := 22 } : Room) G A (c_W G hF hVs hDs hB hT hW hEn dd N ad) c_ok [.ref hF, .int k, .int x] u (f_X4_term N k x u) := by
  refine Met.ofW (cc := cX4_term) (maxL := 4) (ret := (some .int)) (by decide) rfl ?_
  intro p e s m args below meth c s₁ B hml hv
  obtain ⟨rfl, hE, hP, hD⟩ := hv
  have hl := lv_entry ([.ref hF, .int k, .int x]) (n := 4) (Nat.le_of_ble_eq_true rfl)
  rw [lg_entry_eq]
  generalize (lg_sl ([.ref hF, .int k, .int x]) ++ List.replicate (4 - (lg_sl ([.ref hF, .int k, .int x])).length) Slot.unset).toArray = ls at hl ⊢
  exact c_X4_term_0 l G A hF hVs hDs hB hT hW hEn dd N ad hN ⟨⟨B.exec, B.bytes, hml, findClass_of_methodNamed B.named, atoms_spec (ws := wsX4_term) B.pre⟩, B.returns, B.notSynchronized⟩ hE k x u hP hD hok va_S.rf hl rfl

-- FerryDecks.trace
def f_X4_trace_k8 (N : Nat) (x : Int32) (q8 : Int32 × FS) : Int32 × FS :=
  (if q8.1 = 0 then ((-1 : Int32), q8.2) else (c_te q8.2 (x : Int32).toNatClampNeg, q8.2))
def f_X4_trace (N : Nat) (x : Int32) (u : FS) : Int32 × FS :=
  (f_X4_trace_k8 N x (f_X2_has N x u))
set_option maxHeartbeats 4000000 in
set_option maxRecDepth 100000 in
theorem c_X4_trace_0 {p : Program} {e : Env} {s : State} {m : MethodId} {args : Array Value} {below : List Frame} {meth : Method} {c : Code} (l : Launch) (G : gC) (A : Nat → Prop) (hF hVs hDs hB hT hW hEn : Nat) (dd : Nat → Nat) (N : Nat) (ad : Nat → Nat) (hN : N ≤ 70) (C0 : gX p s m args meth c cX4_trace 2 wsX4_trace RX4 (some .int)) (hE : gE G A s) (x : Int32) (u : FS) {H : Heap} {locs : List Loc} (hP : va_P (gD G) vwCl ((c_W G hF hVs hDs hB hT hW hEn dd N ad) u) H) (hD : va_D A ((c_W G hF hVs hDs hB hT hW hEn dd N ad) u)) (hok : c_ok u) (hS : va_S A s.heap H locs) {ls : Array Slot} (hl : lv_has ls 2 [(0, .ref hF), (1, .int x)]) {fv : Int32 × FS} (hfv : f_X4_trace N x u = fv) : W p l e ({ frames := 2, cells := 0, slots := 0, locals := 43 } : Room) s m args below meth c H locs 0 0 (MQ below (gQi G A (c_W G hF hVs hDs hB hT hW hEn dd N ad) c_ok fv) args s 0 0 A) (F0 m 0 ls []) := by
  obtain ⟨⟨hx, hb, hml, hown, hts⟩, hr, hlk⟩ := id C0
  have hok0 := hok
  have k0 := hts (.fieldLink RX4 25 "FerryDecks" "bodies" "LFerryDecks$Bodies;") (by decide +kernel)
  have k1 := hts (.fieldLink RX4 87 "FerryDecks$Bodies" "written" "LFerryDecks$Trace;") (by decide +kernel)
  have k2 := hts (.fieldLink RX4 97 "FerryDecks$Trace" "entries" "[I") (by decide +kernel)
  have iX0 : ∀ w ∈ wsX00, w ∈ wsX4_trace := by decide +kernel
  have iX2 : ∀ w ∈ wsX20, w ∈ wsX4_trace := by decide +kernel
  have iX4 : ∀ w ∈ wsX40, w ∈ wsX4_trace := by decide +kernel
  refine lv_aload_n hx hb dX4_trace_0 rfl (lv_at hl 0 rfl) ?_
  refine va_get (D := gD G) (ci := 4) (v := .ref hB) (C := RX4) (T := TX4) (N := 9) hx hb hts iX4 hown hE.1 hP 0 rfl rfl 3 (by decide) k0 (fun _ h9 => h9) rfl dX4_trace_1 ?_
  refine va_get (D := gD G) (ci := 0) (v := .ref hW) (C := RX0) (T := TX0) (N := 3) hx hb hts iX0 hown hE.1 hP 3 rfl rfl 1 (by decide) k1 (fun _ h9 => h9) rfl dX4_trace_4 ?_
  refine lv_iload_n hx hb dX4_trace_7 rfl (lv_at hl 1 rfl) ?_
  refine gVi (u := u) (Wd := (c_W G hF hVs hDs hB hT hW hEn dd N ad)) (ok := c_ok) (As := [.int x]) (rest := []) ⟨hx, hb, hml, hown, hts⟩ (c_X2_has l G A hF hVs hDs hB hT hW hEn dd N ad hN x u hok) (cwV 1 hts gX4_trace_X2_has rfl rfl rfl (by decide +kernel) ⟨Nat.le_of_ble_eq_true rfl, Nat.le_of_ble_eq_true rfl⟩) hE hP hD hS (va_recv hE.1 hP (ci := 2) (q0 := 5) rfl rfl) rfl hl.1 rfl (Nat.le_of_ble_eq_true rfl) dX4_trace_8 ⟨Nat.zero_le _, Nat.zero_le _⟩ (fun q8 H locs e8 hP hD hok hS => ?_)
  refine lv_if_eq (tgt := 29) hx hb dX4_trace_11 (by decide) (fun c11 => ?_) (fun c11 => ?_)
  · refine lv_iconst (v := -1) hx hb dX4_trace_29 (by decide) ?_
    exact gRi (u := q8.2) hx hb hr hlk hP hD hok hS (by rw [← hfv, f_X4_trace, ← e8, f_X4_trace_k8, if_pos c11]) dX4_trace_30
  · refine lv_aload_n hx hb dX4_trace_14 rfl (lv_at hl 0 rfl) ?_
    refine va_get (D := gD G) (ci := 4) (v := .ref hB) (C := RX4) (T := TX4) (N := 9) hx hb hts iX4 hown hE.1 hP 0 rfl rfl 3 (by decide) k0 (fun _ h9 => h9) rfl dX4_trace_15 ?_
    refine va_get (D := gD G) (ci := 0) (v := .ref hW) (C := RX0) (T := TX0) (N := 3) hx hb hts iX0 hown hE.1 hP 3 rfl rfl 1 (by decide) k1 (fun _ h9 => h9) rfl dX4_trace_18 ?_
    refine va_get (D := gD G) (ci := 2) (v := .ref hEn) (C := RX2) (T := TX2) (N := 2) hx hb hts iX2 hown hE.1 hP 5 rfl rfl 0 (by decide) k2 (fun _ h9 => h9) rfl dX4_trace_21 ?_
    refine lv_iload_n hx hb dX4_trace_24 rfl (lv_at hl 1 rfl) ?_
    refine va_iald hx hb hE.1 hP 6 0 rfl rfl (teIn hok0 (trC e8 c11)) dX4_trace_25 ?_
    refine lv_goto (tgt := 30) hx hb dX4_trace_26 (by decide) ?_
    exact gRi (u := q8.2) hx hb hr hlk hP hD hok hS (by rw [← hfv, f_X4_trace, ← e8, f_X4_trace_k8, if_neg c11]) dX4_trace_30
set_option maxHeartbeats 4000000 in
set_option maxRecDepth 100000 in
theorem c_X4_trace (l : Launch) (G : gC) (A : Nat → Prop) (hF hVs hDs hB hT hW hEn : Nat) (dd : Nat → Nat) (N : Nat) (ad : Nat → Nat) (hN : N ≤ 70) (x : Int32) (u : FS) (hok : c_ok u) : CI l yX4_trace wsX4_trace ({ frames := 2, cells := 0, slots := 0, locals := 43 } : Room) G A (c_W G hF hVs hDs hB hT hW hEn dd N ad) c_ok [.ref hF, .int x] u (f_X4_trace N x u) := by
  refine Met.ofW (cc := cX4_trace) (maxL := 2) (ret := (some .int)) (by decide) rfl ?_
  intro p e s m args below meth c s₁ B hml hv
  obtain ⟨rfl, hE, hP, hD⟩ := hv
  have hl := lv_entry ([.ref hF, .int x]) (n := 2) (Nat.le_of_ble_eq_true rfl)
  rw [lg_entry_eq]
  generalize (lg_sl ([.ref hF, .int x]) ++ List.replicate (2 - (lg_sl ([.ref hF, .int x])).length) Slot.unset).toArray = ls at hl ⊢
  exact c_X4_trace_0 l G A hF hVs hDs hB hT hW hEn dd N ad hN ⟨⟨B.exec, B.bytes, hml, findClass_of_methodNamed B.named, atoms_spec (ws := wsX4_trace) B.pre⟩, B.returns, B.notSynchronized⟩ hE x u hP hD hok va_S.rf hl rfl

-- FerryDecks.deck
def f_X4_deck_w42 (N : Nat) (d : Int32) (u : FS) (w42 : FS) : Int32 × FS :=
  (c_dm u ((d : Int32).toNatClampNeg), w42)
def f_X4_deck_k15 (N : Nat) (d : Int32) (x : Int32) (u : FS) (q15 : Int32) : Int32 × FS :=
  (if q15 = 0 then ((-1 : Int32), u) else (if (c_tk u ((d : Int32).toNatClampNeg)) ≤ x then (f_X4_deck_w42 N d u (c_s_dm u (upd (c_dm u) ((d : Int32).toNatClampNeg) x))) else ((-4 : Int32), u)))
def f_X4_deck (N : Nat) (d : Int32) (x : Int32) (u : FS) : Int32 × FS :=
  (if f_X4_within d (0 : Int32) (2 : Int32) = 0 then ((-1 : Int32), u) else (f_X4_deck_k15 N d x u (f_X4_within x (0 : Int32) (10000 : Int32))))
set_option maxHeartbeats 4000000 in
set_option maxRecDepth 100000 in
theorem c_X4_deck_0 {p : Program} {e : Env} {s : State} {m : MethodId} {args : Array Value} {below : List Frame} {meth : Method} {c : Code} (l : Launch) (G : gC) (A : Nat → Prop) (hF hVs hDs hB hT hW hEn : Nat) (dd : Nat → Nat) (N : Nat) (ad : Nat → Nat) (hN : N ≤ 70) (C0 : gX p s m args meth c cX4_deck 5 wsX4_deck RX4 (some .int)) (hE : gE G A s) (d : Int32) (x : Int32) (u : FS) {H : Heap} {locs : List Loc} (hP : va_P (gD G) vwCl ((c_W G hF hVs hDs hB hT hW hEn dd N ad) u) H) (hD : va_D A ((c_W G hF hVs hDs hB hT hW hEn dd N ad) u)) (hok : c_ok u) (hS : va_S A s.heap H locs) {ls : Array Slot} (hl : lv_has ls 5 [(0, .ref hF), (1, .int d), (2, .int x)]) {fv : Int32 × FS} (hfv : f_X4_deck N d x u = fv) : W p l e ({ frames := 2, cells := 0, slots := 0, locals := 43 } : Room) s m args below meth c H locs 0 0 (MQ below (gQi G A (c_W G hF hVs hDs hB hT hW hEn dd N ad) c_ok fv) args s 0 0 A) (F0 m 0 ls []) := by
  obtain ⟨⟨hx, hb, hml, hown, hts⟩, hr, hlk⟩ := id C0
  have hok0 := hok
  have k0 := hts (.fieldLink RX4 41 "FerryDecks$Deck" "taken" "I") (by decide +kernel)
  have k1 := hts (.fieldLink RX4 45 "FerryDecks$Deck" "metres" "I") (by decide +kernel)
  have iX1 : ∀ w ∈ wsX10, w ∈ wsX4_deck := by decide +kernel
  refine lv_aload_n hx hb dX4_deck_0 rfl (lv_at hl 0 rfl) ?_
  refine lv_iload_n hx hb dX4_deck_1 rfl (lv_at hl 1 rfl) ?_
  refine gVq (As := [.int d]) (rest := []) ⟨hx, hb, hml, hown, hts⟩ (c_X4_deckAt l G A hF hVs hDs hB hT hW hEn dd N ad hN d u) (cwV 1 hts gX4_deck_X4_deckAt rfl rfl rfl (by decide +kernel) ⟨Nat.le_of_ble_eq_true rfl, Nat.le_of_ble_eq_true rfl⟩) hE hP hD hS (va_recv hE.1 hP (ci := 4) (q0 := 0) rfl rfl) rfl hl.1 rfl (Nat.le_of_ble_eq_true rfl) dX4_deck_2 ⟨Nat.zero_le _, Nat.zero_le _⟩ (fun n2 => ?_) (fun a2 n2 => ?_)
  · have c2 := dAt_none n2
    refine lv_astore_nN (lv' := [(3, .null), (0, .ref hF), (1, .int d), (2, .int x)]) hx hb dX4_deck_5 rfl hl (by decide) rfl (fun ls hl => ?_)
    refine lv_aload_nN hx hb dX4_deck_6 rfl (lv_at hl 0 rfl) ?_
    refine lv_ifnullN (tgt := 21) hx hb dX4_deck_7 (by decide) ?_
    refine lv_iconst (v := -1) hx hb dX4_deck_21 (by decide) ?_
    exact gRi (u := u) hx hb hr hlk hP hD hok hS (by rw [← hfv, f_X4_deck, if_pos c2]) dX4_deck_22
  · obtain ⟨c2, hjd, rfl⟩ := dAt_some n2
    refine lv_astore_n (lv' := [(3, .ref (dd (d : Int32).toNatClampNeg)), (0, .ref hF), (1, .int d), (2, .int x)]) hx hb dX4_deck_5 rfl hl (by decide) rfl (fun ls hl => ?_)
    refine lv_aload_n hx hb dX4_deck_6 rfl (lv_at hl 0 rfl) ?_
    refine lv_ifnull hx hb dX4_deck_7 ?_
    refine lv_iload_n hx hb dX4_deck_10 rfl (lv_at hl 3 rfl) ?_
    refine lv_iconst (v := 0) hx hb dX4_deck_11 (by decide) ?_
    refine lv_sipush (v := 10000) hx hb dX4_deck_12 (by decide) ?_
    refine gSi (As := [.int x, .int (0 : Int32), .int (10000 : Int32)]) (rest := []) ⟨hx, hb, hml, hown, hts⟩ (c_X4_within l G A x (0 : Int32) (10000 : Int32)) (va_cwS 3 hts gX4_deck_X4_within rfl rfl rfl (by decide +kernel) ⟨Nat.le_of_ble_eq_true rfl, Nat.le_of_ble_eq_true rfl⟩) hE hS rfl hl.1 rfl (Nat.le_of_ble_eq_true rfl) dX4_deck_15 ⟨Nat.zero_le _, Nat.zero_le _⟩ (fun q15 e15 => ?_)
    refine lv_if_ne (tgt := 23) hx hb dX4_deck_18 (by decide) (fun c18 => ?_) (fun c18 => ?_)
    · refine lv_aload_n hx hb dX4_deck_23 rfl (lv_at hl 0 rfl) ?_
      refine va_get (D := gD G) (ci := 1) (v := .int (c_tk u ((d : Int32).toNatClampNeg))) (C := RX1) (T := TX1) (N := 3) hx hb hts iX1 hown hE.1 hP (7 + (d : Int32).toNatClampNeg) (c_getD _ hjd) rfl 1 (by decide) k0 (fun _ h9 => h9) rfl dX4_deck_24 ?_
      refine lv_iload_n hx hb dX4_deck_27 rfl (lv_at hl 3 rfl) ?_
      refine lv_icmp_le (tgt := 34) hx hb dX4_deck_28 (by decide) (fun c28 => ?_) (fun c28 => ?_)
      · refine lv_aload_n hx hb dX4_deck_34 rfl (lv_at hl 0 rfl) ?_
        refine va_get (D := gD G) (ci := 1) (v := .int (c_dm u ((d : Int32).toNatClampNeg))) (C := RX1) (T := TX1) (N := 3) hx hb hts iX1 hown hE.1 hP (7 + (d : Int32).toNatClampNeg) (c_getD _ hjd) rfl 0 (by decide) k1 (fun _ h9 => h9) rfl dX4_deck_35 ?_
        refine lv_istore (lv' := [(4, .int (c_dm u ((d : Int32).toNatClampNeg))), (3, .ref (dd (d : Int32).toNatClampNeg)), (0, .ref hF), (1, .int d), (2, .int x)]) hx hb dX4_deck_38 hl (by decide) rfl (fun ls hl => ?_)
        refine lv_aload_n hx hb dX4_deck_40 rfl (lv_at hl 1 rfl) ?_
        refine lv_iload_n hx hb dX4_deck_41 rfl (lv_at hl 4 rfl) ?_
        refine va_put (D := gD G) (ci := 1) (v := .int x) (ty := .int) (C := RX1) (T := TX1) (N := 3) hx hb hts iX1 tyX1 tyX1_ok nmX1 hown hE.1 hP hD hS (7 + (d : Int32).toNatClampNeg) (c_getD _ hjd) rfl 0 (by decide) k1 (fun _ h9 => h9) rfl (by decide +kernel) rfl rfl (Nat.le_of_ble_eq_true rfl) dX4_deck_42 (fun H locs hP hD hS => ?_)
        obtain ⟨w42, ew42⟩ : ∃ z : FS, z = c_s_dm u (upd (c_dm u) ((d : Int32).toNatClampNeg) x) := ⟨_, rfl⟩
        have hP : va_P (gD G) vwCl ((c_W G hF hVs hDs hB hT hW hEn dd N ad) w42) H := by rw [ew42, ← c_setD_dm u hjd x]; exact hP
        have hD : va_D A ((c_W G hF hVs hDs hB hT hW hEn dd N ad) w42) := by rw [ew42, ← c_setD_dm u hjd x]; exact hD
        have hok : c_ok w42 := by rw [ew42]; exact hok
        refine lv_iload hx hb dX4_deck_45 (lv_at hl 0 rfl) ?_
        exact gRi (u := w42) hx hb hr hlk hP hD hok hS (by rw [← hfv, f_X4_deck, if_neg c2, ← e15, f_X4_deck_k15, if_neg c18, if_pos c28, ← ew42, f_X4_deck_w42]) dX4_deck_47
      · refine lv_bipush (v := -4) hx hb dX4_deck_31 (by decide) ?_
        exact gRi (u := u) hx hb hr hlk hP hD hok hS (by rw [← hfv, f_X4_deck, if_neg c2, ← e15, f_X4_deck_k15, if_neg c18, if_neg c28]) dX4_deck_33
    · refine lv_iconst (v := -1) hx hb dX4_deck_21 (by decide) ?_
      exact gRi (u := u) hx hb hr hlk hP hD hok hS (by rw [← hfv, f_X4_deck, if_neg c2, ← e15, f_X4_deck_k15, if_pos c18]) dX4_deck_22
set_option maxHeartbeats 4000000 in
set_option maxRecDepth 100000 in
theorem c_X4_deck (l : Launch) (G : gC) (A : Nat → Prop) (hF hVs hDs hB hT hW hEn : Nat) (dd : Nat → Nat) (N : Nat) (ad : Nat → Nat) (hN : N ≤ 70) (d : Int32) (x : Int32) (u : FS) (hok : c_ok u) : CI l yX4_deck wsX4_deck ({ frames := 2, cells := 0, slots := 0, locals := 43 } : Room) G A (c_W G hF hVs hDs hB hT hW hEn dd N ad) c_ok [.ref hF, .int d, .int x] u (f_X4_deck N d x u) := by
  refine Met.ofW (cc := cX4_deck) (maxL := 5) (ret := (some .int)) (by decide) rfl ?_
  intro p e s m args below meth c s₁ B hml hv
  obtain ⟨rfl, hE, hP, hD⟩ := hv
  have hl := lv_entry ([.ref hF, .int d, .int x]) (n := 5) (Nat.le_of_ble_eq_true rfl)
  rw [lg_entry_eq]
  generalize (lg_sl ([.ref hF, .int d, .int x]) ++ List.replicate (5 - (lg_sl ([.ref hF, .int d, .int x])).length) Slot.unset).toArray = ls at hl ⊢
  exact c_X4_deck_0 l G A hF hVs hDs hB hT hW hEn dd N ad hN ⟨⟨B.exec, B.bytes, hml, findClass_of_methodNamed B.named, atoms_spec (ws := wsX4_deck) B.pre⟩, B.returns, B.notSynchronized⟩ hE d x u hP hD hok va_S.rf hl rfl

-- FerryDecks.told
def f_X4_told (N : Nat) (v : Int32) (x : Int32) (u : FS) : Int64 × FS :=
  (if f_X4_within v (0 : Int32) (nI N - (1 : Int32)) = 0 then ((-9223372036854775808 : Int64), u) else (if x = 0 then (((c_kd u ((v : Int32).toNatClampNeg)) : Int32).toInt64, u) else (if x = 1 then (((c_sz u ((v : Int32).toNatClampNeg)) : Int32).toInt64, u) else (if x = 2 then (((c_ld u ((v : Int32).toNatClampNeg)) : Int32).toInt64, u) else (if x = 3 then (((c_ch u ((v : Int32).toNatClampNeg)) : Int32).toInt64, u) else (if x = 4 then (((c_dk u ((v : Int32).toNatClampNeg)) : Int32).toInt64, u) else (if x = 5 then (((c_mt u ((v : Int32).toNatClampNeg)) : Int32).toInt64, u) else ((-9223372036854775808 : Int64), u))))))))
set_option maxHeartbeats 4000000 in
set_option maxRecDepth 100000 in
theorem c_X4_told_0 {p : Program} {e : Env} {s : State} {m : MethodId} {args : Array Value} {below : List Frame} {meth : Method} {c : Code} (l : Launch) (G : gC) (A : Nat → Prop) (hF hVs hDs hB hT hW hEn : Nat) (dd : Nat → Nat) (N : Nat) (ad : Nat → Nat) (hN : N ≤ 70) (C0 : gX p s m args meth c cX4_told 4 wsX4_told RX4 (some .long)) (hE : gE G A s) (v : Int32) (x : Int32) (u : FS) {H : Heap} {locs : List Loc} (hP : va_P (gD G) vwCl ((c_W G hF hVs hDs hB hT hW hEn dd N ad) u) H) (hD : va_D A ((c_W G hF hVs hDs hB hT hW hEn dd N ad) u)) (hok : c_ok u) (hS : va_S A s.heap H locs) {ls : Array Slot} (hl : lv_has ls 4 [(0, .ref hF), (1, .int v), (2, .int x)]) {fv : Int64 × FS} (hfv : f_X4_told N v x u = fv) : W p l e ({ frames := 2, cells := 0, slots := 0, locals := 43 } : Room) s m args below meth c H locs 0 0 (MQ below (gQl G A (c_W G hF hVs hDs hB hT hW hEn dd N ad) c_ok fv) args s 0 0 A) (F0 m 0 ls []) := by
  obtain ⟨⟨hx, hb, hml, hown, hts⟩, hr, hlk⟩ := id C0
  have hok0 := hok
  have k0 := hts (.constantLong RX4 59 (-9223372036854775808)) (by decide +kernel)
  have k1 := hts (.fieldLink RX4 64 "FerryDecks$Vehicle" "kind" "I") (by decide +kernel)
  have k2 := hts (.fieldLink RX4 127 "FerryDecks$Vehicle" "size" "I") (by decide +kernel)
  have k3 := hts (.fieldLink RX4 130 "FerryDecks$Vehicle" "load" "I") (by decide +kernel)
  have k4 := hts (.fieldLink RX4 133 "FerryDecks$Vehicle" "chains" "I") (by decide +kernel)
  have k5 := hts (.fieldLink RX4 100 "FerryDecks$Vehicle" "deckNumber" "I") (by decide +kernel)
  have k6 := hts (.fieldLink RX4 113 "FerryDecks$Vehicle" "metres" "I") (by decide +kernel)
  have iX3 : ∀ w ∈ wsX30, w ∈ wsX4_told := by decide +kernel
  refine lv_aload_n hx hb dX4_told_0 rfl (lv_at hl 0 rfl) ?_
  refine lv_iload_n hx hb dX4_told_1 rfl (lv_at hl 1 rfl) ?_
  refine gVq (As := [.int v]) (rest := []) ⟨hx, hb, hml, hown, hts⟩ (c_X4_vehicleAt l G A hF hVs hDs hB hT hW hEn dd N ad hN v u) (cwV 1 hts gX4_told_X4_vehicleAt rfl rfl rfl (by decide +kernel) ⟨Nat.le_of_ble_eq_true rfl, Nat.le_of_ble_eq_true rfl⟩) hE hP hD hS (va_recv hE.1 hP (ci := 4) (q0 := 0) rfl rfl) rfl hl.1 rfl (Nat.le_of_ble_eq_true rfl) dX4_told_2 ⟨Nat.zero_le _, Nat.zero_le _⟩ (fun n2 => ?_) (fun a2 n2 => ?_)
  · have c2 := vAt_none hN n2
    refine lv_astore_nN (lv' := [(3, .null), (0, .ref hF), (1, .int v), (2, .int x)]) hx hb dX4_told_5 rfl hl (by decide) rfl (fun ls hl => ?_)
    refine lv_aload_nN hx hb dX4_told_6 rfl (lv_at hl 0 rfl) ?_
    refine lv_ifnonnullN hx hb dX4_told_7 ?_
    refine lv_ldc2 hx hb hown k0 dX4_told_10 ?_
    exact gRl (u := u) hx hb hr hlk hP hD hok hS (by rw [← hfv, f_X4_told, if_pos c2]) dX4_told_13
  · obtain ⟨c2, hjv, rfl⟩ := vAt_some hN n2
    refine lv_astore_n (lv' := [(3, .ref (ad (v : Int32).toNatClampNeg)), (0, .ref hF), (1, .int v), (2, .int x)]) hx hb dX4_told_5 rfl hl (by decide) rfl (fun ls hl => ?_)
    refine lv_aload_n hx hb dX4_told_6 rfl (lv_at hl 0 rfl) ?_
    refine lv_ifnonnull (tgt := 14) hx hb dX4_told_7 (by decide) ?_
    refine lv_iload_n hx hb dX4_told_14 rfl (lv_at hl 3 rfl) ?_
    by_cases c15_0 : x = 0
    · refine gTs (off := 37) (tgt := 52) hx hb dX4_told_15 rfl (by rw [c15_0]; decide) (by decide) ?_
      refine lv_aload_n hx hb dX4_told_52 rfl (lv_at hl 0 rfl) ?_
      refine va_get (D := gD G) (ci := 3) (v := .int (c_kd u ((v : Int32).toNatClampNeg))) (C := RX3) (T := TX3) (N := 6) hx hb hts iX3 hown hE.1 hP (7 + 3 + (v : Int32).toNatClampNeg) (c_getV _ hjv) rfl 0 (by decide) k1 (fun _ h9 => h9) rfl dX4_told_53 ?_
      refine lv_i2l (v := ((c_kd u ((v : Int32).toNatClampNeg)) : Int32).toInt64) hx hb dX4_told_56 rfl ?_
      exact gRl (u := u) hx hb hr hlk hP hD hok hS (by rw [← hfv, f_X4_told, if_neg c2, if_pos c15_0]) dX4_told_57
    by_cases c15_1 : x = 1
    · refine gTs (off := 43) (tgt := 58) hx hb dX4_told_15 rfl (by rw [c15_1]; decide) (by decide) ?_
      refine lv_aload_n hx hb dX4_told_58 rfl (lv_at hl 0 rfl) ?_
      refine va_get (D := gD G) (ci := 3) (v := .int (c_sz u ((v : Int32).toNatClampNeg))) (C := RX3) (T := TX3) (N := 6) hx hb hts iX3 hown hE.1 hP (7 + 3 + (v : Int32).toNatClampNeg) (c_getV _ hjv) rfl 1 (by decide) k2 (fun _ h9 => h9) rfl dX4_told_59 ?_
      refine lv_i2l (v := ((c_sz u ((v : Int32).toNatClampNeg)) : Int32).toInt64) hx hb dX4_told_62 rfl ?_
      exact gRl (u := u) hx hb hr hlk hP hD hok hS (by rw [← hfv, f_X4_told, if_neg c2, if_neg c15_0, if_pos c15_1]) dX4_told_63
    by_cases c15_2 : x = 2
    · refine gTs (off := 49) (tgt := 64) hx hb dX4_told_15 rfl (by rw [c15_2]; decide) (by decide) ?_
      refine lv_aload_n hx hb dX4_told_64 rfl (lv_at hl 0 rfl) ?_
      refine va_get (D := gD G) (ci := 3) (v := .int (c_ld u ((v : Int32).toNatClampNeg))) (C := RX3) (T := TX3) (N := 6) hx hb hts iX3 hown hE.1 hP (7 + 3 + (v : Int32).toNatClampNeg) (c_getV _ hjv) rfl 2 (by decide) k3 (fun _ h9 => h9) rfl dX4_told_65 ?_
      refine lv_i2l (v := ((c_ld u ((v : Int32).toNatClampNeg)) : Int32).toInt64) hx hb dX4_told_68 rfl ?_
      exact gRl (u := u) hx hb hr hlk hP hD hok hS (by rw [← hfv, f_X4_told, if_neg c2, if_neg c15_0, if_neg c15_1, if_pos c15_2]) dX4_told_69
    by_cases c15_3 : x = 3
    · refine gTs (off := 55) (tgt := 70) hx hb dX4_told_15 rfl (by rw [c15_3]; decide) (by decide) ?_
      refine lv_aload_n hx hb dX4_told_70 rfl (lv_at hl 0 rfl) ?_
      refine va_get (D := gD G) (ci := 3) (v := .int (c_ch u ((v : Int32).toNatClampNeg))) (C := RX3) (T := TX3) (N := 6) hx hb hts iX3 hown hE.1 hP (7 + 3 + (v : Int32).toNatClampNeg) (c_getV _ hjv) rfl 3 (by decide) k4 (fun _ h9 => h9) rfl dX4_told_71 ?_
      refine lv_i2l (v := ((c_ch u ((v : Int32).toNatClampNeg)) : Int32).toInt64) hx hb dX4_told_74 rfl ?_
      exact gRl (u := u) hx hb hr hlk hP hD hok hS (by rw [← hfv, f_X4_told, if_neg c2, if_neg c15_0, if_neg c15_1, if_neg c15_2, if_pos c15_3]) dX4_told_75
    by_cases c15_4 : x = 4
    · refine gTs (off := 61) (tgt := 76) hx hb dX4_told_15 rfl (by rw [c15_4]; decide) (by decide) ?_
      refine lv_aload_n hx hb dX4_told_76 rfl (lv_at hl 0 rfl) ?_
      refine va_get (D := gD G) (ci := 3) (v := .int (c_dk u ((v : Int32).toNatClampNeg))) (C := RX3) (T := TX3) (N := 6) hx hb hts iX3 hown hE.1 hP (7 + 3 + (v : Int32).toNatClampNeg) (c_getV _ hjv) rfl 4 (by decide) k5 (fun _ h9 => h9) rfl dX4_told_77 ?_
      refine lv_i2l (v := ((c_dk u ((v : Int32).toNatClampNeg)) : Int32).toInt64) hx hb dX4_told_80 rfl ?_
      exact gRl (u := u) hx hb hr hlk hP hD hok hS (by rw [← hfv, f_X4_told, if_neg c2, if_neg c15_0, if_neg c15_1, if_neg c15_2, if_neg c15_3, if_pos c15_4]) dX4_told_81
    by_cases c15_5 : x = 5
    · refine gTs (off := 67) (tgt := 82) hx hb dX4_told_15 rfl (by rw [c15_5]; decide) (by decide) ?_
      refine lv_aload_n hx hb dX4_told_82 rfl (lv_at hl 0 rfl) ?_
      refine va_get (D := gD G) (ci := 3) (v := .int (c_mt u ((v : Int32).toNatClampNeg))) (C := RX3) (T := TX3) (N := 6) hx hb hts iX3 hown hE.1 hP (7 + 3 + (v : Int32).toNatClampNeg) (c_getV _ hjv) rfl 5 (by decide) k6 (fun _ h9 => h9) rfl dX4_told_83 ?_
      refine lv_i2l (v := ((c_mt u ((v : Int32).toNatClampNeg)) : Int32).toInt64) hx hb dX4_told_86 rfl ?_
      exact gRl (u := u) hx hb hr hlk hP hD hok hS (by rw [← hfv, f_X4_told, if_neg c2, if_neg c15_0, if_neg c15_1, if_neg c15_2, if_neg c15_3, if_neg c15_4, if_pos c15_5]) dX4_told_87
    refine gTs (off := 73) (tgt := 88) hx hb dX4_told_15 rfl (by have z0 := lv_neT (a := 0) c15_0 (by decide); have z1 := lv_neT (a := 1) c15_1 (by decide); have z2 := lv_neT (a := 2) c15_2 (by decide); have z3 := lv_neT (a := 3) c15_3 (by decide); have z4 := lv_neT (a := 4) c15_4 (by decide); have z5 := lv_neT (a := 5) c15_5 (by decide); unfold tsO; by_cases hh : x.toInt < 0 ∨ 5 < x.toInt; (rw [if_pos hh]); (rw [if_neg hh]; omega)) (by decide) ?_
    refine lv_ldc2 hx hb hown k0 dX4_told_88 ?_
    exact gRl (u := u) hx hb hr hlk hP hD hok hS (by rw [← hfv, f_X4_told, if_neg c2, if_neg c15_0, if_neg c15_1, if_neg c15_2, if_neg c15_3, if_neg c15_4, if_neg c15_5]) dX4_told_91
set_option maxHeartbeats 4000000 in
set_option maxRecDepth 100000 in
theorem c_X4_told (l : Launch) (G : gC) (A : Nat → Prop) (hF hVs hDs hB hT hW hEn : Nat) (dd : Nat → Nat) (N : Nat) (ad : Nat → Nat) (hN : N ≤ 70) (v : Int32) (x : Int32) (u : FS) (hok : c_ok u) : CL l yX4_told wsX4_told ({ frames := 2, cells := 0, slots := 0, locals := 43 } : Room) G A (c_W G hF hVs hDs hB hT hW hEn dd N ad) c_ok [.ref hF, .int v, .int x] u (f_X4_told N v x u) := by
  refine Met.ofW (cc := cX4_told) (maxL := 4) (ret := (some .long)) (by decide) rfl ?_
  intro p e s m args below meth c s₁ B hml hv
  obtain ⟨rfl, hE, hP, hD⟩ := hv
  have hl := lv_entry ([.ref hF, .int v, .int x]) (n := 4) (Nat.le_of_ble_eq_true rfl)
  rw [lg_entry_eq]
  generalize (lg_sl ([.ref hF, .int v, .int x]) ++ List.replicate (4 - (lg_sl ([.ref hF, .int v, .int x])).length) Slot.unset).toArray = ls at hl ⊢
  exact c_X4_told_0 l G A hF hVs hDs hB hT hW hEn dd N ad hN ⟨⟨B.exec, B.bytes, hml, findClass_of_methodNamed B.named, atoms_spec (ws := wsX4_told) B.pre⟩, B.returns, B.notSynchronized⟩ hE v x u hP hD hok va_S.rf hl rfl

-- FerryDecks.on
def f_X4_on_k46 (N : Nat) (q46 : Int32 × FS) : Int32 × FS :=
  (q46.1, q46.2)
def f_X4_on (N : Nat) (d : Int32) (x : Int32) (u : FS) : Int32 × FS :=
  (if f_X4_within d (0 : Int32) (2 : Int32) = 0 then ((-1 : Int32), u) else (if x = 0 then (c_dm u ((d : Int32).toNatClampNeg), u) else (if x = 1 then (f_X4_on_k46 N (f_X1_left N ((d : Int32).toNatClampNeg) u)) else (if x = 2 then (c_vo u ((d : Int32).toNatClampNeg), u) else ((-1 : Int32), u)))))
set_option maxHeartbeats 4000000 in
set_option maxRecDepth 100000 in
theorem c_X4_on_0 {p : Program} {e : Env} {s : State} {m : MethodId} {args : Array Value} {below : List Frame} {meth : Method} {c : Code} (l : Launch) (G : gC) (A : Nat → Prop) (hF hVs hDs hB hT hW hEn : Nat) (dd : Nat → Nat) (N : Nat) (ad : Nat → Nat) (hN : N ≤ 70) (C0 : gX p s m args meth c cX4_on 4 wsX4_on RX4 (some .int)) (hE : gE G A s) (d : Int32) (x : Int32) (u : FS) {H : Heap} {locs : List Loc} (hP : va_P (gD G) vwCl ((c_W G hF hVs hDs hB hT hW hEn dd N ad) u) H) (hD : va_D A ((c_W G hF hVs hDs hB hT hW hEn dd N ad) u)) (hok : c_ok u) (hS : va_S A s.heap H locs) {ls : Array Slot} (hl : lv_has ls 4 [(0, .ref hF), (1, .int d), (2, .int x)]) {fv : Int32 × FS} (hfv : f_X4_on N d x u = fv) : W p l e ({ frames := 2, cells := 0, slots := 0, locals := 43 } : Room) s m args below meth c H locs 0 0 (MQ below (gQi G A (c_W G hF hVs hDs hB hT hW hEn dd N ad) c_ok fv) args s 0 0 A) (F0 m 0 ls []) := by
  obtain ⟨⟨hx, hb, hml, hown, hts⟩, hr, hlk⟩ := id C0
  have hok0 := hok
  have k0 := hts (.fieldLink RX4 45 "FerryDecks$Deck" "metres" "I") (by decide +kernel)
  have k1 := hts (.fieldLink RX4 136 "FerryDecks$Deck" "vehiclesOn" "I") (by decide +kernel)
  have iX1 : ∀ w ∈ wsX10, w ∈ wsX4_on := by decide +kernel
  refine lv_aload_n hx hb dX4_on_0 rfl (lv_at hl 0 rfl) ?_
  refine lv_iload_n hx hb dX4_on_1 rfl (lv_at hl 1 rfl) ?_
  refine gVq (As := [.int d]) (rest := []) ⟨hx, hb, hml, hown, hts⟩ (c_X4_deckAt l G A hF hVs hDs hB hT hW hEn dd N ad hN d u) (cwV 1 hts gX4_on_X4_deckAt rfl rfl rfl (by decide +kernel) ⟨Nat.le_of_ble_eq_true rfl, Nat.le_of_ble_eq_true rfl⟩) hE hP hD hS (va_recv hE.1 hP (ci := 4) (q0 := 0) rfl rfl) rfl hl.1 rfl (Nat.le_of_ble_eq_true rfl) dX4_on_2 ⟨Nat.zero_le _, Nat.zero_le _⟩ (fun n2 => ?_) (fun a2 n2 => ?_)
  · have c2 := dAt_none n2
    refine lv_astore_nN (lv' := [(3, .null), (0, .ref hF), (1, .int d), (2, .int x)]) hx hb dX4_on_5 rfl hl (by decide) rfl (fun ls hl => ?_)
    refine lv_aload_nN hx hb dX4_on_6 rfl (lv_at hl 0 rfl) ?_
    refine lv_ifnonnullN hx hb dX4_on_7 ?_
    refine lv_iconst (v := -1) hx hb dX4_on_10 (by decide) ?_
    exact gRi (u := u) hx hb hr hlk hP hD hok hS (by rw [← hfv, f_X4_on, if_pos c2]) dX4_on_11
  · obtain ⟨c2, hjd, rfl⟩ := dAt_some n2
    refine lv_astore_n (lv' := [(3, .ref (dd (d : Int32).toNatClampNeg)), (0, .ref hF), (1, .int d), (2, .int x)]) hx hb dX4_on_5 rfl hl (by decide) rfl (fun ls hl => ?_)
    refine lv_aload_n hx hb dX4_on_6 rfl (lv_at hl 0 rfl) ?_
    refine lv_ifnonnull (tgt := 12) hx hb dX4_on_7 (by decide) ?_
    refine lv_iload_n hx hb dX4_on_12 rfl (lv_at hl 3 rfl) ?_
    by_cases c13_0 : x = 0
    · refine gTs (off := 27) (tgt := 40) hx hb dX4_on_13 rfl (by rw [c13_0]; decide) (by decide) ?_
      refine lv_aload_n hx hb dX4_on_40 rfl (lv_at hl 0 rfl) ?_
      refine va_get (D := gD G) (ci := 1) (v := .int (c_dm u ((d : Int32).toNatClampNeg))) (C := RX1) (T := TX1) (N := 3) hx hb hts iX1 hown hE.1 hP (7 + (d : Int32).toNatClampNeg) (c_getD _ hjd) rfl 0 (by decide) k0 (fun _ h9 => h9) rfl dX4_on_41 ?_
      exact gRi (u := u) hx hb hr hlk hP hD hok hS (by rw [← hfv, f_X4_on, if_neg c2, if_pos c13_0]) dX4_on_44
    by_cases c13_1 : x = 1
    · refine gTs (off := 32) (tgt := 45) hx hb dX4_on_13 rfl (by rw [c13_1]; decide) (by decide) ?_
      refine lv_aload_n hx hb dX4_on_45 rfl (lv_at hl 0 rfl) ?_
      refine gVi (u := u) (Wd := (c_W G hF hVs hDs hB hT hW hEn dd N ad)) (ok := c_ok) (As := []) (rest := []) ⟨hx, hb, hml, hown, hts⟩ (c_X1_left l G A hF hVs hDs hB hT hW hEn dd N ad hN ((d : Int32).toNatClampNeg) hjd u hok) (cwV 0 hts gX4_on_X1_left rfl rfl rfl (by decide +kernel) ⟨Nat.le_of_ble_eq_true rfl, Nat.le_of_ble_eq_true rfl⟩) hE hP hD hS (va_recv hE.1 hP (ci := 1) (q0 := (7 + (d : Int32).toNatClampNeg)) rfl (c_getD _ hjd)) rfl hl.1 rfl (Nat.le_of_ble_eq_true rfl) dX4_on_46 ⟨Nat.zero_le _, Nat.zero_le _⟩ (fun q46 H locs e46 hP hD hok hS => ?_)
      exact gRi (u := q46.2) hx hb hr hlk hP hD hok hS (by rw [← hfv, f_X4_on, if_neg c2, if_neg c13_0, if_pos c13_1, ← e46, f_X4_on_k46]) dX4_on_49
    by_cases c13_2 : x = 2
    · refine gTs (off := 37) (tgt := 50) hx hb dX4_on_13 rfl (by rw [c13_2]; decide) (by decide) ?_
      refine lv_aload_n hx hb dX4_on_50 rfl (lv_at hl 0 rfl) ?_
      refine va_get (D := gD G) (ci := 1) (v := .int (c_vo u ((d : Int32).toNatClampNeg))) (C := RX1) (T := TX1) (N := 3) hx hb hts iX1 hown hE.1 hP (7 + (d : Int32).toNatClampNeg) (c_getD _ hjd) rfl 2 (by decide) k1 (fun _ h9 => h9) rfl dX4_on_51 ?_
      exact gRi (u := u) hx hb hr hlk hP hD hok hS (by rw [← hfv, f_X4_on, if_neg c2, if_neg c13_0, if_neg c13_1, if_pos c13_2]) dX4_on_54
    refine gTs (off := 42) (tgt := 55) hx hb dX4_on_13 rfl (by have z0 := lv_neT (a := 0) c13_0 (by decide); have z1 := lv_neT (a := 1) c13_1 (by decide); have z2 := lv_neT (a := 2) c13_2 (by decide); unfold tsO; by_cases hh : x.toInt < 0 ∨ 2 < x.toInt; (rw [if_pos hh]); (rw [if_neg hh]; omega)) (by decide) ?_
    refine lv_iconst (v := -1) hx hb dX4_on_55 (by decide) ?_
    exact gRi (u := u) hx hb hr hlk hP hD hok hS (by rw [← hfv, f_X4_on, if_neg c2, if_neg c13_0, if_neg c13_1, if_neg c13_2]) dX4_on_56
set_option maxHeartbeats 4000000 in
set_option maxRecDepth 100000 in
theorem c_X4_on (l : Launch) (G : gC) (A : Nat → Prop) (hF hVs hDs hB hT hW hEn : Nat) (dd : Nat → Nat) (N : Nat) (ad : Nat → Nat) (hN : N ≤ 70) (d : Int32) (x : Int32) (u : FS) (hok : c_ok u) : CI l yX4_on wsX4_on ({ frames := 2, cells := 0, slots := 0, locals := 43 } : Room) G A (c_W G hF hVs hDs hB hT hW hEn dd N ad) c_ok [.ref hF, .int d, .int x] u (f_X4_on N d x u) := by
  refine Met.ofW (cc := cX4_on) (maxL := 4) (ret := (some .int)) (by decide) rfl ?_
  intro p e s m args below meth c s₁ B hml hv
  obtain ⟨rfl, hE, hP, hD⟩ := hv
  have hl := lv_entry ([.ref hF, .int d, .int x]) (n := 4) (Nat.le_of_ble_eq_true rfl)
  rw [lg_entry_eq]
  generalize (lg_sl ([.ref hF, .int d, .int x]) ++ List.replicate (4 - (lg_sl ([.ref hF, .int d, .int x])).length) Slot.unset).toArray = ls at hl ⊢
  exact c_X4_on_0 l G A hF hVs hDs hB hT hW hEn dd N ad hN ⟨⟨B.exec, B.bytes, hml, findClass_of_methodNamed B.named, atoms_spec (ws := wsX4_on) B.pre⟩, B.returns, B.notSynchronized⟩ hE d x u hP hD hok va_S.rf hl rfl

-- FerryDecks.leave
def f_X4_leave_k41 (N : Nat) (q41 : Int32 × FS) : Int32 × FS :=
  (q41.1, q41.2)
def f_X4_leave_k37 (N : Nat) (v : Int32) (u : FS) (q37 : FS) : Int32 × FS :=
  (f_X4_leave_k41 N (f_X1_left N (((c_dk u ((v : Int32).toNatClampNeg)) : Int32).toNatClampNeg) q37))
def f_X4_leave_k33 (N : Nat) (v : Int32) (u : FS) (q33 : FS) : Int32 × FS :=
  (f_X4_leave_k37 N v u (f_X3_goAshore N ((v : Int32).toNatClampNeg) q33))
def f_X4_leave (N : Nat) (v : Int32) (u : FS) : Int32 × FS :=
  (if f_X4_within v (0 : Int32) (nI N - (1 : Int32)) = 0 then ((-1 : Int32), u) else (if f_X4_within (c_dk u ((v : Int32).toNatClampNeg)) (0 : Int32) (2 : Int32) = 0 then ((-3 : Int32), u) else (f_X4_leave_k33 N v u (f_X1_release N (((c_dk u ((v : Int32).toNatClampNeg)) : Int32).toNatClampNeg) (c_mt u ((v : Int32).toNatClampNeg)) u))))
set_option maxHeartbeats 4000000 in
set_option maxRecDepth 100000 in
theorem c_X4_leave_0 {p : Program} {e : Env} {s : State} {m : MethodId} {args : Array Value} {below : List Frame} {meth : Method} {c : Code} (l : Launch) (G : gC) (A : Nat → Prop) (hF hVs hDs hB hT hW hEn : Nat) (dd : Nat → Nat) (N : Nat) (ad : Nat → Nat) (hN : N ≤ 70) (C0 : gX p s m args meth c cX4_leave 4 wsX4_leave RX4 (some .int)) (hE : gE G A s) (v : Int32) (u : FS) {H : Heap} {locs : List Loc} (hP : va_P (gD G) vwCl ((c_W G hF hVs hDs hB hT hW hEn dd N ad) u) H) (hD : va_D A ((c_W G hF hVs hDs hB hT hW hEn dd N ad) u)) (hok : c_ok u) (hS : va_S A s.heap H locs) {ls : Array Slot} (hl : lv_has ls 4 [(0, .ref hF), (1, .int v)]) {fv : Int32 × FS} (hfv : f_X4_leave N v u = fv) : W p l e ({ frames := 2, cells := 0, slots := 0, locals := 43 } : Room) s m args below meth c H locs 0 0 (MQ below (gQi G A (c_W G hF hVs hDs hB hT hW hEn dd N ad) c_ok fv) args s 0 0 A) (F0 m 0 ls []) := by
  obtain ⟨⟨hx, hb, hml, hown, hts⟩, hr, hlk⟩ := id C0
  have hok0 := hok
  have k0 := hts (.fieldLink RX4 100 "FerryDecks$Vehicle" "deckNumber" "I") (by decide +kernel)
  have k1 := hts (.fieldLink RX4 113 "FerryDecks$Vehicle" "metres" "I") (by decide +kernel)
  have iX3 : ∀ w ∈ wsX30, w ∈ wsX4_leave := by decide +kernel
  refine lv_aload_n hx hb dX4_leave_0 rfl (lv_at hl 0 rfl) ?_
  refine lv_iload_n hx hb dX4_leave_1 rfl (lv_at hl 1 rfl) ?_
  refine gVq (As := [.int v]) (rest := []) ⟨hx, hb, hml, hown, hts⟩ (c_X4_vehicleAt l G A hF hVs hDs hB hT hW hEn dd N ad hN v u) (cwV 1 hts gX4_leave_X4_vehicleAt rfl rfl rfl (by decide +kernel) ⟨Nat.le_of_ble_eq_true rfl, Nat.le_of_ble_eq_true rfl⟩) hE hP hD hS (va_recv hE.1 hP (ci := 4) (q0 := 0) rfl rfl) rfl hl.1 rfl (Nat.le_of_ble_eq_true rfl) dX4_leave_2 ⟨Nat.zero_le _, Nat.zero_le _⟩ (fun n2 => ?_) (fun a2 n2 => ?_)
  · have c2 := vAt_none hN n2
    refine lv_astore_nN (lv' := [(2, .null), (0, .ref hF), (1, .int v)]) hx hb dX4_leave_5 rfl hl (by decide) rfl (fun ls hl => ?_)
    refine lv_aload_nN hx hb dX4_leave_6 rfl (lv_at hl 0 rfl) ?_
    refine lv_ifnonnullN hx hb dX4_leave_7 ?_
    refine lv_iconst (v := -1) hx hb dX4_leave_10 (by decide) ?_
    exact gRi (u := u) hx hb hr hlk hP hD hok hS (by rw [← hfv, f_X4_leave, if_pos c2]) dX4_leave_11
  · obtain ⟨c2, hjv, rfl⟩ := vAt_some hN n2
    refine lv_astore_n (lv' := [(2, .ref (ad (v : Int32).toNatClampNeg)), (0, .ref hF), (1, .int v)]) hx hb dX4_leave_5 rfl hl (by decide) rfl (fun ls hl => ?_)
    refine lv_aload_n hx hb dX4_leave_6 rfl (lv_at hl 0 rfl) ?_
    refine lv_ifnonnull (tgt := 12) hx hb dX4_leave_7 (by decide) ?_
    refine lv_aload_n hx hb dX4_leave_12 rfl (lv_at hl 1 rfl) ?_
    refine lv_aload_n hx hb dX4_leave_13 rfl (lv_at hl 0 rfl) ?_
    refine va_get (D := gD G) (ci := 3) (v := .int (c_dk u ((v : Int32).toNatClampNeg))) (C := RX3) (T := TX3) (N := 6) hx hb hts iX3 hown hE.1 hP (7 + 3 + (v : Int32).toNatClampNeg) (c_getV _ hjv) rfl 4 (by decide) k0 (fun _ h9 => h9) rfl dX4_leave_14 ?_
    refine gVq (As := [.int (c_dk u ((v : Int32).toNatClampNeg))]) (rest := []) ⟨hx, hb, hml, hown, hts⟩ (c_X4_deckAt l G A hF hVs hDs hB hT hW hEn dd N ad hN (c_dk u ((v : Int32).toNatClampNeg)) u) (cwV 1 hts gX4_leave_X4_deckAt rfl rfl rfl (by decide +kernel) ⟨Nat.le_of_ble_eq_true rfl, Nat.le_of_ble_eq_true rfl⟩) hE hP hD hS (va_recv hE.1 hP (ci := 4) (q0 := 0) rfl rfl) rfl hl.1 rfl (Nat.le_of_ble_eq_true rfl) dX4_leave_17 ⟨Nat.zero_le _, Nat.zero_le _⟩ (fun n17 => ?_) (fun a17 n17 => ?_)
    · have c17 := dAt_none n17
      refine lv_astore_nN (lv' := [(3, .null), (2, .ref (ad (v : Int32).toNatClampNeg)), (0, .ref hF), (1, .int v)]) hx hb dX4_leave_20 rfl hl (by decide) rfl (fun ls hl => ?_)
      refine lv_aload_nN hx hb dX4_leave_21 rfl (lv_at hl 0 rfl) ?_
      refine lv_ifnonnullN hx hb dX4_leave_22 ?_
      refine lv_bipush (v := -3) hx hb dX4_leave_25 (by decide) ?_
      exact gRi (u := u) hx hb hr hlk hP hD hok hS (by rw [← hfv, f_X4_leave, if_neg c2, if_pos c17]) dX4_leave_27
    · obtain ⟨c17, hjd, rfl⟩ := dAt_some n17
      refine lv_astore_n (lv' := [(3, .ref (dd ((c_dk u ((v : Int32).toNatClampNeg)) : Int32).toNatClampNeg)), (2, .ref (ad (v : Int32).toNatClampNeg)), (0, .ref hF), (1, .int v)]) hx hb dX4_leave_20 rfl hl (by decide) rfl (fun ls hl => ?_)
      refine lv_aload_n hx hb dX4_leave_21 rfl (lv_at hl 0 rfl) ?_
      refine lv_ifnonnull (tgt := 28) hx hb dX4_leave_22 (by decide) ?_
      refine lv_aload_n hx hb dX4_leave_28 rfl (lv_at hl 0 rfl) ?_
      refine lv_aload_n hx hb dX4_leave_29 rfl (lv_at hl 1 rfl) ?_
      refine va_get (D := gD G) (ci := 3) (v := .int (c_mt u ((v : Int32).toNatClampNeg))) (C := RX3) (T := TX3) (N := 6) hx hb hts iX3 hown hE.1 hP (7 + 3 + (v : Int32).toNatClampNeg) (c_getV _ hjv) rfl 5 (by decide) k1 (fun _ h9 => h9) rfl dX4_leave_30 ?_
      refine gVv (u := u) (Wd := (c_W G hF hVs hDs hB hT hW hEn dd N ad)) (ok := c_ok) (As := [.int (c_mt u ((v : Int32).toNatClampNeg))]) (rest := []) ⟨hx, hb, hml, hown, hts⟩ (c_X1_release l G A hF hVs hDs hB hT hW hEn dd N ad hN (((c_dk u ((v : Int32).toNatClampNeg)) : Int32).toNatClampNeg) hjd (c_mt u ((v : Int32).toNatClampNeg)) u hok) (cwV 1 hts gX4_leave_X1_release rfl rfl rfl (by decide +kernel) ⟨Nat.le_of_ble_eq_true rfl, Nat.le_of_ble_eq_true rfl⟩) hE hP hD hS (va_recv hE.1 hP (ci := 1) (q0 := (7 + ((c_dk u ((v : Int32).toNatClampNeg)) : Int32).toNatClampNeg)) rfl (c_getD _ hjd)) rfl hl.1 rfl (Nat.le_of_ble_eq_true rfl) dX4_leave_33 ⟨Nat.zero_le _, Nat.zero_le _⟩ (fun q33 H locs e33 hP hD hok hS => ?_)
      refine lv_aload_n hx hb dX4_leave_36 rfl (lv_at hl 1 rfl) ?_
      refine gVv (u := q33) (Wd := (c_W G hF hVs hDs hB hT hW hEn dd N ad)) (ok := c_ok) (As := []) (rest := []) ⟨hx, hb, hml, hown, hts⟩ (c_X3_goAshore l G A hF hVs hDs hB hT hW hEn dd N ad hN ((v : Int32).toNatClampNeg) hjv q33 hok) (cwV 0 hts gX4_leave_X3_goAshore rfl rfl rfl (by decide +kernel) ⟨Nat.le_of_ble_eq_true rfl, Nat.le_of_ble_eq_true rfl⟩) hE hP hD hS (va_recv hE.1 hP (ci := 3) (q0 := (7 + 3 + (v : Int32).toNatClampNeg)) rfl (c_getV _ hjv)) rfl hl.1 rfl (Nat.le_of_ble_eq_true rfl) dX4_leave_37 ⟨Nat.zero_le _, Nat.zero_le _⟩ (fun q37 H locs e37 hP hD hok hS => ?_)
      refine lv_aload_n hx hb dX4_leave_40 rfl (lv_at hl 0 rfl) ?_
      refine gVi (u := q37) (Wd := (c_W G hF hVs hDs hB hT hW hEn dd N ad)) (ok := c_ok) (As := []) (rest := []) ⟨hx, hb, hml, hown, hts⟩ (c_X1_left l G A hF hVs hDs hB hT hW hEn dd N ad hN (((c_dk u ((v : Int32).toNatClampNeg)) : Int32).toNatClampNeg) hjd q37 hok) (cwV 0 hts gX4_leave_X1_left rfl rfl rfl (by decide +kernel) ⟨Nat.le_of_ble_eq_true rfl, Nat.le_of_ble_eq_true rfl⟩) hE hP hD hS (va_recv hE.1 hP (ci := 1) (q0 := (7 + ((c_dk u ((v : Int32).toNatClampNeg)) : Int32).toNatClampNeg)) rfl (c_getD _ hjd)) rfl hl.1 rfl (Nat.le_of_ble_eq_true rfl) dX4_leave_41 ⟨Nat.zero_le _, Nat.zero_le _⟩ (fun q41 H locs e41 hP hD hok hS => ?_)
      exact gRi (u := q41.2) hx hb hr hlk hP hD hok hS (by rw [← hfv, f_X4_leave, if_neg c2, if_neg c17, ← e33, f_X4_leave_k33, ← e37, f_X4_leave_k37, ← e41, f_X4_leave_k41]) dX4_leave_44
set_option maxHeartbeats 4000000 in
set_option maxRecDepth 100000 in
theorem c_X4_leave (l : Launch) (G : gC) (A : Nat → Prop) (hF hVs hDs hB hT hW hEn : Nat) (dd : Nat → Nat) (N : Nat) (ad : Nat → Nat) (hN : N ≤ 70) (v : Int32) (u : FS) (hok : c_ok u) : CI l yX4_leave wsX4_leave ({ frames := 2, cells := 0, slots := 0, locals := 43 } : Room) G A (c_W G hF hVs hDs hB hT hW hEn dd N ad) c_ok [.ref hF, .int v] u (f_X4_leave N v u) := by
  refine Met.ofW (cc := cX4_leave) (maxL := 4) (ret := (some .int)) (by decide) rfl ?_
  intro p e s m args below meth c s₁ B hml hv
  obtain ⟨rfl, hE, hP, hD⟩ := hv
  have hl := lv_entry ([.ref hF, .int v]) (n := 4) (Nat.le_of_ble_eq_true rfl)
  rw [lg_entry_eq]
  generalize (lg_sl ([.ref hF, .int v]) ++ List.replicate (4 - (lg_sl ([.ref hF, .int v])).length) Slot.unset).toArray = ls at hl ⊢
  exact c_X4_leave_0 l G A hF hVs hDs hB hT hW hEn dd N ad hN ⟨⟨B.exec, B.bytes, hml, findClass_of_methodNamed B.named, atoms_spec (ws := wsX4_leave) B.pre⟩, B.returns, B.notSynchronized⟩ hE v u hP hD hok va_S.rf hl rfl
