section CANS
variable {p : Program} {l : Launch} {e : Env} {R : Room} {s : State} {m : MethodId} {args : Array Value} {below : List Frame} {meth : Method} {c : Code} {H : Heap} {locs : List Loc} {cells slots : Nat} {Q : State → Prop}
variable {pc : Nat} {ls : Array Slot} {rest st : List Value} {G : gC} {A : Nat → Prop} {hF hVs hDs hB hT hW hEn : Nat} {dd : Nat → Nat} {N : Nat} {ad : Nat → Nat}
variable {cc : ByteArray} {nL index : Nat} {Ts : List Cond} {own : String}
/-- Bodies.answer, called with the class's whole world -/
theorem gAi {u : FS} {j : Nat} {mb n : Int32} (F : CallFix p m c cc nL s args Ts own) (hj : j < N) (cw : CallW R s args own RX0 index yX0_answer cX0_answer 4 (some .int) wsX0_answer ({ frames := 89, cells := 0, slots := 0, locals := 2606 } : Room) 0 0 3) (hE : gE G A s) (hP : va_P (gD G) vwCl (c_W G hF hVs hDs hB hT hW hEn dd N ad u) H) (hD : va_D A (c_W G hF hVs hDs hB hT hW hEn dd N ad u)) (hok : c_ok u) (hS : va_S A s.heap H locs) (hsz : ls.size = nL) (hst : st = .int n :: .int mb :: .ref (ad j) :: .ref hB :: rest) (hW0 : (rest.map fun v => v.category).sum ≤ 8) (hdg : decode cc pc = .ok (.invokevirtual index, 3)) (hf : cells ≤ R.cells ∧ slots ≤ R.slots)
    (kk : ∀ (q : Int32 × BS) (H1 : Heap) (locs1 : List Loc), q = f_X0_answer mb n (toB u j) → va_P (gD G) vwCl (c_W G hF hVs hDs hB hT hW hEn dd N ad (frB u j q.2)) H1 → va_D A (c_W G hF hVs hDs hB hT hW hEn dd N ad (frB u j q.2)) → c_ok (frB u j q.2) → va_S A s.heap H1 locs1 → W p l e R s m args below meth c H1 locs1 cells slots Q (F0 m (pc + 3) ls (.int q.1 :: rest))) : W p l e R s m args below meth c H locs cells slots Q (F0 m pc ls st) := by
  have hPB := b_P hj hP
  have hDB := b_D hj hD
  have hAB := b_A hj hD
  refine va_calli (va_runV (As := [.ref (ad j), .int mb, .int n]) (rest := rest) F (c_X0_answer l G (bA hB hT hW hEn (ad j)) hB hT hW hEn (ad j) mb n (toB u j) hok) cw ⟨gP.blind, va_recv hE.1 hP (ci := 0) (q0 := 3) rfl rfl, fun U hU hW1 => ⟨rfl, hE.to hS hAB hU hW1, by rw [hU]; exact hPB, hDB⟩⟩ rfl rfl hsz hst (lv_room hW0) hdg hf) hS (fun q _ h => hAB q h) hAB (fun r u' t H1 locs1 ht _ hp hB1 _ hk1 hS1 => ?_)
  exact kk (r, u') H1 locs1 hp (c_back hj hP hD hk1 (by rw [← ht]; exact hB1.1)) (c_D _ hD) hB1.2.2 hS1
end CANS
theorem wi_nar {q a b d : Int32} (e : q = f_X4_within a b d) : narrow .boolean (.int q) = .int q := by
  rw [e, within_iff]
  split <;> decide
theorem teIn {x z : Int32} (hz : 0 ≤ z ∧ z ≤ 400) (h : ¬ f_X4_within x 0 (z - 1) = 0) : vp_in x 400 :=
  inN (N := 399) (m_zle hz) (by omega) (by omega) (within_of h)
-- FerryDecks$Deck.left
def f_X1_left (N : Nat) (jd : Nat) (u : FS) : Int32 × FS :=
  ((c_dm u jd) - (c_tk u jd), u)
set_option maxHeartbeats 4000000 in
set_option maxRecDepth 100000 in
theorem c_X1_left_0 {p : Program} {e : Env} {s : State} {m : MethodId} {args : Array Value} {below : List Frame} {meth : Method} {c : Code} (l : Launch) (G : gC) (A : Nat → Prop) (hF hVs hDs hB hT hW hEn : Nat) (dd : Nat → Nat) (N : Nat) (ad : Nat → Nat) (hN : N ≤ 70) (jd : Nat) (hjd : jd < 3) (C0 : gX p s m args meth c cX1_left 1 wsX1_left RX1 (some .int)) (hE : gE G A s) (u : FS) {H : Heap} {locs : List Loc} (hP : va_P (gD G) vwCl ((c_W G hF hVs hDs hB hT hW hEn dd N ad) u) H) (hD : va_D A ((c_W G hF hVs hDs hB hT hW hEn dd N ad) u)) (hok : c_ok u) (hS : va_S A s.heap H locs) {ls : Array Slot} (hl : lv_has ls 1 [(0, .ref (dd jd))]) {fv : Int32 × FS} (hfv : f_X1_left N jd u = fv) : W p l e ({ frames := 0, cells := 0, slots := 0, locals := 0 } : Room) s m args below meth c H locs 0 0 (MQ below (gQi G A (c_W G hF hVs hDs hB hT hW hEn dd N ad) c_ok fv) args s 0 0 A) (F0 m 0 ls []) := by
  obtain ⟨⟨hx, hb, hml, hown, hts⟩, hr, hlk⟩ := id C0
  have hok0 := hok
  have k0 := hts (.fieldLink RX1 7 "FerryDecks$Deck" "metres" "I") (by decide +kernel)
  have k1 := hts (.fieldLink RX1 13 "FerryDecks$Deck" "taken" "I") (by decide +kernel)
  have iX1 : ∀ w ∈ wsX10, w ∈ wsX1_left := by decide +kernel
  refine lv_aload_n hx hb dX1_left_0 rfl (lv_at hl 0 rfl) ?_
  refine va_get (D := gD G) (ci := 1) (v := .int (c_dm u jd)) (C := RX1) (T := TX1) (N := 3) hx hb hts iX1 hown hE.1 hP (7 + jd) (c_getD _ hjd) rfl 0 (by decide) k0 (fun _ h9 => h9) rfl dX1_left_1 ?_
  refine lv_aload_n hx hb dX1_left_4 rfl (lv_at hl 0 rfl) ?_
  refine va_get (D := gD G) (ci := 1) (v := .int (c_tk u jd)) (C := RX1) (T := TX1) (N := 3) hx hb hts iX1 hown hE.1 hP (7 + jd) (c_getD _ hjd) rfl 1 (by decide) k1 (fun _ h9 => h9) rfl dX1_left_5 ?_
  refine lv_isub hx hb dX1_left_8 ?_
  exact gRi (u := u) hx hb hr hlk hP hD hok hS (by rw [← hfv, f_X1_left]) dX1_left_9
set_option maxHeartbeats 4000000 in
set_option maxRecDepth 100000 in
theorem c_X1_left (l : Launch) (G : gC) (A : Nat → Prop) (hF hVs hDs hB hT hW hEn : Nat) (dd : Nat → Nat) (N : Nat) (ad : Nat → Nat) (hN : N ≤ 70) (jd : Nat) (hjd : jd < 3) (u : FS) (hok : c_ok u) : CI l yX1_left wsX1_left ({ frames := 0, cells := 0, slots := 0, locals := 0 } : Room) G A (c_W G hF hVs hDs hB hT hW hEn dd N ad) c_ok [.ref (dd jd)] u (f_X1_left N jd u) := by
  refine Met.ofW (cc := cX1_left) (maxL := 1) (ret := (some .int)) (by decide) rfl ?_
  intro p e s m args below meth c s₁ B hml hv
  obtain ⟨rfl, hE, hP, hD⟩ := hv
  have hl := lv_entry ([.ref (dd jd)]) (n := 1) (Nat.le_of_ble_eq_true rfl)
  rw [lg_entry_eq]
  generalize (lg_sl ([.ref (dd jd)]) ++ List.replicate (1 - (lg_sl ([.ref (dd jd)])).length) Slot.unset).toArray = ls at hl ⊢
  exact c_X1_left_0 l G A hF hVs hDs hB hT hW hEn dd N ad hN jd hjd ⟨⟨B.exec, B.bytes, hml, findClass_of_methodNamed B.named, atoms_spec (ws := wsX1_left) B.pre⟩, B.returns, B.notSynchronized⟩ hE u hP hD hok va_S.rf hl rfl

-- FerryDecks$Deck.receive
def f_X1_receive_w17 (N : Nat) (jd : Nat) (w17 : FS) : FS :=
  w17
def f_X1_receive_w7 (N : Nat) (jd : Nat) (w7 : FS) : FS :=
  (f_X1_receive_w17 N jd (c_s_vo w7 (upd (c_vo w7) jd ((c_vo w7 jd) + (1 : Int32)))))
def f_X1_receive (N : Nat) (jd : Nat) (x : Int32) (u : FS) : FS :=
  (f_X1_receive_w7 N jd (c_s_tk u (upd (c_tk u) jd ((c_tk u jd) + x))))
set_option maxHeartbeats 4000000 in
set_option maxRecDepth 100000 in
theorem c_X1_receive_0 {p : Program} {e : Env} {s : State} {m : MethodId} {args : Array Value} {below : List Frame} {meth : Method} {c : Code} (l : Launch) (G : gC) (A : Nat → Prop) (hF hVs hDs hB hT hW hEn : Nat) (dd : Nat → Nat) (N : Nat) (ad : Nat → Nat) (hN : N ≤ 70) (jd : Nat) (hjd : jd < 3) (C0 : gX p s m args meth c cX1_receive 2 wsX1_receive RX1 none) (hE : gE G A s) (x : Int32) (u : FS) {H : Heap} {locs : List Loc} (hP : va_P (gD G) vwCl ((c_W G hF hVs hDs hB hT hW hEn dd N ad) u) H) (hD : va_D A ((c_W G hF hVs hDs hB hT hW hEn dd N ad) u)) (hok : c_ok u) (hS : va_S A s.heap H locs) {ls : Array Slot} (hl : lv_has ls 2 [(0, .ref (dd jd)), (1, .int x)]) {fv : FS} (hfv : f_X1_receive N jd x u = fv) : W p l e ({ frames := 0, cells := 0, slots := 0, locals := 0 } : Room) s m args below meth c H locs 0 0 (MQ below (gQv G A (c_W G hF hVs hDs hB hT hW hEn dd N ad) c_ok fv) args s 0 0 A) (F0 m 0 ls []) := by
  obtain ⟨⟨hx, hb, hml, hown, hts⟩, hr, hlk⟩ := id C0
  have hok0 := hok
  have k0 := hts (.fieldLink RX1 13 "FerryDecks$Deck" "taken" "I") (by decide +kernel)
  have k1 := hts (.fieldLink RX1 16 "FerryDecks$Deck" "vehiclesOn" "I") (by decide +kernel)
  have iX1 : ∀ w ∈ wsX10, w ∈ wsX1_receive := by decide +kernel
  refine lv_aload_n hx hb dX1_receive_0 rfl (lv_at hl 0 rfl) ?_
  refine lv_dup hx hb dX1_receive_1 rfl ?_
  refine va_get (D := gD G) (ci := 1) (v := .int (c_tk u jd)) (C := RX1) (T := TX1) (N := 3) hx hb hts iX1 hown hE.1 hP (7 + jd) (c_getD _ hjd) rfl 1 (by decide) k0 (fun _ h9 => h9) rfl dX1_receive_2 ?_
  refine lv_iload_n hx hb dX1_receive_5 rfl (lv_at hl 1 rfl) ?_
  refine lv_iadd hx hb dX1_receive_6 ?_
  refine va_put (D := gD G) (ci := 1) (v := .int ((c_tk u jd) + x)) (ty := .int) (C := RX1) (T := TX1) (N := 3) hx hb hts iX1 tyX1 tyX1_ok nmX1 hown hE.1 hP hD hS (7 + jd) (c_getD _ hjd) rfl 1 (by decide) k0 (fun _ h9 => h9) rfl (by decide +kernel) rfl rfl (Nat.le_of_ble_eq_true rfl) dX1_receive_7 (fun H locs hP hD hS => ?_)
  obtain ⟨w7, ew7⟩ : ∃ z : FS, z = c_s_tk u (upd (c_tk u) jd ((c_tk u jd) + x)) := ⟨_, rfl⟩
  have hP : va_P (gD G) vwCl ((c_W G hF hVs hDs hB hT hW hEn dd N ad) w7) H := by rw [ew7, ← c_setD_tk u hjd ((c_tk u jd) + x)]; exact hP
  have hD : va_D A ((c_W G hF hVs hDs hB hT hW hEn dd N ad) w7) := by rw [ew7, ← c_setD_tk u hjd ((c_tk u jd) + x)]; exact hD
  have hok : c_ok w7 := by rw [ew7]; exact hok
  refine lv_aload_n hx hb dX1_receive_10 rfl (lv_at hl 0 rfl) ?_
  refine lv_dup hx hb dX1_receive_11 rfl ?_
  refine va_get (D := gD G) (ci := 1) (v := .int (c_vo w7 jd)) (C := RX1) (T := TX1) (N := 3) hx hb hts iX1 hown hE.1 hP (7 + jd) (c_getD _ hjd) rfl 2 (by decide) k1 (fun _ h9 => h9) rfl dX1_receive_12 ?_
  refine lv_iconst (v := 1) hx hb dX1_receive_15 (by decide) ?_
  refine lv_iadd hx hb dX1_receive_16 ?_
  refine va_put (D := gD G) (ci := 1) (v := .int ((c_vo w7 jd) + (1 : Int32))) (ty := .int) (C := RX1) (T := TX1) (N := 3) hx hb hts iX1 tyX1 tyX1_ok nmX1 hown hE.1 hP hD hS (7 + jd) (c_getD _ hjd) rfl 2 (by decide) k1 (fun _ h9 => h9) rfl (by decide +kernel) rfl rfl (Nat.le_of_ble_eq_true rfl) dX1_receive_17 (fun H locs hP hD hS => ?_)
  obtain ⟨w17, ew17⟩ : ∃ z : FS, z = c_s_vo w7 (upd (c_vo w7) jd ((c_vo w7 jd) + (1 : Int32))) := ⟨_, rfl⟩
  have hP : va_P (gD G) vwCl ((c_W G hF hVs hDs hB hT hW hEn dd N ad) w17) H := by rw [ew17, ← c_setD_vo w7 hjd ((c_vo w7 jd) + (1 : Int32))]; exact hP
  have hD : va_D A ((c_W G hF hVs hDs hB hT hW hEn dd N ad) w17) := by rw [ew17, ← c_setD_vo w7 hjd ((c_vo w7 jd) + (1 : Int32))]; exact hD
  have hok : c_ok w17 := by rw [ew17]; exact hok
  exact gRv hx hb hr hlk hP hD hok hS (by rw [← hfv, f_X1_receive, ← ew7, f_X1_receive_w7, ← ew17, f_X1_receive_w17]) dX1_receive_20
set_option maxHeartbeats 4000000 in
set_option maxRecDepth 100000 in
theorem c_X1_receive (l : Launch) (G : gC) (A : Nat → Prop) (hF hVs hDs hB hT hW hEn : Nat) (dd : Nat → Nat) (N : Nat) (ad : Nat → Nat) (hN : N ≤ 70) (jd : Nat) (hjd : jd < 3) (x : Int32) (u : FS) (hok : c_ok u) : CV l yX1_receive wsX1_receive ({ frames := 0, cells := 0, slots := 0, locals := 0 } : Room) G A (c_W G hF hVs hDs hB hT hW hEn dd N ad) c_ok [.ref (dd jd), .int x] u (f_X1_receive N jd x u) := by
  refine Met.ofW (cc := cX1_receive) (maxL := 2) (ret := none) (by decide) rfl ?_
  intro p e s m args below meth c s₁ B hml hv
  obtain ⟨rfl, hE, hP, hD⟩ := hv
  have hl := lv_entry ([.ref (dd jd), .int x]) (n := 2) (Nat.le_of_ble_eq_true rfl)
  rw [lg_entry_eq]
  generalize (lg_sl ([.ref (dd jd), .int x]) ++ List.replicate (2 - (lg_sl ([.ref (dd jd), .int x])).length) Slot.unset).toArray = ls at hl ⊢
  exact c_X1_receive_0 l G A hF hVs hDs hB hT hW hEn dd N ad hN jd hjd ⟨⟨B.exec, B.bytes, hml, findClass_of_methodNamed B.named, atoms_spec (ws := wsX1_receive) B.pre⟩, B.returns, B.notSynchronized⟩ hE x u hP hD hok va_S.rf hl rfl

-- FerryDecks$Deck.release
def f_X1_release_w17 (N : Nat) (jd : Nat) (w17 : FS) : FS :=
  w17
def f_X1_release_w7 (N : Nat) (jd : Nat) (w7 : FS) : FS :=
  (f_X1_release_w17 N jd (c_s_vo w7 (upd (c_vo w7) jd ((c_vo w7 jd) - (1 : Int32)))))
def f_X1_release (N : Nat) (jd : Nat) (x : Int32) (u : FS) : FS :=
  (f_X1_release_w7 N jd (c_s_tk u (upd (c_tk u) jd ((c_tk u jd) - x))))
set_option maxHeartbeats 4000000 in
set_option maxRecDepth 100000 in
theorem c_X1_release_0 {p : Program} {e : Env} {s : State} {m : MethodId} {args : Array Value} {below : List Frame} {meth : Method} {c : Code} (l : Launch) (G : gC) (A : Nat → Prop) (hF hVs hDs hB hT hW hEn : Nat) (dd : Nat → Nat) (N : Nat) (ad : Nat → Nat) (hN : N ≤ 70) (jd : Nat) (hjd : jd < 3) (C0 : gX p s m args meth c cX1_release 2 wsX1_release RX1 none) (hE : gE G A s) (x : Int32) (u : FS) {H : Heap} {locs : List Loc} (hP : va_P (gD G) vwCl ((c_W G hF hVs hDs hB hT hW hEn dd N ad) u) H) (hD : va_D A ((c_W G hF hVs hDs hB hT hW hEn dd N ad) u)) (hok : c_ok u) (hS : va_S A s.heap H locs) {ls : Array Slot} (hl : lv_has ls 2 [(0, .ref (dd jd)), (1, .int x)]) {fv : FS} (hfv : f_X1_release N jd x u = fv) : W p l e ({ frames := 0, cells := 0, slots := 0, locals := 0 } : Room) s m args below meth c H locs 0 0 (MQ below (gQv G A (c_W G hF hVs hDs hB hT hW hEn dd N ad) c_ok fv) args s 0 0 A) (F0 m 0 ls []) := by
  obtain ⟨⟨hx, hb, hml, hown, hts⟩, hr, hlk⟩ := id C0
  have hok0 := hok
  have k0 := hts (.fieldLink RX1 13 "FerryDecks$Deck" "taken" "I") (by decide +kernel)
  have k1 := hts (.fieldLink RX1 16 "FerryDecks$Deck" "vehiclesOn" "I") (by decide +kernel)
  have iX1 : ∀ w ∈ wsX10, w ∈ wsX1_release := by decide +kernel
  refine lv_aload_n hx hb dX1_release_0 rfl (lv_at hl 0 rfl) ?_
  refine lv_dup hx hb dX1_release_1 rfl ?_
  refine va_get (D := gD G) (ci := 1) (v := .int (c_tk u jd)) (C := RX1) (T := TX1) (N := 3) hx hb hts iX1 hown hE.1 hP (7 + jd) (c_getD _ hjd) rfl 1 (by decide) k0 (fun _ h9 => h9) rfl dX1_release_2 ?_
  refine lv_iload_n hx hb dX1_release_5 rfl (lv_at hl 1 rfl) ?_
  refine lv_isub hx hb dX1_release_6 ?_
  refine va_put (D := gD G) (ci := 1) (v := .int ((c_tk u jd) - x)) (ty := .int) (C := RX1) (T := TX1) (N := 3) hx hb hts iX1 tyX1 tyX1_ok nmX1 hown hE.1 hP hD hS (7 + jd) (c_getD _ hjd) rfl 1 (by decide) k0 (fun _ h9 => h9) rfl (by decide +kernel) rfl rfl (Nat.le_of_ble_eq_true rfl) dX1_release_7 (fun H locs hP hD hS => ?_)
  obtain ⟨w7, ew7⟩ : ∃ z : FS, z = c_s_tk u (upd (c_tk u) jd ((c_tk u jd) - x)) := ⟨_, rfl⟩
  have hP : va_P (gD G) vwCl ((c_W G hF hVs hDs hB hT hW hEn dd N ad) w7) H := by rw [ew7, ← c_setD_tk u hjd ((c_tk u jd) - x)]; exact hP
  have hD : va_D A ((c_W G hF hVs hDs hB hT hW hEn dd N ad) w7) := by rw [ew7, ← c_setD_tk u hjd ((c_tk u jd) - x)]; exact hD
  have hok : c_ok w7 := by rw [ew7]; exact hok
  refine lv_aload_n hx hb dX1_release_10 rfl (lv_at hl 0 rfl) ?_
  refine lv_dup hx hb dX1_release_11 rfl ?_
  refine va_get (D := gD G) (ci := 1) (v := .int (c_vo w7 jd)) (C := RX1) (T := TX1) (N := 3) hx hb hts iX1 hown hE.1 hP (7 + jd) (c_getD _ hjd) rfl 2 (by decide) k1 (fun _ h9 => h9) rfl dX1_release_12 ?_
  refine lv_iconst (v := 1) hx hb dX1_release_15 (by decide) ?_
  refine lv_isub hx hb dX1_release_16 ?_
  refine va_put (D := gD G) (ci := 1) (v := .int ((c_vo w7 jd) - (1 : Int32))) (ty := .int) (C := RX1) (T := TX1) (N := 3) hx hb hts iX1 tyX1 tyX1_ok nmX1 hown hE.1 hP hD hS (7 + jd) (c_getD _ hjd) rfl 2 (by decide) k1 (fun _ h9 => h9) rfl (by decide +kernel) rfl rfl (Nat.le_of_ble_eq_true rfl) dX1_release_17 (fun H locs hP hD hS => ?_)
  obtain ⟨w17, ew17⟩ : ∃ z : FS, z = c_s_vo w7 (upd (c_vo w7) jd ((c_vo w7 jd) - (1 : Int32))) := ⟨_, rfl⟩
  have hP : va_P (gD G) vwCl ((c_W G hF hVs hDs hB hT hW hEn dd N ad) w17) H := by rw [ew17, ← c_setD_vo w7 hjd ((c_vo w7 jd) - (1 : Int32))]; exact hP
  have hD : va_D A ((c_W G hF hVs hDs hB hT hW hEn dd N ad) w17) := by rw [ew17, ← c_setD_vo w7 hjd ((c_vo w7 jd) - (1 : Int32))]; exact hD
  have hok : c_ok w17 := by rw [ew17]; exact hok
  exact gRv hx hb hr hlk hP hD hok hS (by rw [← hfv, f_X1_release, ← ew7, f_X1_release_w7, ← ew17, f_X1_release_w17]) dX1_release_20
set_option maxHeartbeats 4000000 in
set_option maxRecDepth 100000 in
theorem c_X1_release (l : Launch) (G : gC) (A : Nat → Prop) (hF hVs hDs hB hT hW hEn : Nat) (dd : Nat → Nat) (N : Nat) (ad : Nat → Nat) (hN : N ≤ 70) (jd : Nat) (hjd : jd < 3) (x : Int32) (u : FS) (hok : c_ok u) : CV l yX1_release wsX1_release ({ frames := 0, cells := 0, slots := 0, locals := 0 } : Room) G A (c_W G hF hVs hDs hB hT hW hEn dd N ad) c_ok [.ref (dd jd), .int x] u (f_X1_release N jd x u) := by
  refine Met.ofW (cc := cX1_release) (maxL := 2) (ret := none) (by decide) rfl ?_
  intro p e s m args below meth c s₁ B hml hv
  obtain ⟨rfl, hE, hP, hD⟩ := hv
  have hl := lv_entry ([.ref (dd jd), .int x]) (n := 2) (Nat.le_of_ble_eq_true rfl)
  rw [lg_entry_eq]
  generalize (lg_sl ([.ref (dd jd), .int x]) ++ List.replicate (2 - (lg_sl ([.ref (dd jd), .int x])).length) Slot.unset).toArray = ls at hl ⊢
  exact c_X1_release_0 l G A hF hVs hDs hB hT hW hEn dd N ad hN jd hjd ⟨⟨B.exec, B.bytes, hml, findClass_of_methodNamed B.named, atoms_spec (ws := wsX1_release) B.pre⟩, B.returns, B.notSynchronized⟩ hE x u hP hD hok va_S.rf hl rfl

-- FerryDecks$Vehicle.goAshore
def f_X3_goAshore_w12 (N : Nat) (jv : Nat) (w12 : FS) : FS :=
  w12
def f_X3_goAshore_w7 (N : Nat) (jv : Nat) (w7 : FS) : FS :=
  (f_X3_goAshore_w12 N jv (c_s_mt w7 (upd (c_mt w7) jv (0 : Int32))))
def f_X3_goAshore_w2 (N : Nat) (jv : Nat) (w2 : FS) : FS :=
  (f_X3_goAshore_w7 N jv (c_s_dk w2 (upd (c_dk w2) jv (-1 : Int32))))
def f_X3_goAshore (N : Nat) (jv : Nat) (u : FS) : FS :=
  (f_X3_goAshore_w2 N jv (c_s_ch u (upd (c_ch u) jv (0 : Int32))))
set_option maxHeartbeats 4000000 in
set_option maxRecDepth 100000 in
theorem c_X3_goAshore_0 {p : Program} {e : Env} {s : State} {m : MethodId} {args : Array Value} {below : List Frame} {meth : Method} {c : Code} (l : Launch) (G : gC) (A : Nat → Prop) (hF hVs hDs hB hT hW hEn : Nat) (dd : Nat → Nat) (N : Nat) (ad : Nat → Nat) (hN : N ≤ 70) (jv : Nat) (hjv : jv < N) (C0 : gX p s m args meth c cX3_goAshore 1 wsX3_goAshore RX3 none) (hE : gE G A s) (u : FS) {H : Heap} {locs : List Loc} (hP : va_P (gD G) vwCl ((c_W G hF hVs hDs hB hT hW hEn dd N ad) u) H) (hD : va_D A ((c_W G hF hVs hDs hB hT hW hEn dd N ad) u)) (hok : c_ok u) (hS : va_S A s.heap H locs) {ls : Array Slot} (hl : lv_has ls 1 [(0, .ref (ad jv))]) {fv : FS} (hfv : f_X3_goAshore N jv u = fv) : W p l e ({ frames := 0, cells := 0, slots := 0, locals := 0 } : Room) s m args below meth c H locs 0 0 (MQ below (gQv G A (c_W G hF hVs hDs hB hT hW hEn dd N ad) c_ok fv) args s 0 0 A) (F0 m 0 ls []) := by
  obtain ⟨⟨hx, hb, hml, hown, hts⟩, hr, hlk⟩ := id C0
  have hok0 := hok
  have k0 := hts (.fieldLink RX3 24 "FerryDecks$Vehicle" "chains" "I") (by decide +kernel)
  have k1 := hts (.fieldLink RX3 21 "FerryDecks$Vehicle" "deckNumber" "I") (by decide +kernel)
  have k2 := hts (.fieldLink RX3 27 "FerryDecks$Vehicle" "metres" "I") (by decide +kernel)
  have iX3 : ∀ w ∈ wsX30, w ∈ wsX3_goAshore := by decide +kernel
  refine lv_aload_n hx hb dX3_goAshore_0 rfl (lv_at hl 0 rfl) ?_
  refine lv_iconst (v := 0) hx hb dX3_goAshore_1 (by decide) ?_
  refine va_put (D := gD G) (ci := 3) (v := .int (0 : Int32)) (ty := .int) (C := RX3) (T := TX3) (N := 6) hx hb hts iX3 tyX3 tyX3_ok nmX3 hown hE.1 hP hD hS (7 + 3 + jv) (c_getV _ hjv) rfl 3 (by decide) k0 (fun _ h9 => h9) rfl (by decide +kernel) rfl rfl (Nat.le_of_ble_eq_true rfl) dX3_goAshore_2 (fun H locs hP hD hS => ?_)
  obtain ⟨w2, ew2⟩ : ∃ z : FS, z = c_s_ch u (upd (c_ch u) jv (0 : Int32)) := ⟨_, rfl⟩
  have hP : va_P (gD G) vwCl ((c_W G hF hVs hDs hB hT hW hEn dd N ad) w2) H := by rw [ew2, ← c_setV_ch u hjv (0 : Int32)]; exact hP
  have hD : va_D A ((c_W G hF hVs hDs hB hT hW hEn dd N ad) w2) := by rw [ew2, ← c_setV_ch u hjv (0 : Int32)]; exact hD
  have hok : c_ok w2 := by rw [ew2]; exact hok
  refine lv_aload_n hx hb dX3_goAshore_5 rfl (lv_at hl 0 rfl) ?_
  refine lv_iconst (v := -1) hx hb dX3_goAshore_6 (by decide) ?_
  refine va_put (D := gD G) (ci := 3) (v := .int (-1 : Int32)) (ty := .int) (C := RX3) (T := TX3) (N := 6) hx hb hts iX3 tyX3 tyX3_ok nmX3 hown hE.1 hP hD hS (7 + 3 + jv) (c_getV _ hjv) rfl 4 (by decide) k1 (fun _ h9 => h9) rfl (by decide +kernel) rfl rfl (Nat.le_of_ble_eq_true rfl) dX3_goAshore_7 (fun H locs hP hD hS => ?_)
  obtain ⟨w7, ew7⟩ : ∃ z : FS, z = c_s_dk w2 (upd (c_dk w2) jv (-1 : Int32)) := ⟨_, rfl⟩
  have hP : va_P (gD G) vwCl ((c_W G hF hVs hDs hB hT hW hEn dd N ad) w7) H := by rw [ew7, ← c_setV_dk w2 hjv (-1 : Int32)]; exact hP
  have hD : va_D A ((c_W G hF hVs hDs hB hT hW hEn dd N ad) w7) := by rw [ew7, ← c_setV_dk w2 hjv (-1 : Int32)]; exact hD
  have hok : c_ok w7 := by rw [ew7]; exact hok
  refine lv_aload_n hx hb dX3_goAshore_10 rfl (lv_at hl 0 rfl) ?_
  refine lv_iconst (v := 0) hx hb dX3_goAshore_11 (by decide) ?_
  refine va_put (D := gD G) (ci := 3) (v := .int (0 : Int32)) (ty := .int) (C := RX3) (T := TX3) (N := 6) hx hb hts iX3 tyX3 tyX3_ok nmX3 hown hE.1 hP hD hS (7 + 3 + jv) (c_getV _ hjv) rfl 5 (by decide) k2 (fun _ h9 => h9) rfl (by decide +kernel) rfl rfl (Nat.le_of_ble_eq_true rfl) dX3_goAshore_12 (fun H locs hP hD hS => ?_)
  obtain ⟨w12, ew12⟩ : ∃ z : FS, z = c_s_mt w7 (upd (c_mt w7) jv (0 : Int32)) := ⟨_, rfl⟩
  have hP : va_P (gD G) vwCl ((c_W G hF hVs hDs hB hT hW hEn dd N ad) w12) H := by rw [ew12, ← c_setV_mt w7 hjv (0 : Int32)]; exact hP
  have hD : va_D A ((c_W G hF hVs hDs hB hT hW hEn dd N ad) w12) := by rw [ew12, ← c_setV_mt w7 hjv (0 : Int32)]; exact hD
  have hok : c_ok w12 := by rw [ew12]; exact hok
  exact gRv hx hb hr hlk hP hD hok hS (by rw [← hfv, f_X3_goAshore, ← ew2, f_X3_goAshore_w2, ← ew7, f_X3_goAshore_w7, ← ew12, f_X3_goAshore_w12]) dX3_goAshore_15
set_option maxHeartbeats 4000000 in
set_option maxRecDepth 100000 in
theorem c_X3_goAshore (l : Launch) (G : gC) (A : Nat → Prop) (hF hVs hDs hB hT hW hEn : Nat) (dd : Nat → Nat) (N : Nat) (ad : Nat → Nat) (hN : N ≤ 70) (jv : Nat) (hjv : jv < N) (u : FS) (hok : c_ok u) : CV l yX3_goAshore wsX3_goAshore ({ frames := 0, cells := 0, slots := 0, locals := 0 } : Room) G A (c_W G hF hVs hDs hB hT hW hEn dd N ad) c_ok [.ref (ad jv)] u (f_X3_goAshore N jv u) := by
  refine Met.ofW (cc := cX3_goAshore) (maxL := 1) (ret := none) (by decide) rfl ?_
  intro p e s m args below meth c s₁ B hml hv
  obtain ⟨rfl, hE, hP, hD⟩ := hv
  have hl := lv_entry ([.ref (ad jv)]) (n := 1) (Nat.le_of_ble_eq_true rfl)
  rw [lg_entry_eq]
  generalize (lg_sl ([.ref (ad jv)]) ++ List.replicate (1 - (lg_sl ([.ref (ad jv)])).length) Slot.unset).toArray = ls at hl ⊢
  exact c_X3_goAshore_0 l G A hF hVs hDs hB hT hW hEn dd N ad hN jv hjv ⟨⟨B.exec, B.bytes, hml, findClass_of_methodNamed B.named, atoms_spec (ws := wsX3_goAshore) B.pre⟩, B.returns, B.notSynchronized⟩ hE u hP hD hok va_S.rf hl rfl

-- FerryDecks$Trace.has
def f_X2_has_k8 (N : Nat) (u : FS) (q8 : Int32) : Int32 × FS :=
  (q8, u)
def f_X2_has (N : Nat) (x : Int32) (u : FS) : Int32 × FS :=
  (f_X2_has_k8 N u (f_X4_within x (0 : Int32) ((c_z u) - (1 : Int32))))
set_option maxHeartbeats 4000000 in
set_option maxRecDepth 100000 in
theorem c_X2_has_0 {p : Program} {e : Env} {s : State} {m : MethodId} {args : Array Value} {below : List Frame} {meth : Method} {c : Code} (l : Launch) (G : gC) (A : Nat → Prop) (hF hVs hDs hB hT hW hEn : Nat) (dd : Nat → Nat) (N : Nat) (ad : Nat → Nat) (hN : N ≤ 70) (C0 : gX p s m args meth c cX2_has 2 wsX2_has RX2 (some .boolean)) (hE : gE G A s) (x : Int32) (u : FS) {H : Heap} {locs : List Loc} (hP : va_P (gD G) vwCl ((c_W G hF hVs hDs hB hT hW hEn dd N ad) u) H) (hD : va_D A ((c_W G hF hVs hDs hB hT hW hEn dd N ad) u)) (hok : c_ok u) (hS : va_S A s.heap H locs) {ls : Array Slot} (hl : lv_has ls 2 [(0, .ref hW), (1, .int x)]) {fv : Int32 × FS} (hfv : f_X2_has N x u = fv) : W p l e ({ frames := 1, cells := 0, slots := 0, locals := 22 } : Room) s m args below meth c H locs 0 0 (MQ below (gQi G A (c_W G hF hVs hDs hB hT hW hEn dd N ad) c_ok fv) args s 0 0 A) (F0 m 0 ls []) := by
  obtain ⟨⟨hx, hb, hml, hown, hts⟩, hr, hlk⟩ := id C0
  have hok0 := hok
  have k0 := hts (.fieldLink RX2 15 "FerryDecks$Trace" "size" "I") (by decide +kernel)
  have k1 := hts (.initialized RX4) (by decide +kernel)
  have k2 := hts (.static yX4_within) (by decide +kernel)
  have iX2 : ∀ w ∈ wsX20, w ∈ wsX2_has := by decide +kernel
  refine lv_iload_n hx hb dX2_has_0 rfl (lv_at hl 1 rfl) ?_
  refine lv_iconst (v := 0) hx hb dX2_has_1 (by decide) ?_
  refine lv_aload_n hx hb dX2_has_2 rfl (lv_at hl 0 rfl) ?_
  refine va_get (D := gD G) (ci := 2) (v := .int (c_z u)) (C := RX2) (T := TX2) (N := 2) hx hb hts iX2 hown hE.1 hP 5 rfl rfl 1 (by decide) k0 (fun _ h9 => h9) rfl dX2_has_3 ?_
  refine lv_iconst (v := 1) hx hb dX2_has_6 (by decide) ?_
  refine lv_isub hx hb dX2_has_7 ?_
  refine gNi (As := [.int x, .int (0 : Int32), .int ((c_z u) - (1 : Int32))]) (rest := []) ⟨hx, hb, hml, hown, hts⟩ (c_X4_within l G A x (0 : Int32) ((c_z u) - (1 : Int32))) ⟨va_cnB 3 hts gX2_has_X4_within_n19 rfl rfl rfl hE.2.1.2.2.2 k1 (by decide +kernel) ⟨Nat.le_of_ble_eq_true rfl, Nat.le_of_ble_eq_true rfl⟩, k2, trivial⟩ hE hS rfl hl.1 rfl (Nat.le_of_ble_eq_true rfl) dX2_has_8 ⟨Nat.zero_le _, Nat.zero_le _⟩ (fun q8 e8 => ?_)
  exact gRz (u := u) hx hb hr hlk (wi_nar e8) hP hD hok hS (by rw [← hfv, f_X2_has, ← e8, f_X2_has_k8]) dX2_has_11
set_option maxHeartbeats 4000000 in
set_option maxRecDepth 100000 in
theorem c_X2_has (l : Launch) (G : gC) (A : Nat → Prop) (hF hVs hDs hB hT hW hEn : Nat) (dd : Nat → Nat) (N : Nat) (ad : Nat → Nat) (hN : N ≤ 70) (x : Int32) (u : FS) (hok : c_ok u) : CI l yX2_has wsX2_has ({ frames := 1, cells := 0, slots := 0, locals := 22 } : Room) G A (c_W G hF hVs hDs hB hT hW hEn dd N ad) c_ok [.ref hW, .int x] u (f_X2_has N x u) := by
  refine Met.ofW (cc := cX2_has) (maxL := 2) (ret := (some .boolean)) (by decide) rfl ?_
  intro p e s m args below meth c s₁ B hml hv
  obtain ⟨rfl, hE, hP, hD⟩ := hv
  have hl := lv_entry ([.ref hW, .int x]) (n := 2) (Nat.le_of_ble_eq_true rfl)
  rw [lg_entry_eq]
  generalize (lg_sl ([.ref hW, .int x]) ++ List.replicate (2 - (lg_sl ([.ref hW, .int x])).length) Slot.unset).toArray = ls at hl ⊢
  exact c_X2_has_0 l G A hF hVs hDs hB hT hW hEn dd N ad hN ⟨⟨B.exec, B.bytes, hml, findClass_of_methodNamed B.named, atoms_spec (ws := wsX2_has) B.pre⟩, B.returns, B.notSynchronized⟩ hE x u hP hD hok va_S.rf hl rfl

-- FerryDecks$Bodies.failed
def f_X0_failedC (N : Nat) (u : FS) : Int32 × FS :=
  (if (c_fl u) = 0 then ((0 : Int32), u) else ((1 : Int32), u))
set_option maxHeartbeats 4000000 in
set_option maxRecDepth 100000 in
theorem c_X0_failedC_0 {p : Program} {e : Env} {s : State} {m : MethodId} {args : Array Value} {below : List Frame} {meth : Method} {c : Code} (l : Launch) (G : gC) (A : Nat → Prop) (hF hVs hDs hB hT hW hEn : Nat) (dd : Nat → Nat) (N : Nat) (ad : Nat → Nat) (hN : N ≤ 70) (C0 : gX p s m args meth c cX0_failed 1 wsX0_failed RX0 (some .boolean)) (hE : gE G A s) (u : FS) {H : Heap} {locs : List Loc} (hP : va_P (gD G) vwCl ((c_W G hF hVs hDs hB hT hW hEn dd N ad) u) H) (hD : va_D A ((c_W G hF hVs hDs hB hT hW hEn dd N ad) u)) (hok : c_ok u) (hS : va_S A s.heap H locs) {ls : Array Slot} (hl : lv_has ls 1 [(0, .ref hB)]) {fv : Int32 × FS} (hfv : f_X0_failedC N u = fv) : W p l e ({ frames := 0, cells := 0, slots := 0, locals := 0 } : Room) s m args below meth c H locs 0 0 (MQ below (gQi G A (c_W G hF hVs hDs hB hT hW hEn dd N ad) c_ok fv) args s 0 0 A) (F0 m 0 ls []) := by
  obtain ⟨⟨hx, hb, hml, hown, hts⟩, hr, hlk⟩ := id C0
  have hok0 := hok
  have k0 := hts (.fieldLink RX0 26 "FerryDecks$Bodies" "failure" "I") (by decide +kernel)
  have iX0 : ∀ w ∈ wsX00, w ∈ wsX0_failed := by decide +kernel
  refine lv_aload_n hx hb dX0_failed_0 rfl (lv_at hl 0 rfl) ?_
  refine va_get (D := gD G) (ci := 0) (v := .int (c_fl u)) (C := RX0) (T := TX0) (N := 3) hx hb hts iX0 hown hE.1 hP 3 rfl rfl 2 (by decide) k0 (fun _ h9 => h9) rfl dX0_failed_1 ?_
  refine lv_if_eq (tgt := 11) hx hb dX0_failed_4 (by decide) (fun c4 => ?_) (fun c4 => ?_)
  · refine lv_iconst (v := 0) hx hb dX0_failed_11 (by decide) ?_
    exact gRz (u := u) hx hb hr hlk (by decide) hP hD hok hS (by rw [← hfv, f_X0_failedC, if_pos c4]) dX0_failed_12
  · refine lv_iconst (v := 1) hx hb dX0_failed_7 (by decide) ?_
    refine lv_goto (tgt := 12) hx hb dX0_failed_8 (by decide) ?_
    exact gRz (u := u) hx hb hr hlk (by decide) hP hD hok hS (by rw [← hfv, f_X0_failedC, if_neg c4]) dX0_failed_12
set_option maxHeartbeats 4000000 in
set_option maxRecDepth 100000 in
theorem c_X0_failedC (l : Launch) (G : gC) (A : Nat → Prop) (hF hVs hDs hB hT hW hEn : Nat) (dd : Nat → Nat) (N : Nat) (ad : Nat → Nat) (hN : N ≤ 70) (u : FS) (hok : c_ok u) : CI l yX0_failed wsX0_failed ({ frames := 0, cells := 0, slots := 0, locals := 0 } : Room) G A (c_W G hF hVs hDs hB hT hW hEn dd N ad) c_ok [.ref hB] u (f_X0_failedC N u) := by
  refine Met.ofW (cc := cX0_failed) (maxL := 1) (ret := (some .boolean)) (by decide) rfl ?_
  intro p e s m args below meth c s₁ B hml hv
  obtain ⟨rfl, hE, hP, hD⟩ := hv
  have hl := lv_entry ([.ref hB]) (n := 1) (Nat.le_of_ble_eq_true rfl)
  rw [lg_entry_eq]
  generalize (lg_sl ([.ref hB]) ++ List.replicate (1 - (lg_sl ([.ref hB])).length) Slot.unset).toArray = ls at hl ⊢
  exact c_X0_failedC_0 l G A hF hVs hDs hB hT hW hEn dd N ad hN ⟨⟨B.exec, B.bytes, hml, findClass_of_methodNamed B.named, atoms_spec (ws := wsX0_failed) B.pre⟩, B.returns, B.notSynchronized⟩ hE u hP hD hok va_S.rf hl rfl

-- FerryDecks$Bodies.begin
def f_X0_begin_w10 (N : Nat) (w10 : FS) : FS :=
  w10
def f_X0_begin_w5 (N : Nat) (w5 : FS) : FS :=
  (f_X0_begin_w10 N (c_s_fl w5 (0 : Int32)))
def f_X0_begin (N : Nat) (u : FS) : FS :=
  (f_X0_begin_w5 N (c_s_z u (0 : Int32)))
set_option maxHeartbeats 4000000 in
set_option maxRecDepth 100000 in
theorem c_X0_begin_0 {p : Program} {e : Env} {s : State} {m : MethodId} {args : Array Value} {below : List Frame} {meth : Method} {c : Code} (l : Launch) (G : gC) (A : Nat → Prop) (hF hVs hDs hB hT hW hEn : Nat) (dd : Nat → Nat) (N : Nat) (ad : Nat → Nat) (hN : N ≤ 70) (C0 : gX p s m args meth c cX0_begin 1 wsX0_begin RX0 none) (hE : gE G A s) (u : FS) {H : Heap} {locs : List Loc} (hP : va_P (gD G) vwCl ((c_W G hF hVs hDs hB hT hW hEn dd N ad) u) H) (hD : va_D A ((c_W G hF hVs hDs hB hT hW hEn dd N ad) u)) (hok : c_ok u) (hS : va_S A s.heap H locs) {ls : Array Slot} (hl : lv_has ls 1 [(0, .ref hB)]) {fv : FS} (hfv : f_X0_begin N u = fv) : W p l e ({ frames := 0, cells := 0, slots := 0, locals := 0 } : Room) s m args below meth c H locs 0 0 (MQ below (gQv G A (c_W G hF hVs hDs hB hT hW hEn dd N ad) c_ok fv) args s 0 0 A) (F0 m 0 ls []) := by
  obtain ⟨⟨hx, hb, hml, hown, hts⟩, hr, hlk⟩ := id C0
  have hok0 := hok
  have k0 := hts (.fieldLink RX0 18 "FerryDecks$Bodies" "written" "LFerryDecks$Trace;") (by decide +kernel)
  have k1 := hts (.fieldLink RX0 22 "FerryDecks$Trace" "size" "I") (by decide +kernel)
  have k2 := hts (.fieldLink RX0 26 "FerryDecks$Bodies" "failure" "I") (by decide +kernel)
  have iX0 : ∀ w ∈ wsX00, w ∈ wsX0_begin := by decide +kernel
  have iX2 : ∀ w ∈ wsX20, w ∈ wsX0_begin := by decide +kernel
  refine lv_aload_n hx hb dX0_begin_0 rfl (lv_at hl 0 rfl) ?_
  refine va_get (D := gD G) (ci := 0) (v := .ref hW) (C := RX0) (T := TX0) (N := 3) hx hb hts iX0 hown hE.1 hP 3 rfl rfl 1 (by decide) k0 (fun _ h9 => h9) rfl dX0_begin_1 ?_
  refine lv_iconst (v := 0) hx hb dX0_begin_4 (by decide) ?_
  refine va_put (D := gD G) (ci := 2) (v := .int (0 : Int32)) (ty := .int) (C := RX2) (T := TX2) (N := 2) hx hb hts iX2 tyX2 tyX2_ok nmX2 hown hE.1 hP hD hS 5 rfl rfl 1 (by decide) k1 (fun _ h9 => h9) rfl (by decide +kernel) rfl rfl (Nat.le_of_ble_eq_true rfl) dX0_begin_5 (fun H locs hP hD hS => ?_)
  obtain ⟨w5, ew5⟩ : ∃ z : FS, z = c_s_z u (0 : Int32) := ⟨_, rfl⟩
  have hP : va_P (gD G) vwCl ((c_W G hF hVs hDs hB hT hW hEn dd N ad) w5) H := by rw [ew5]; exact hP
  have hD : va_D A ((c_W G hF hVs hDs hB hT hW hEn dd N ad) w5) := by rw [ew5]; exact hD
  have hok : c_ok w5 := by rw [ew5]; exact ok0
  refine lv_aload_n hx hb dX0_begin_8 rfl (lv_at hl 0 rfl) ?_
  refine lv_iconst (v := 0) hx hb dX0_begin_9 (by decide) ?_
  refine va_put (D := gD G) (ci := 0) (v := .int (0 : Int32)) (ty := .int) (C := RX0) (T := TX0) (N := 3) hx hb hts iX0 tyX0 tyX0_ok nmX0 hown hE.1 hP hD hS 3 rfl rfl 2 (by decide) k2 (fun _ h9 => h9) rfl (by decide +kernel) rfl rfl (Nat.le_of_ble_eq_true rfl) dX0_begin_10 (fun H locs hP hD hS => ?_)
  obtain ⟨w10, ew10⟩ : ∃ z : FS, z = c_s_fl w5 (0 : Int32) := ⟨_, rfl⟩
  have hP : va_P (gD G) vwCl ((c_W G hF hVs hDs hB hT hW hEn dd N ad) w10) H := by rw [ew10]; exact hP
  have hD : va_D A ((c_W G hF hVs hDs hB hT hW hEn dd N ad) w10) := by rw [ew10]; exact hD
  have hok : c_ok w10 := by rw [ew10]; exact hok
  exact gRv hx hb hr hlk hP hD hok hS (by rw [← hfv, f_X0_begin, ← ew5, f_X0_begin_w5, ← ew10, f_X0_begin_w10]) dX0_begin_13
set_option maxHeartbeats 4000000 in
set_option maxRecDepth 100000 in
theorem c_X0_begin (l : Launch) (G : gC) (A : Nat → Prop) (hF hVs hDs hB hT hW hEn : Nat) (dd : Nat → Nat) (N : Nat) (ad : Nat → Nat) (hN : N ≤ 70) (u : FS) (hok : c_ok u) : CV l yX0_begin wsX0_begin ({ frames := 0, cells := 0, slots := 0, locals := 0 } : Room) G A (c_W G hF hVs hDs hB hT hW hEn dd N ad) c_ok [.ref hB] u (f_X0_begin N u) := by
  refine Met.ofW (cc := cX0_begin) (maxL := 1) (ret := none) (by decide) rfl ?_
  intro p e s m args below meth c s₁ B hml hv
  obtain ⟨rfl, hE, hP, hD⟩ := hv
  have hl := lv_entry ([.ref hB]) (n := 1) (Nat.le_of_ble_eq_true rfl)
  rw [lg_entry_eq]
  generalize (lg_sl ([.ref hB]) ++ List.replicate (1 - (lg_sl ([.ref hB])).length) Slot.unset).toArray = ls at hl ⊢
  exact c_X0_begin_0 l G A hF hVs hDs hB hT hW hEn dd N ad hN ⟨⟨B.exec, B.bytes, hml, findClass_of_methodNamed B.named, atoms_spec (ws := wsX0_begin) B.pre⟩, B.returns, B.notSynchronized⟩ hE u hP hD hok va_S.rf hl rfl

-- FerryDecks.beginAct
def f_X4_beginAct_k14 (N : Nat) (q14 : FS) : FS :=
  q14
def f_X4_beginAct_w7 (N : Nat) (w7 : FS) : FS :=
  (f_X4_beginAct_k14 N (f_X0_begin N w7))
def f_X4_beginAct (N : Nat) (u : FS) : FS :=
  (f_X4_beginAct_w7 N (c_s_ac u ((c_ac u) + (1 : Int32))))
set_option maxHeartbeats 4000000 in
set_option maxRecDepth 100000 in
theorem c_X4_beginAct_0 {p : Program} {e : Env} {s : State} {m : MethodId} {args : Array Value} {below : List Frame} {meth : Method} {c : Code} (l : Launch) (G : gC) (A : Nat → Prop) (hF hVs hDs hB hT hW hEn : Nat) (dd : Nat → Nat) (N : Nat) (ad : Nat → Nat) (hN : N ≤ 70) (C0 : gX p s m args meth c cX4_beginAct 1 wsX4_beginAct RX4 none) (hE : gE G A s) (u : FS) {H : Heap} {locs : List Loc} (hP : va_P (gD G) vwCl ((c_W G hF hVs hDs hB hT hW hEn dd N ad) u) H) (hD : va_D A ((c_W G hF hVs hDs hB hT hW hEn dd N ad) u)) (hok : c_ok u) (hS : va_S A s.heap H locs) {ls : Array Slot} (hl : lv_has ls 1 [(0, .ref hF)]) {fv : FS} (hfv : f_X4_beginAct N u = fv) : W p l e ({ frames := 1, cells := 0, slots := 0, locals := 20 } : Room) s m args below meth c H locs 0 0 (MQ below (gQv G A (c_W G hF hVs hDs hB hT hW hEn dd N ad) c_ok fv) args s 0 0 A) (F0 m 0 ls []) := by
  obtain ⟨⟨hx, hb, hml, hown, hts⟩, hr, hlk⟩ := id C0
  have hok0 := hok
  have k0 := hts (.fieldLink RX4 140 "FerryDecks" "acts" "I") (by decide +kernel)
  have k1 := hts (.fieldLink RX4 25 "FerryDecks" "bodies" "LFerryDecks$Bodies;") (by decide +kernel)
  have iX4 : ∀ w ∈ wsX40, w ∈ wsX4_beginAct := by decide +kernel
  refine lv_aload_n hx hb dX4_beginAct_0 rfl (lv_at hl 0 rfl) ?_
  refine lv_dup hx hb dX4_beginAct_1 rfl ?_
  refine va_get (D := gD G) (ci := 4) (v := .int (c_ac u)) (C := RX4) (T := TX4) (N := 9) hx hb hts iX4 hown hE.1 hP 0 rfl rfl 4 (by decide) k0 (fun _ h9 => h9) rfl dX4_beginAct_2 ?_
  refine lv_iconst (v := 1) hx hb dX4_beginAct_5 (by decide) ?_
  refine lv_iadd hx hb dX4_beginAct_6 ?_
  refine va_put (D := gD G) (ci := 4) (v := .int ((c_ac u) + (1 : Int32))) (ty := .int) (C := RX4) (T := TX4) (N := 9) hx hb hts iX4 tyX4 tyX4_ok nmX4 hown hE.1 hP hD hS 0 rfl rfl 4 (by decide) k0 (fun _ h9 => h9) rfl (by decide +kernel) rfl rfl (Nat.le_of_ble_eq_true rfl) dX4_beginAct_7 (fun H locs hP hD hS => ?_)
  obtain ⟨w7, ew7⟩ : ∃ z : FS, z = c_s_ac u ((c_ac u) + (1 : Int32)) := ⟨_, rfl⟩
  have hP : va_P (gD G) vwCl ((c_W G hF hVs hDs hB hT hW hEn dd N ad) w7) H := by rw [ew7]; exact hP
  have hD : va_D A ((c_W G hF hVs hDs hB hT hW hEn dd N ad) w7) := by rw [ew7]; exact hD
  have hok : c_ok w7 := by rw [ew7]; exact hok
  refine lv_aload_n hx hb dX4_beginAct_10 rfl (lv_at hl 0 rfl) ?_
  refine va_get (D := gD G) (ci := 4) (v := .ref hB) (C := RX4) (T := TX4) (N := 9) hx hb hts iX4 hown hE.1 hP 0 rfl rfl 3 (by decide) k1 (fun _ h9 => h9) rfl dX4_beginAct_11 ?_
  refine gVv (u := w7) (Wd := (c_W G hF hVs hDs hB hT hW hEn dd N ad)) (ok := c_ok) (As := []) (rest := []) ⟨hx, hb, hml, hown, hts⟩ (c_X0_begin l G A hF hVs hDs hB hT hW hEn dd N ad hN w7 hok) (cwV 0 hts gX4_beginAct_X0_begin rfl rfl rfl (by decide +kernel) ⟨Nat.le_of_ble_eq_true rfl, Nat.le_of_ble_eq_true rfl⟩) hE hP hD hS (va_recv hE.1 hP (ci := 0) (q0 := 3) rfl rfl) rfl hl.1 rfl (Nat.le_of_ble_eq_true rfl) dX4_beginAct_14 ⟨Nat.zero_le _, Nat.zero_le _⟩ (fun q14 H locs e14 hP hD hok hS => ?_)
  exact gRv hx hb hr hlk hP hD hok hS (by rw [← hfv, f_X4_beginAct, ← ew7, f_X4_beginAct_w7, ← e14, f_X4_beginAct_k14]) dX4_beginAct_17
set_option maxHeartbeats 4000000 in
set_option maxRecDepth 100000 in
theorem c_X4_beginAct (l : Launch) (G : gC) (A : Nat → Prop) (hF hVs hDs hB hT hW hEn : Nat) (dd : Nat → Nat) (N : Nat) (ad : Nat → Nat) (hN : N ≤ 70) (u : FS) (hok : c_ok u) : CV l yX4_beginAct wsX4_beginAct ({ frames := 1, cells := 0, slots := 0, locals := 20 } : Room) G A (c_W G hF hVs hDs hB hT hW hEn dd N ad) c_ok [.ref hF] u (f_X4_beginAct N u) := by
  refine Met.ofW (cc := cX4_beginAct) (maxL := 1) (ret := none) (by decide) rfl ?_
  intro p e s m args below meth c s₁ B hml hv
  obtain ⟨rfl, hE, hP, hD⟩ := hv
  have hl := lv_entry ([.ref hF]) (n := 1) (Nat.le_of_ble_eq_true rfl)
  rw [lg_entry_eq]
  generalize (lg_sl ([.ref hF]) ++ List.replicate (1 - (lg_sl ([.ref hF])).length) Slot.unset).toArray = ls at hl ⊢
  exact c_X4_beginAct_0 l G A hF hVs hDs hB hT hW hEn dd N ad hN ⟨⟨B.exec, B.bytes, hml, findClass_of_methodNamed B.named, atoms_spec (ws := wsX4_beginAct) B.pre⟩, B.returns, B.notSynchronized⟩ hE u hP hD hok va_S.rf hl rfl

-- FerryDecks.endByFailure
def f_X4_endByFailure_w7 (N : Nat) (w7 : FS) : Int32 × FS :=
  (c_fl w7, w7)
def f_X4_endByFailure (N : Nat) (u : FS) : Int32 × FS :=
  (f_X4_endByFailure_w7 N (c_s_fa u ((c_fa u) + (1 : Int32))))
set_option maxHeartbeats 4000000 in
set_option maxRecDepth 100000 in
theorem c_X4_endByFailure_0 {p : Program} {e : Env} {s : State} {m : MethodId} {args : Array Value} {below : List Frame} {meth : Method} {c : Code} (l : Launch) (G : gC) (A : Nat → Prop) (hF hVs hDs hB hT hW hEn : Nat) (dd : Nat → Nat) (N : Nat) (ad : Nat → Nat) (hN : N ≤ 70) (C0 : gX p s m args meth c cX4_endByFailure 1 wsX4_endByFailure RX4 (some .int)) (hE : gE G A s) (u : FS) {H : Heap} {locs : List Loc} (hP : va_P (gD G) vwCl ((c_W G hF hVs hDs hB hT hW hEn dd N ad) u) H) (hD : va_D A ((c_W G hF hVs hDs hB hT hW hEn dd N ad) u)) (hok : c_ok u) (hS : va_S A s.heap H locs) {ls : Array Slot} (hl : lv_has ls 1 [(0, .ref hF)]) {fv : Int32 × FS} (hfv : f_X4_endByFailure N u = fv) : W p l e ({ frames := 0, cells := 0, slots := 0, locals := 0 } : Room) s m args below meth c H locs 0 0 (MQ below (gQi G A (c_W G hF hVs hDs hB hT hW hEn dd N ad) c_ok fv) args s 0 0 A) (F0 m 0 ls []) := by
  obtain ⟨⟨hx, hb, hml, hown, hts⟩, hr, hlk⟩ := id C0
  have hok0 := hok
  have k0 := hts (.fieldLink RX4 143 "FerryDecks" "failedActs" "I") (by decide +kernel)
  have k1 := hts (.fieldLink RX4 25 "FerryDecks" "bodies" "LFerryDecks$Bodies;") (by decide +kernel)
  have k2 := hts (.fieldLink RX4 152 "FerryDecks$Bodies" "failure" "I") (by decide +kernel)
  have iX0 : ∀ w ∈ wsX00, w ∈ wsX4_endByFailure := by decide +kernel
  have iX4 : ∀ w ∈ wsX40, w ∈ wsX4_endByFailure := by decide +kernel
  refine lv_aload_n hx hb dX4_endByFailure_0 rfl (lv_at hl 0 rfl) ?_
  refine lv_dup hx hb dX4_endByFailure_1 rfl ?_
  refine va_get (D := gD G) (ci := 4) (v := .int (c_fa u)) (C := RX4) (T := TX4) (N := 9) hx hb hts iX4 hown hE.1 hP 0 rfl rfl 5 (by decide) k0 (fun _ h9 => h9) rfl dX4_endByFailure_2 ?_
  refine lv_iconst (v := 1) hx hb dX4_endByFailure_5 (by decide) ?_
  refine lv_iadd hx hb dX4_endByFailure_6 ?_
  refine va_put (D := gD G) (ci := 4) (v := .int ((c_fa u) + (1 : Int32))) (ty := .int) (C := RX4) (T := TX4) (N := 9) hx hb hts iX4 tyX4 tyX4_ok nmX4 hown hE.1 hP hD hS 0 rfl rfl 5 (by decide) k0 (fun _ h9 => h9) rfl (by decide +kernel) rfl rfl (Nat.le_of_ble_eq_true rfl) dX4_endByFailure_7 (fun H locs hP hD hS => ?_)
  obtain ⟨w7, ew7⟩ : ∃ z : FS, z = c_s_fa u ((c_fa u) + (1 : Int32)) := ⟨_, rfl⟩
  have hP : va_P (gD G) vwCl ((c_W G hF hVs hDs hB hT hW hEn dd N ad) w7) H := by rw [ew7]; exact hP
  have hD : va_D A ((c_W G hF hVs hDs hB hT hW hEn dd N ad) w7) := by rw [ew7]; exact hD
  have hok : c_ok w7 := by rw [ew7]; exact hok
  refine lv_aload_n hx hb dX4_endByFailure_10 rfl (lv_at hl 0 rfl) ?_
  refine va_get (D := gD G) (ci := 4) (v := .ref hB) (C := RX4) (T := TX4) (N := 9) hx hb hts iX4 hown hE.1 hP 0 rfl rfl 3 (by decide) k1 (fun _ h9 => h9) rfl dX4_endByFailure_11 ?_
  refine va_get (D := gD G) (ci := 0) (v := .int (c_fl w7)) (C := RX0) (T := TX0) (N := 3) hx hb hts iX0 hown hE.1 hP 3 rfl rfl 2 (by decide) k2 (fun _ h9 => h9) rfl dX4_endByFailure_14 ?_
  exact gRi (u := w7) hx hb hr hlk hP hD hok hS (by rw [← hfv, f_X4_endByFailure, ← ew7, f_X4_endByFailure_w7]) dX4_endByFailure_17
set_option maxHeartbeats 4000000 in
set_option maxRecDepth 100000 in
theorem c_X4_endByFailure (l : Launch) (G : gC) (A : Nat → Prop) (hF hVs hDs hB hT hW hEn : Nat) (dd : Nat → Nat) (N : Nat) (ad : Nat → Nat) (hN : N ≤ 70) (u : FS) (hok : c_ok u) : CI l yX4_endByFailure wsX4_endByFailure ({ frames := 0, cells := 0, slots := 0, locals := 0 } : Room) G A (c_W G hF hVs hDs hB hT hW hEn dd N ad) c_ok [.ref hF] u (f_X4_endByFailure N u) := by
  refine Met.ofW (cc := cX4_endByFailure) (maxL := 1) (ret := (some .int)) (by decide) rfl ?_
  intro p e s m args below meth c s₁ B hml hv
  obtain ⟨rfl, hE, hP, hD⟩ := hv
  have hl := lv_entry ([.ref hF]) (n := 1) (Nat.le_of_ble_eq_true rfl)
  rw [lg_entry_eq]
  generalize (lg_sl ([.ref hF]) ++ List.replicate (1 - (lg_sl ([.ref hF])).length) Slot.unset).toArray = ls at hl ⊢
  exact c_X4_endByFailure_0 l G A hF hVs hDs hB hT hW hEn dd N ad hN ⟨⟨B.exec, B.bytes, hml, findClass_of_methodNamed B.named, atoms_spec (ws := wsX4_endByFailure) B.pre⟩, B.returns, B.notSynchronized⟩ hE u hP hD hok va_S.rf hl rfl
