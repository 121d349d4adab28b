-- FerryDecks$Bodies.lengthBody
def f_X0_lengthBody_k15 (K : Int32 → Int32 → Int32 → BS → Int32 × BS) (kd : Int32) (q15 : Int32 × BS) : Int32 × BS :=
  (if kd = 2 then (q15.1 + (1 : Int32), q15.2) else (if kd = 4 then (q15.1 + (b_T q15.2 ((0 : Int32) : Int32).toNatClampNeg), q15.2) else (if kd = 6 then (q15.1 + (2 : Int32), q15.2) else (if q15.1 - (1 : Int32) < (1 : Int32) then (1 : Int32) else q15.1 - (1 : Int32), q15.2))))
def f_X0_lengthBody (K : Int32 → Int32 → Int32 → BS → Int32 × BS) (kd : Int32) (u : BS) : Int32 × BS :=
  (if kd = 0 then (b_sz u, u) else (f_X0_lengthBody_k15 K kd (f_X0_askAbove K kd (0 : Int32) (0 : Int32) u)))
set_option maxHeartbeats 4000000 in
set_option maxRecDepth 100000 in
theorem c_X0_lengthBody_0 {p : Program} {e : Env} {s : State} {m : MethodId} {args : Array Value} {below : List Frame} {meth : Method} {c : Code} (l : Launch) (G : gC) (A : Nat → Prop) (hB hT hW hEn hV : Nat) (k : Nat) (dp : Int32) (K : Int32 → Int32 → Int32 → BS → Int32 × BS) (hK : ∀ (kd mb n : Int32) (u : BS), b_ok u → CI l yX0_start wsX0_start ({ frames := 4 * k + 4, cells := 0, slots := 0, locals := 120 * k + 60 } : Room) G A (b_W (gI G) hB hT hW hEn hV) b_ok [.ref hB, .ref hV, .int kd, .int mb, .int n, .int (dp + 1)] u (K kd mb n u)) (C0 : gX p s m args meth c cX0_lengthBody 5 wsX0_lengthBody RX0 (some .int)) (hE : gE G A s) (kd : Int32) (u : BS) {H : Heap} {locs : List Loc} (hP : va_P (gD G) vwCl ((b_W (gI G) hB hT hW hEn hV) u) H) (hD : va_D A ((b_W (gI G) hB hT hW hEn hV) u)) (hok : b_ok u) (hS : va_S A s.heap H locs) {ls : Array Slot} (hl : lv_has ls 5 [(0, .ref hB), (1, .ref hV), (2, .int kd), (3, .int dp)]) {fv : Int32 × BS} (hfv : f_X0_lengthBody K kd u = fv) : W p l e ({ frames := 4 * k + 7, cells := 0, slots := 0, locals := 120 * k + 135 } : Room) s m args below meth c H locs 0 0 (MQ below (gQi G A (b_W (gI G) hB hT hW hEn hV) b_ok fv) args s 0 0 A) (F0 m 0 ls []) := by
  obtain ⟨⟨hx, hb, hml, hown, hts⟩, hr, hlk⟩ := id C0
  have hok0 := hok
  have k0 := hts (.fieldLink RX0 9 "FerryDecks$Bodies" "terms" "[I") (by decide +kernel)
  have k1 := hts (.methodLink RX0 84 Lib.Math.max.name) (by decide +kernel)
  have k2 := hts (.static Lib.Math.max.name) (by decide +kernel)
  have k3 := hts (.initialized "java/lang/Math") (by decide +kernel)
  have k4 := hts (.code Lib.Math.max.name Lib.Math.max.code 2 (some .int)) (by decide +kernel)
  have k5 := hts (.fieldLink RX0 80 "FerryDecks$Vehicle" "size" "I") (by decide +kernel)
  have iX0 : ∀ w ∈ wsX00, w ∈ wsX0_lengthBody := by decide +kernel
  have iX3 : ∀ w ∈ wsX30, w ∈ wsX0_lengthBody := by decide +kernel
  refine lv_iload_n hx hb dX0_lengthBody_0 rfl (lv_at hl 2 rfl) ?_
  refine lv_if_ne (tgt := 9) hx hb dX0_lengthBody_1 (by decide) (fun c1 => ?_) (fun c1 => ?_)
  · refine lv_aload_n hx hb dX0_lengthBody_9 rfl (lv_at hl 0 rfl) ?_
    refine lv_aload_n hx hb dX0_lengthBody_10 rfl (lv_at hl 1 rfl) ?_
    refine lv_iload_n hx hb dX0_lengthBody_11 rfl (lv_at hl 2 rfl) ?_
    refine lv_iconst (v := 0) hx hb dX0_lengthBody_12 (by decide) ?_
    refine lv_iconst (v := 0) hx hb dX0_lengthBody_13 (by decide) ?_
    refine lv_iload_n hx hb dX0_lengthBody_14 rfl (lv_at hl 3 rfl) ?_
    refine gVi (u := u) (Wd := (b_W (gI G) hB hT hW hEn hV)) (ok := b_ok) (As := [.ref hV, .int kd, .int (0 : Int32), .int (0 : Int32), .int dp]) (rest := []) ⟨hx, hb, hml, hown, hts⟩ (c_X0_askAbove l G A hB hT hW hEn hV k dp K hK kd (0 : Int32) (0 : Int32) u hok) (cwV 5 hts gX0_lengthBody_X0_askAbove rfl rfl rfl (by decide +kernel) ⟨by show 4 * k + 5 + 1 ≤ 4 * k + 7; omega, by show 8 + (6 + 11) + (120 * k + 86) ≤ 120 * k + 135; omega⟩) hE hP hD hS (va_recv hE.1 hP (ci := 0) (q0 := 0) rfl rfl) rfl hl.1 rfl (Nat.le_of_ble_eq_true rfl) dX0_lengthBody_15 ⟨Nat.zero_le _, Nat.zero_le _⟩ (fun q15 H locs e15 hP hD hok hS => ?_)
    refine lv_istore (lv' := [(4, .int q15.1), (0, .ref hB), (1, .ref hV), (2, .int kd), (3, .int dp)]) hx hb dX0_lengthBody_18 hl (by decide) rfl (fun ls hl => ?_)
    refine lv_iload_n hx hb dX0_lengthBody_20 rfl (lv_at hl 3 rfl) ?_
    by_cases c21_2 : kd = 2
    · refine gTs (off := 35) (tgt := 56) hx hb dX0_lengthBody_21 rfl (by rw [c21_2]; decide) (by decide) ?_
      refine lv_iload hx hb dX0_lengthBody_56 (lv_at hl 0 rfl) ?_
      refine lv_iconst (v := 1) hx hb dX0_lengthBody_58 (by decide) ?_
      refine lv_iadd hx hb dX0_lengthBody_59 ?_
      exact gRi (u := q15.2) hx hb hr hlk hP hD hok hS (by rw [← hfv, f_X0_lengthBody, if_neg c1, ← e15, f_X0_lengthBody_k15, if_pos c21_2]) dX0_lengthBody_60
    by_cases c21_4 : kd = 4
    · refine gTs (off := 40) (tgt := 61) hx hb dX0_lengthBody_21 rfl (by rw [c21_4]; decide) (by decide) ?_
      refine lv_iload hx hb dX0_lengthBody_61 (lv_at hl 0 rfl) ?_
      refine lv_aload_n hx hb dX0_lengthBody_63 rfl (lv_at hl 1 rfl) ?_
      refine va_get (D := gD G) (ci := 0) (v := .ref hT) (C := RX0) (T := TX0) (N := 3) hx hb hts iX0 hown hE.1 hP 0 rfl rfl 0 (by decide) k0 (fun _ h9 => h9) rfl dX0_lengthBody_64 ?_
      refine lv_iconst (v := 0) hx hb dX0_lengthBody_67 (by decide) ?_
      refine va_iald hx hb hE.1 hP 1 0 rfl rfl (gIn (by decide) (by decide) (by decide)) dX0_lengthBody_68 ?_
      refine lv_iadd hx hb dX0_lengthBody_69 ?_
      exact gRi (u := q15.2) hx hb hr hlk hP hD hok hS (by rw [← hfv, f_X0_lengthBody, if_neg c1, ← e15, f_X0_lengthBody_k15, if_neg c21_2, if_pos c21_4]) dX0_lengthBody_70
    by_cases c21_6 : kd = 6
    · refine gTs (off := 50) (tgt := 71) hx hb dX0_lengthBody_21 rfl (by rw [c21_6]; decide) (by decide) ?_
      refine lv_iload hx hb dX0_lengthBody_71 (lv_at hl 0 rfl) ?_
      refine lv_iconst (v := 2) hx hb dX0_lengthBody_73 (by decide) ?_
      refine lv_iadd hx hb dX0_lengthBody_74 ?_
      exact gRi (u := q15.2) hx hb hr hlk hP hD hok hS (by rw [← hfv, f_X0_lengthBody, if_neg c1, ← e15, f_X0_lengthBody_k15, if_neg c21_2, if_neg c21_4, if_pos c21_6]) dX0_lengthBody_75
    refine gTs (off := 55) (tgt := 76) hx hb dX0_lengthBody_21 rfl (by have z2 := lv_neT (a := 2) c21_2 (by decide); have z4 := lv_neT (a := 4) c21_4 (by decide); have z6 := lv_neT (a := 6) c21_6 (by decide); unfold tsO; by_cases hh : kd.toInt < 2 ∨ 6 < kd.toInt; (rw [if_pos hh]); (rw [if_neg hh]; rcases (show kd.toInt = 3 ∨ kd.toInt = 5 by omega) with h | h <;> rw [h] <;> rfl)) (by decide) ?_
    refine lv_iload hx hb dX0_lengthBody_76 (lv_at hl 0 rfl) ?_
    refine lv_iconst (v := 1) hx hb dX0_lengthBody_78 (by decide) ?_
    refine lv_isub hx hb dX0_lengthBody_79 ?_
    refine lv_iconst (v := 1) hx hb dX0_lengthBody_80 (by decide) ?_
    refine va_mmax hx hb (by rw [hml]; exact hl.1.symm) hown k1 k2 k3 k4 (by show 1 ≤ 4 * k + 7; omega) (by show _ + 13 ≤ 120 * k + 135; simp only [List.map, List.sum_cons, List.sum_nil, Value.category]; omega) (Nat.zero_le _) (Nat.zero_le _) dX0_lengthBody_81 ?_
    exact gRi (u := q15.2) hx hb hr hlk hP hD hok hS (by rw [← hfv, f_X0_lengthBody, if_neg c1, ← e15, f_X0_lengthBody_k15, if_neg c21_2, if_neg c21_4, if_neg c21_6]) dX0_lengthBody_84
  · refine lv_aload_n hx hb dX0_lengthBody_4 rfl (lv_at hl 1 rfl) ?_
    refine va_get (D := gD G) (ci := 3) (v := .int (b_sz u)) (C := RX3) (T := TX3) (N := 6) hx hb hts iX3 hown hE.1 hP 4 rfl rfl 1 (by decide) k5 (fun _ h9 => h9) rfl dX0_lengthBody_5 ?_
    exact gRi (u := u) hx hb hr hlk hP hD hok hS (by rw [← hfv, f_X0_lengthBody, if_pos c1]) dX0_lengthBody_8
set_option maxHeartbeats 4000000 in
set_option maxRecDepth 100000 in
theorem c_X0_lengthBody (l : Launch) (G : gC) (A : Nat → Prop) (hB hT hW hEn hV : Nat) (k : Nat) (dp : Int32) (K : Int32 → Int32 → Int32 → BS → Int32 × BS) (hK : ∀ (kd mb n : Int32) (u : BS), b_ok u → CI l yX0_start wsX0_start ({ frames := 4 * k + 4, cells := 0, slots := 0, locals := 120 * k + 60 } : Room) G A (b_W (gI G) hB hT hW hEn hV) b_ok [.ref hB, .ref hV, .int kd, .int mb, .int n, .int (dp + 1)] u (K kd mb n u)) (kd : Int32) (u : BS) (hok : b_ok u) : CI l yX0_lengthBody wsX0_lengthBody ({ frames := 4 * k + 7, cells := 0, slots := 0, locals := 120 * k + 135 } : Room) G A (b_W (gI G) hB hT hW hEn hV) b_ok [.ref hB, .ref hV, .int kd, .int dp] u (f_X0_lengthBody K kd u) := by
  refine Met.ofW (cc := cX0_lengthBody) (maxL := 5) (ret := (some .int)) (by decide) rfl ?_
  intro p e s m args below meth c s₁ B hml hv
  obtain ⟨rfl, hE, hP, hD⟩ := hv
  have hl := lv_entry ([.ref hB, .ref hV, .int kd, .int dp]) (n := 5) (Nat.le_of_ble_eq_true rfl)
  rw [lg_entry_eq]
  generalize (lg_sl ([.ref hB, .ref hV, .int kd, .int dp]) ++ List.replicate (5 - (lg_sl ([.ref hB, .ref hV, .int kd, .int dp])).length) Slot.unset).toArray = ls at hl ⊢
  exact c_X0_lengthBody_0 l G A hB hT hW hEn hV k dp K hK ⟨⟨B.exec, B.bytes, hml, findClass_of_methodNamed B.named, atoms_spec (ws := wsX0_lengthBody) B.pre⟩, B.returns, B.notSynchronized⟩ hE kd u hP hD hok va_S.rf hl rfl

-- FerryDecks$Bodies.markBody
def f_X0_markBody_k18 (K : Int32 → Int32 → Int32 → BS → Int32 × BS) (kd : Int32) (q18 : Int32 × BS) : Int32 × BS :=
  (if kd = 3 then (q18.1 + ((b_ld q18.2) - (b_ld q18.2) / (7 : Int32) * (7 : Int32)), q18.2) else (if kd = 5 then ((2 : Int32) * q18.1, q18.2) else (q18.1 + (5 : Int32), q18.2)))
def f_X0_markBody (K : Int32 → Int32 → Int32 → BS → Int32 × BS) (kd : Int32) (u : BS) : Int32 × BS :=
  (if kd = 0 then ((b_sz u) - (b_sz u) / (10 : Int32) * (10 : Int32), u) else (f_X0_markBody_k18 K kd (f_X0_askAbove K kd (4 : Int32) (0 : Int32) u)))
set_option maxHeartbeats 4000000 in
set_option maxRecDepth 100000 in
theorem c_X0_markBody_0 {p : Program} {e : Env} {s : State} {m : MethodId} {args : Array Value} {below : List Frame} {meth : Method} {c : Code} (l : Launch) (G : gC) (A : Nat → Prop) (hB hT hW hEn hV : Nat) (k : Nat) (dp : Int32) (K : Int32 → Int32 → Int32 → BS → Int32 × BS) (hK : ∀ (kd mb n : Int32) (u : BS), b_ok u → CI l yX0_start wsX0_start ({ frames := 4 * k + 4, cells := 0, slots := 0, locals := 120 * k + 60 } : Room) G A (b_W (gI G) hB hT hW hEn hV) b_ok [.ref hB, .ref hV, .int kd, .int mb, .int n, .int (dp + 1)] u (K kd mb n u)) (C0 : gX p s m args meth c cX0_markBody 5 wsX0_markBody RX0 (some .int)) (hE : gE G A s) (kd : Int32) (u : BS) {H : Heap} {locs : List Loc} (hP : va_P (gD G) vwCl ((b_W (gI G) hB hT hW hEn hV) u) H) (hD : va_D A ((b_W (gI G) hB hT hW hEn hV) u)) (hok : b_ok u) (hS : va_S A s.heap H locs) {ls : Array Slot} (hl : lv_has ls 5 [(0, .ref hB), (1, .ref hV), (2, .int kd), (3, .int dp)]) {fv : Int32 × BS} (hfv : f_X0_markBody K kd u = fv) : W p l e ({ frames := 4 * k + 7, cells := 0, slots := 0, locals := 120 * k + 135 } : Room) s m args below meth c H locs 0 0 (MQ below (gQi G A (b_W (gI G) hB hT hW hEn hV) b_ok fv) args s 0 0 A) (F0 m 0 ls []) := by
  obtain ⟨⟨hx, hb, hml, hown, hts⟩, hr, hlk⟩ := id C0
  have hok0 := hok
  have k0 := hts (.fieldLink RX0 96 "FerryDecks$Vehicle" "load" "I") (by decide +kernel)
  have k1 := hts (.fieldLink RX0 80 "FerryDecks$Vehicle" "size" "I") (by decide +kernel)
  have iX3 : ∀ w ∈ wsX30, w ∈ wsX0_markBody := by decide +kernel
  refine lv_iload_n hx hb dX0_markBody_0 rfl (lv_at hl 2 rfl) ?_
  refine lv_if_ne (tgt := 12) hx hb dX0_markBody_1 (by decide) (fun c1 => ?_) (fun c1 => ?_)
  · refine lv_aload_n hx hb dX0_markBody_12 rfl (lv_at hl 0 rfl) ?_
    refine lv_aload_n hx hb dX0_markBody_13 rfl (lv_at hl 1 rfl) ?_
    refine lv_iload_n hx hb dX0_markBody_14 rfl (lv_at hl 2 rfl) ?_
    refine lv_iconst (v := 4) hx hb dX0_markBody_15 (by decide) ?_
    refine lv_iconst (v := 0) hx hb dX0_markBody_16 (by decide) ?_
    refine lv_iload_n hx hb dX0_markBody_17 rfl (lv_at hl 3 rfl) ?_
    refine gVi (u := u) (Wd := (b_W (gI G) hB hT hW hEn hV)) (ok := b_ok) (As := [.ref hV, .int kd, .int (4 : Int32), .int (0 : Int32), .int dp]) (rest := []) ⟨hx, hb, hml, hown, hts⟩ (c_X0_askAbove l G A hB hT hW hEn hV k dp K hK kd (4 : Int32) (0 : Int32) u hok) (cwV 5 hts gX0_markBody_X0_askAbove rfl rfl rfl (by decide +kernel) ⟨by show 4 * k + 5 + 1 ≤ 4 * k + 7; omega, by show 8 + (6 + 11) + (120 * k + 86) ≤ 120 * k + 135; omega⟩) hE hP hD hS (va_recv hE.1 hP (ci := 0) (q0 := 0) rfl rfl) rfl hl.1 rfl (Nat.le_of_ble_eq_true rfl) dX0_markBody_18 ⟨Nat.zero_le _, Nat.zero_le _⟩ (fun q18 H locs e18 hP hD hok hS => ?_)
    refine lv_istore (lv' := [(4, .int q18.1), (0, .ref hB), (1, .ref hV), (2, .int kd), (3, .int dp)]) hx hb dX0_markBody_21 hl (by decide) rfl (fun ls hl => ?_)
    refine lv_iload_n hx hb dX0_markBody_23 rfl (lv_at hl 3 rfl) ?_
    by_cases c24_3 : kd = 3
    · refine lv_lookup (off := 28) (tgt := 52) hx hb dX0_markBody_24 (by decide) (by rw [c24_3]; decide) (by decide) ?_
      refine lv_iload hx hb dX0_markBody_52 (lv_at hl 0 rfl) ?_
      refine lv_aload_n hx hb dX0_markBody_54 rfl (lv_at hl 2 rfl) ?_
      refine va_get (D := gD G) (ci := 3) (v := .int (b_ld q18.2)) (C := RX3) (T := TX3) (N := 6) hx hb hts iX3 hown hE.1 hP 4 rfl rfl 2 (by decide) k0 (fun _ h9 => h9) rfl dX0_markBody_55 ?_
      refine lv_bipush (v := 7) hx hb dX0_markBody_58 (by decide) ?_
      refine lv_irem hx hb dX0_markBody_60 (by decide) ?_
      refine lv_iadd hx hb dX0_markBody_61 ?_
      exact gRi (u := q18.2) hx hb hr hlk hP hD hok hS (by rw [← hfv, f_X0_markBody, if_neg c1, ← e18, f_X0_markBody_k18, if_pos c24_3]) dX0_markBody_62
    by_cases c24_5 : kd = 5
    · refine lv_lookup (off := 39) (tgt := 63) hx hb dX0_markBody_24 (by decide) (by rw [c24_5]; decide) (by decide) ?_
      refine lv_iconst (v := 2) hx hb dX0_markBody_63 (by decide) ?_
      refine lv_iload hx hb dX0_markBody_64 (lv_at hl 0 rfl) ?_
      refine lv_imul hx hb dX0_markBody_66 ?_
      exact gRi (u := q18.2) hx hb hr hlk hP hD hok hS (by rw [← hfv, f_X0_markBody, if_neg c1, ← e18, f_X0_markBody_k18, if_neg c24_3, if_pos c24_5]) dX0_markBody_67
    refine lv_lookup (off := 44) (tgt := 68) hx hb dX0_markBody_24 (by decide) (by show Op.lookupswitch.offset [(3, 28), (5, 39)] 44 kd.toInt = 44; rw [lv_osw (a := 3) c24_3 (by decide), lv_osw (a := 5) c24_5 (by decide)]; rfl) (by decide) ?_
    refine lv_iload hx hb dX0_markBody_68 (lv_at hl 0 rfl) ?_
    refine lv_iconst (v := 5) hx hb dX0_markBody_70 (by decide) ?_
    refine lv_iadd hx hb dX0_markBody_71 ?_
    exact gRi (u := q18.2) hx hb hr hlk hP hD hok hS (by rw [← hfv, f_X0_markBody, if_neg c1, ← e18, f_X0_markBody_k18, if_neg c24_3, if_neg c24_5]) dX0_markBody_72
  · refine lv_aload_n hx hb dX0_markBody_4 rfl (lv_at hl 1 rfl) ?_
    refine va_get (D := gD G) (ci := 3) (v := .int (b_sz u)) (C := RX3) (T := TX3) (N := 6) hx hb hts iX3 hown hE.1 hP 4 rfl rfl 1 (by decide) k1 (fun _ h9 => h9) rfl dX0_markBody_5 ?_
    refine lv_bipush (v := 10) hx hb dX0_markBody_8 (by decide) ?_
    refine lv_irem hx hb dX0_markBody_10 (by decide) ?_
    exact gRi (u := u) hx hb hr hlk hP hD hok hS (by rw [← hfv, f_X0_markBody, if_pos c1]) dX0_markBody_11
set_option maxHeartbeats 4000000 in
set_option maxRecDepth 100000 in
theorem c_X0_markBody (l : Launch) (G : gC) (A : Nat → Prop) (hB hT hW hEn hV : Nat) (k : Nat) (dp : Int32) (K : Int32 → Int32 → Int32 → BS → Int32 × BS) (hK : ∀ (kd mb n : Int32) (u : BS), b_ok u → CI l yX0_start wsX0_start ({ frames := 4 * k + 4, cells := 0, slots := 0, locals := 120 * k + 60 } : Room) G A (b_W (gI G) hB hT hW hEn hV) b_ok [.ref hB, .ref hV, .int kd, .int mb, .int n, .int (dp + 1)] u (K kd mb n u)) (kd : Int32) (u : BS) (hok : b_ok u) : CI l yX0_markBody wsX0_markBody ({ frames := 4 * k + 7, cells := 0, slots := 0, locals := 120 * k + 135 } : Room) G A (b_W (gI G) hB hT hW hEn hV) b_ok [.ref hB, .ref hV, .int kd, .int dp] u (f_X0_markBody K kd u) := by
  refine Met.ofW (cc := cX0_markBody) (maxL := 5) (ret := (some .int)) (by decide) rfl ?_
  intro p e s m args below meth c s₁ B hml hv
  obtain ⟨rfl, hE, hP, hD⟩ := hv
  have hl := lv_entry ([.ref hB, .ref hV, .int kd, .int dp]) (n := 5) (Nat.le_of_ble_eq_true rfl)
  rw [lg_entry_eq]
  generalize (lg_sl ([.ref hB, .ref hV, .int kd, .int dp]) ++ List.replicate (5 - (lg_sl ([.ref hB, .ref hV, .int kd, .int dp])).length) Slot.unset).toArray = ls at hl ⊢
  exact c_X0_markBody_0 l G A hB hT hW hEn hV k dp K hK ⟨⟨B.exec, B.bytes, hml, findClass_of_methodNamed B.named, atoms_spec (ws := wsX0_markBody) B.pre⟩, B.returns, B.notSynchronized⟩ hE kd u hP hD hok va_S.rf hl rfl

-- FerryDecks$Bodies.hookBody
def f_X0_hookBody_k45 (K : Int32 → Int32 → Int32 → BS → Int32 × BS) (q45 : Int32 × BS) : Int32 × BS :=
  (q45.1 + (b_T q45.2 ((6 : Int32) : Int32).toNatClampNeg), q45.2)
def f_X0_hookBody_k83 (K : Int32 → Int32 → Int32 → BS → Int32 × BS) (q73 : Int32 × BS) (q83 : Int32 × BS) : Int32 × BS :=
  (q73.1 + q83.1, q83.2)
def f_X0_hookBody_k73 (K : Int32 → Int32 → Int32 → BS → Int32 × BS) (kd : Int32) (q73 : Int32 × BS) : Int32 × BS :=
  (f_X0_hookBody_k83 K q73 (f_X0_askAbove K kd (6 : Int32) (0 : Int32) q73.2))
def f_X0_hookBody (K : Int32 → Int32 → Int32 → BS → Int32 × BS) (kd : Int32) (u : BS) : Int32 × BS :=
  (if kd = 3 then ((3 : Int32), u) else (if kd = 5 then (f_X0_hookBody_k45 K (f_X0_askAbove K kd (6 : Int32) (0 : Int32) u)) else (if kd = 7 then ((b_ld u) / (1000 : Int32), u) else (f_X0_hookBody_k73 K kd (f_X0_askAbove K kd (6 : Int32) (0 : Int32) u)))))
set_option maxHeartbeats 4000000 in
set_option maxRecDepth 100000 in
theorem c_X0_hookBody_0 {p : Program} {e : Env} {s : State} {m : MethodId} {args : Array Value} {below : List Frame} {meth : Method} {c : Code} (l : Launch) (G : gC) (A : Nat → Prop) (hB hT hW hEn hV : Nat) (k : Nat) (dp : Int32) (K : Int32 → Int32 → Int32 → BS → Int32 × BS) (hK : ∀ (kd mb n : Int32) (u : BS), b_ok u → CI l yX0_start wsX0_start ({ frames := 4 * k + 4, cells := 0, slots := 0, locals := 120 * k + 60 } : Room) G A (b_W (gI G) hB hT hW hEn hV) b_ok [.ref hB, .ref hV, .int kd, .int mb, .int n, .int (dp + 1)] u (K kd mb n u)) (C0 : gX p s m args meth c cX0_hookBody 4 wsX0_hookBody RX0 (some .int)) (hE : gE G A s) (kd : Int32) (u : BS) {H : Heap} {locs : List Loc} (hP : va_P (gD G) vwCl ((b_W (gI G) hB hT hW hEn hV) u) H) (hD : va_D A ((b_W (gI G) hB hT hW hEn hV) u)) (hok : b_ok u) (hS : va_S A s.heap H locs) {ls : Array Slot} (hl : lv_has ls 4 [(0, .ref hB), (1, .ref hV), (2, .int kd), (3, .int dp)]) {fv : Int32 × BS} (hfv : f_X0_hookBody K kd u = fv) : W p l e ({ frames := 4 * k + 7, cells := 0, slots := 0, locals := 120 * k + 135 } : Room) s m args below meth c H locs 0 0 (MQ below (gQi G A (b_W (gI G) hB hT hW hEn hV) b_ok fv) args s 0 0 A) (F0 m 0 ls []) := by
  obtain ⟨⟨hx, hb, hml, hown, hts⟩, hr, hlk⟩ := id C0
  have hok0 := hok
  have k0 := hts (.fieldLink RX0 9 "FerryDecks$Bodies" "terms" "[I") (by decide +kernel)
  have k1 := hts (.fieldLink RX0 96 "FerryDecks$Vehicle" "load" "I") (by decide +kernel)
  have iX0 : ∀ w ∈ wsX00, w ∈ wsX0_hookBody := by decide +kernel
  have iX3 : ∀ w ∈ wsX30, w ∈ wsX0_hookBody := by decide +kernel
  refine lv_iload_n hx hb dX0_hookBody_0 rfl (lv_at hl 2 rfl) ?_
  by_cases c1_3 : kd = 3
  · refine gTs (off := 35) (tgt := 36) hx hb dX0_hookBody_1 rfl (by rw [c1_3]; decide) (by decide) ?_
    refine lv_iconst (v := 3) hx hb dX0_hookBody_36 (by decide) ?_
    exact gRi (u := u) hx hb hr hlk hP hD hok hS (by rw [← hfv, f_X0_hookBody, if_pos c1_3]) dX0_hookBody_37
  by_cases c1_5 : kd = 5
  · refine gTs (off := 37) (tgt := 38) hx hb dX0_hookBody_1 rfl (by rw [c1_5]; decide) (by decide) ?_
    refine lv_aload_n hx hb dX0_hookBody_38 rfl (lv_at hl 0 rfl) ?_
    refine lv_aload_n hx hb dX0_hookBody_39 rfl (lv_at hl 1 rfl) ?_
    refine lv_iload_n hx hb dX0_hookBody_40 rfl (lv_at hl 2 rfl) ?_
    refine lv_bipush (v := 6) hx hb dX0_hookBody_41 (by decide) ?_
    refine lv_iconst (v := 0) hx hb dX0_hookBody_43 (by decide) ?_
    refine lv_iload_n hx hb dX0_hookBody_44 rfl (lv_at hl 3 rfl) ?_
    refine gVi (u := u) (Wd := (b_W (gI G) hB hT hW hEn hV)) (ok := b_ok) (As := [.ref hV, .int kd, .int (6 : Int32), .int (0 : Int32), .int dp]) (rest := []) ⟨hx, hb, hml, hown, hts⟩ (c_X0_askAbove l G A hB hT hW hEn hV k dp K hK kd (6 : Int32) (0 : Int32) u hok) (cwV 5 hts gX0_hookBody_X0_askAbove rfl rfl rfl (by decide +kernel) ⟨by show 4 * k + 5 + 1 ≤ 4 * k + 7; omega, by show 8 + (6 + 11) + (120 * k + 86) ≤ 120 * k + 135; omega⟩) hE hP hD hS (va_recv hE.1 hP (ci := 0) (q0 := 0) rfl rfl) rfl hl.1 rfl (Nat.le_of_ble_eq_true rfl) dX0_hookBody_45 ⟨Nat.zero_le _, Nat.zero_le _⟩ (fun q45 H locs e45 hP hD hok hS => ?_)
    refine lv_aload_n hx hb dX0_hookBody_48 rfl (lv_at hl 0 rfl) ?_
    refine va_get (D := gD G) (ci := 0) (v := .ref hT) (C := RX0) (T := TX0) (N := 3) hx hb hts iX0 hown hE.1 hP 0 rfl rfl 0 (by decide) k0 (fun _ h9 => h9) rfl dX0_hookBody_49 ?_
    refine lv_bipush (v := 6) hx hb dX0_hookBody_52 (by decide) ?_
    refine va_iald hx hb hE.1 hP 1 0 rfl rfl (gIn (by decide) (by decide) (by decide)) dX0_hookBody_54 ?_
    refine lv_iadd hx hb dX0_hookBody_55 ?_
    exact gRi (u := q45.2) hx hb hr hlk hP hD hok hS (by rw [← hfv, f_X0_hookBody, if_neg c1_3, if_pos c1_5, ← e45, f_X0_hookBody_k45]) dX0_hookBody_56
  by_cases c1_7 : kd = 7
  · refine gTs (off := 56) (tgt := 57) hx hb dX0_hookBody_1 rfl (by rw [c1_7]; decide) (by decide) ?_
    refine lv_aload_n hx hb dX0_hookBody_57 rfl (lv_at hl 1 rfl) ?_
    refine va_get (D := gD G) (ci := 3) (v := .int (b_ld u)) (C := RX3) (T := TX3) (N := 6) hx hb hts iX3 hown hE.1 hP 4 rfl rfl 2 (by decide) k1 (fun _ h9 => h9) rfl dX0_hookBody_58 ?_
    refine lv_sipush (v := 1000) hx hb dX0_hookBody_61 (by decide) ?_
    refine lv_idiv hx hb dX0_hookBody_64 (by decide) ?_
    exact gRi (u := u) hx hb hr hlk hP hD hok hS (by rw [← hfv, f_X0_hookBody, if_neg c1_3, if_neg c1_5, if_pos c1_7]) dX0_hookBody_65
  refine gTs (off := 65) (tgt := 66) hx hb dX0_hookBody_1 rfl (by have z3 := lv_neT (a := 3) c1_3 (by decide); have z5 := lv_neT (a := 5) c1_5 (by decide); have z7 := lv_neT (a := 7) c1_7 (by decide); unfold tsO; by_cases hh : kd.toInt < 3 ∨ 7 < kd.toInt; (rw [if_pos hh]); (rw [if_neg hh]; rcases (show kd.toInt = 4 ∨ kd.toInt = 6 by omega) with h | h <;> rw [h] <;> rfl)) (by decide) ?_
  refine lv_aload_n hx hb dX0_hookBody_66 rfl (lv_at hl 0 rfl) ?_
  refine lv_aload_n hx hb dX0_hookBody_67 rfl (lv_at hl 1 rfl) ?_
  refine lv_iload_n hx hb dX0_hookBody_68 rfl (lv_at hl 2 rfl) ?_
  refine lv_bipush (v := 6) hx hb dX0_hookBody_69 (by decide) ?_
  refine lv_iconst (v := 0) hx hb dX0_hookBody_71 (by decide) ?_
  refine lv_iload_n hx hb dX0_hookBody_72 rfl (lv_at hl 3 rfl) ?_
  refine gVi (u := u) (Wd := (b_W (gI G) hB hT hW hEn hV)) (ok := b_ok) (As := [.ref hV, .int kd, .int (6 : Int32), .int (0 : Int32), .int dp]) (rest := []) ⟨hx, hb, hml, hown, hts⟩ (c_X0_askAbove l G A hB hT hW hEn hV k dp K hK kd (6 : Int32) (0 : Int32) u hok) (cwV 5 hts gX0_hookBody_X0_askAbove rfl rfl rfl (by decide +kernel) ⟨by show 4 * k + 5 + 1 ≤ 4 * k + 7; omega, by show 8 + (6 + 11) + (120 * k + 86) ≤ 120 * k + 135; omega⟩) hE hP hD hS (va_recv hE.1 hP (ci := 0) (q0 := 0) rfl rfl) rfl hl.1 rfl (Nat.le_of_ble_eq_true rfl) dX0_hookBody_73 ⟨Nat.zero_le _, Nat.zero_le _⟩ (fun q73 H locs e73 hP hD hok hS => ?_)
  refine lv_aload_n hx hb dX0_hookBody_76 rfl (lv_at hl 0 rfl) ?_
  refine lv_aload_n hx hb dX0_hookBody_77 rfl (lv_at hl 1 rfl) ?_
  refine lv_iload_n hx hb dX0_hookBody_78 rfl (lv_at hl 2 rfl) ?_
  refine lv_bipush (v := 6) hx hb dX0_hookBody_79 (by decide) ?_
  refine lv_iconst (v := 0) hx hb dX0_hookBody_81 (by decide) ?_
  refine lv_iload_n hx hb dX0_hookBody_82 rfl (lv_at hl 3 rfl) ?_
  refine gVi (u := q73.2) (Wd := (b_W (gI G) hB hT hW hEn hV)) (ok := b_ok) (As := [.ref hV, .int kd, .int (6 : Int32), .int (0 : Int32), .int dp]) (rest := [.int q73.1]) ⟨hx, hb, hml, hown, hts⟩ (c_X0_askAbove l G A hB hT hW hEn hV k dp K hK kd (6 : Int32) (0 : Int32) q73.2 hok) (cwV 5 hts gX0_hookBody_X0_askAbove rfl rfl rfl (by decide +kernel) ⟨by show 4 * k + 5 + 1 ≤ 4 * k + 7; omega, by show 8 + (6 + 11) + (120 * k + 86) ≤ 120 * k + 135; omega⟩) hE hP hD hS (va_recv hE.1 hP (ci := 0) (q0 := 0) rfl rfl) rfl hl.1 rfl (Nat.le_of_ble_eq_true rfl) dX0_hookBody_83 ⟨Nat.zero_le _, Nat.zero_le _⟩ (fun q83 H locs e83 hP hD hok hS => ?_)
  refine lv_iadd hx hb dX0_hookBody_86 ?_
  exact gRi (u := q83.2) hx hb hr hlk hP hD hok hS (by rw [← hfv, f_X0_hookBody, if_neg c1_3, if_neg c1_5, if_neg c1_7, ← e73, f_X0_hookBody_k73, ← e83, f_X0_hookBody_k83]) dX0_hookBody_87
set_option maxHeartbeats 4000000 in
set_option maxRecDepth 100000 in
theorem c_X0_hookBody (l : Launch) (G : gC) (A : Nat → Prop) (hB hT hW hEn hV : Nat) (k : Nat) (dp : Int32) (K : Int32 → Int32 → Int32 → BS → Int32 × BS) (hK : ∀ (kd mb n : Int32) (u : BS), b_ok u → CI l yX0_start wsX0_start ({ frames := 4 * k + 4, cells := 0, slots := 0, locals := 120 * k + 60 } : Room) G A (b_W (gI G) hB hT hW hEn hV) b_ok [.ref hB, .ref hV, .int kd, .int mb, .int n, .int (dp + 1)] u (K kd mb n u)) (kd : Int32) (u : BS) (hok : b_ok u) : CI l yX0_hookBody wsX0_hookBody ({ frames := 4 * k + 7, cells := 0, slots := 0, locals := 120 * k + 135 } : Room) G A (b_W (gI G) hB hT hW hEn hV) b_ok [.ref hB, .ref hV, .int kd, .int dp] u (f_X0_hookBody K kd u) := by
  refine Met.ofW (cc := cX0_hookBody) (maxL := 4) (ret := (some .int)) (by decide) rfl ?_
  intro p e s m args below meth c s₁ B hml hv
  obtain ⟨rfl, hE, hP, hD⟩ := hv
  have hl := lv_entry ([.ref hB, .ref hV, .int kd, .int dp]) (n := 4) (Nat.le_of_ble_eq_true rfl)
  rw [lg_entry_eq]
  generalize (lg_sl ([.ref hB, .ref hV, .int kd, .int dp]) ++ List.replicate (4 - (lg_sl ([.ref hB, .ref hV, .int kd, .int dp])).length) Slot.unset).toArray = ls at hl ⊢
  exact c_X0_hookBody_0 l G A hB hT hW hEn hV k dp K hK ⟨⟨B.exec, B.bytes, hml, findClass_of_methodNamed B.named, atoms_spec (ws := wsX0_hookBody) B.pre⟩, B.returns, B.notSynchronized⟩ hE kd u hP hD hok va_S.rf hl rfl

-- FerryDecks$Bodies.pullBody
def f_X0_pullBody_k40 (K : Int32 → Int32 → Int32 → BS → Int32 × BS) (n : Int32) (q25 : Int32 × BS) (q40 : Int32 × BS) : Int32 × BS :=
  ((q25.1 * n) + q40.1, q40.2)
def f_X0_pullBody_k25 (K : Int32 → Int32 → Int32 → BS → Int32 × BS) (n : Int32) (q25 : Int32 × BS) : Int32 × BS :=
  (f_X0_pullBody_k40 K n q25 (f_X0_askVehicle K (4 : Int32) (0 : Int32) q25.2))
def f_X0_pullBody_k14 (K : Int32 → Int32 → Int32 → BS → Int32 × BS) (q14 : Int32 × BS) : Int32 × BS :=
  (q14.1, q14.2)
def f_X0_pullBody (K : Int32 → Int32 → Int32 → BS → Int32 × BS) (kd : Int32) (n : Int32) (u : BS) : Int32 × BS :=
  (if kd = (5 : Int32) then (f_X0_pullBody_k14 K (f_X0_askAbove K kd (5 : Int32) (n + (1 : Int32)) u)) else (f_X0_pullBody_k25 K n (f_X0_askVehicle K (6 : Int32) (0 : Int32) u)))
set_option maxHeartbeats 4000000 in
set_option maxRecDepth 100000 in
theorem c_X0_pullBody_0 {p : Program} {e : Env} {s : State} {m : MethodId} {args : Array Value} {below : List Frame} {meth : Method} {c : Code} (l : Launch) (G : gC) (A : Nat → Prop) (hB hT hW hEn hV : Nat) (k : Nat) (dp : Int32) (K : Int32 → Int32 → Int32 → BS → Int32 × BS) (hK : ∀ (kd mb n : Int32) (u : BS), b_ok u → CI l yX0_start wsX0_start ({ frames := 4 * k + 4, cells := 0, slots := 0, locals := 120 * k + 60 } : Room) G A (b_W (gI G) hB hT hW hEn hV) b_ok [.ref hB, .ref hV, .int kd, .int mb, .int n, .int (dp + 1)] u (K kd mb n u)) (C0 : gX p s m args meth c cX0_pullBody 6 wsX0_pullBody RX0 (some .int)) (hE : gE G A s) (kd : Int32) (n : Int32) (u : BS) {H : Heap} {locs : List Loc} (hP : va_P (gD G) vwCl ((b_W (gI G) hB hT hW hEn hV) u) H) (hD : va_D A ((b_W (gI G) hB hT hW hEn hV) u)) (hok : b_ok u) (hS : va_S A s.heap H locs) {ls : Array Slot} (hl : lv_has ls 6 [(0, .ref hB), (1, .ref hV), (2, .int kd), (3, .int n), (4, .int dp)]) {fv : Int32 × BS} (hfv : f_X0_pullBody K kd n u = fv) : W p l e ({ frames := 4 * k + 7, cells := 0, slots := 0, locals := 120 * k + 135 } : Room) s m args below meth c H locs 0 0 (MQ below (gQi G A (b_W (gI G) hB hT hW hEn hV) b_ok fv) args s 0 0 A) (F0 m 0 ls []) := by
  obtain ⟨⟨hx, hb, hml, hown, hts⟩, hr, hlk⟩ := id C0
  have hok0 := hok
  refine lv_iload_n hx hb dX0_pullBody_0 rfl (lv_at hl 2 rfl) ?_
  refine lv_iconst (v := 5) hx hb dX0_pullBody_1 (by decide) ?_
  refine lv_icmp_ne (tgt := 18) hx hb dX0_pullBody_2 (by decide) (fun c2 => ?_) (fun c2 => ?_)
  · refine lv_aload_n hx hb dX0_pullBody_18 rfl (lv_at hl 0 rfl) ?_
    refine lv_aload_n hx hb dX0_pullBody_19 rfl (lv_at hl 1 rfl) ?_
    refine lv_bipush (v := 6) hx hb dX0_pullBody_20 (by decide) ?_
    refine lv_iconst (v := 0) hx hb dX0_pullBody_22 (by decide) ?_
    refine lv_iload hx hb dX0_pullBody_23 (lv_at hl 4 rfl) ?_
    refine gVi (u := u) (Wd := (b_W (gI G) hB hT hW hEn hV)) (ok := b_ok) (As := [.ref hV, .int (6 : Int32), .int (0 : Int32), .int dp]) (rest := []) ⟨hx, hb, hml, hown, hts⟩ (c_X0_askVehicle l G A hB hT hW hEn hV k dp K hK (6 : Int32) (0 : Int32) u hok) (cwV 4 hts gX0_pullBody_X0_askVehicle rfl rfl rfl (by decide +kernel) ⟨by show 4 * k + 5 + 1 ≤ 4 * k + 7; omega, by show 8 + (5 + 11) + (120 * k + 86) ≤ 120 * k + 135; omega⟩) hE hP hD hS (va_recv hE.1 hP (ci := 0) (q0 := 0) rfl rfl) rfl hl.1 rfl (Nat.le_of_ble_eq_true rfl) dX0_pullBody_25 ⟨Nat.zero_le _, Nat.zero_le _⟩ (fun q25 H locs e25 hP hD hok hS => ?_)
    refine lv_istore (lv' := [(5, .int q25.1), (0, .ref hB), (1, .ref hV), (2, .int kd), (3, .int n), (4, .int dp)]) hx hb dX0_pullBody_28 hl (by decide) rfl (fun ls hl => ?_)
    refine lv_iload hx hb dX0_pullBody_30 (lv_at hl 0 rfl) ?_
    refine lv_iload_n hx hb dX0_pullBody_32 rfl (lv_at hl 4 rfl) ?_
    refine lv_imul hx hb dX0_pullBody_33 ?_
    refine lv_aload_n hx hb dX0_pullBody_34 rfl (lv_at hl 1 rfl) ?_
    refine lv_aload_n hx hb dX0_pullBody_35 rfl (lv_at hl 2 rfl) ?_
    refine lv_iconst (v := 4) hx hb dX0_pullBody_36 (by decide) ?_
    refine lv_iconst (v := 0) hx hb dX0_pullBody_37 (by decide) ?_
    refine lv_iload hx hb dX0_pullBody_38 (lv_at hl 5 rfl) ?_
    refine gVi (u := q25.2) (Wd := (b_W (gI G) hB hT hW hEn hV)) (ok := b_ok) (As := [.ref hV, .int (4 : Int32), .int (0 : Int32), .int dp]) (rest := [.int (q25.1 * n)]) ⟨hx, hb, hml, hown, hts⟩ (c_X0_askVehicle l G A hB hT hW hEn hV k dp K hK (4 : Int32) (0 : Int32) q25.2 hok) (cwV 4 hts gX0_pullBody_X0_askVehicle rfl rfl rfl (by decide +kernel) ⟨by show 4 * k + 5 + 1 ≤ 4 * k + 7; omega, by show 8 + (5 + 11) + (120 * k + 86) ≤ 120 * k + 135; omega⟩) hE hP hD hS (va_recv hE.1 hP (ci := 0) (q0 := 0) rfl rfl) rfl hl.1 rfl (Nat.le_of_ble_eq_true rfl) dX0_pullBody_40 ⟨Nat.zero_le _, Nat.zero_le _⟩ (fun q40 H locs e40 hP hD hok hS => ?_)
    refine lv_iadd hx hb dX0_pullBody_43 ?_
    exact gRi (u := q40.2) hx hb hr hlk hP hD hok hS (by rw [← hfv, f_X0_pullBody, if_neg c2, ← e25, f_X0_pullBody_k25, ← e40, f_X0_pullBody_k40]) dX0_pullBody_44
  · refine lv_aload_n hx hb dX0_pullBody_5 rfl (lv_at hl 0 rfl) ?_
    refine lv_aload_n hx hb dX0_pullBody_6 rfl (lv_at hl 1 rfl) ?_
    refine lv_iload_n hx hb dX0_pullBody_7 rfl (lv_at hl 2 rfl) ?_
    refine lv_iconst (v := 5) hx hb dX0_pullBody_8 (by decide) ?_
    refine lv_iload_n hx hb dX0_pullBody_9 rfl (lv_at hl 3 rfl) ?_
    refine lv_iconst (v := 1) hx hb dX0_pullBody_10 (by decide) ?_
    refine lv_iadd hx hb dX0_pullBody_11 ?_
    refine lv_iload hx hb dX0_pullBody_12 (lv_at hl 4 rfl) ?_
    refine gVi (u := u) (Wd := (b_W (gI G) hB hT hW hEn hV)) (ok := b_ok) (As := [.ref hV, .int kd, .int (5 : Int32), .int (n + (1 : Int32)), .int dp]) (rest := []) ⟨hx, hb, hml, hown, hts⟩ (c_X0_askAbove l G A hB hT hW hEn hV k dp K hK kd (5 : Int32) (n + (1 : Int32)) u hok) (cwV 5 hts gX0_pullBody_X0_askAbove rfl rfl rfl (by decide +kernel) ⟨by show 4 * k + 5 + 1 ≤ 4 * k + 7; omega, by show 8 + (6 + 11) + (120 * k + 86) ≤ 120 * k + 135; omega⟩) hE hP hD hS (va_recv hE.1 hP (ci := 0) (q0 := 0) rfl rfl) rfl hl.1 rfl (Nat.le_of_ble_eq_true rfl) dX0_pullBody_14 ⟨Nat.zero_le _, Nat.zero_le _⟩ (fun q14 H locs e14 hP hD hok hS => ?_)
    exact gRi (u := q14.2) hx hb hr hlk hP hD hok hS (by rw [← hfv, f_X0_pullBody, if_pos c2, ← e14, f_X0_pullBody_k14]) dX0_pullBody_17
set_option maxHeartbeats 4000000 in
set_option maxRecDepth 100000 in
theorem c_X0_pullBody (l : Launch) (G : gC) (A : Nat → Prop) (hB hT hW hEn hV : Nat) (k : Nat) (dp : Int32) (K : Int32 → Int32 → Int32 → BS → Int32 × BS) (hK : ∀ (kd mb n : Int32) (u : BS), b_ok u → CI l yX0_start wsX0_start ({ frames := 4 * k + 4, cells := 0, slots := 0, locals := 120 * k + 60 } : Room) G A (b_W (gI G) hB hT hW hEn hV) b_ok [.ref hB, .ref hV, .int kd, .int mb, .int n, .int (dp + 1)] u (K kd mb n u)) (kd : Int32) (n : Int32) (u : BS) (hok : b_ok u) : CI l yX0_pullBody wsX0_pullBody ({ frames := 4 * k + 7, cells := 0, slots := 0, locals := 120 * k + 135 } : Room) G A (b_W (gI G) hB hT hW hEn hV) b_ok [.ref hB, .ref hV, .int kd, .int n, .int dp] u (f_X0_pullBody K kd n u) := by
  refine Met.ofW (cc := cX0_pullBody) (maxL := 6) (ret := (some .int)) (by decide) rfl ?_
  intro p e s m args below meth c s₁ B hml hv
  obtain ⟨rfl, hE, hP, hD⟩ := hv
  have hl := lv_entry ([.ref hB, .ref hV, .int kd, .int n, .int dp]) (n := 6) (Nat.le_of_ble_eq_true rfl)
  rw [lg_entry_eq]
  generalize (lg_sl ([.ref hB, .ref hV, .int kd, .int n, .int dp]) ++ List.replicate (6 - (lg_sl ([.ref hB, .ref hV, .int kd, .int n, .int dp])).length) Slot.unset).toArray = ls at hl ⊢
  exact c_X0_pullBody_0 l G A hB hT hW hEn hV k dp K hK ⟨⟨B.exec, B.bytes, hml, findClass_of_methodNamed B.named, atoms_spec (ws := wsX0_pullBody) B.pre⟩, B.returns, B.notSynchronized⟩ hE kd n u hP hD hok va_S.rf hl rfl
