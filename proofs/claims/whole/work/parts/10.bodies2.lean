-- FerryDecks$Bodies.feeBody
def f_X0_feeBody_k98 (K : Int32 → Int32 → Int32 → BS → Int32 × BS) (q27 : Int32 × BS) (q98 : Int32 × BS) : Int32 × BS :=
  (q27.1 + q98.1, q98.2)
def f_X0_feeBody_k112 (K : Int32 → Int32 → Int32 → BS → Int32 × BS) (q27 : Int32 × BS) (q112 : Int32 × BS) : Int32 × BS :=
  (q27.1 + q112.1, q112.2)
def f_X0_feeBody_k130 (K : Int32 → Int32 → Int32 → BS → Int32 × BS) (q27 : Int32 × BS) (q130 : Int32 × BS) : Int32 × BS :=
  (q27.1 + q130.1, q130.2)
def f_X0_feeBody_k27 (K : Int32 → Int32 → Int32 → BS → Int32 × BS) (kd : Int32) (q27 : Int32 × BS) : Int32 × BS :=
  (if kd = 1 then (if q27.1 - (b_T q27.2 ((3 : Int32) : Int32).toNatClampNeg) < (0 : Int32) then (0 : Int32) else q27.1 - (b_T q27.2 ((3 : Int32) : Int32).toNatClampNeg), q27.2) else (if kd = 3 then (f_X0_feeBody_k98 K q27 (f_X0_askVehicle K (0 : Int32) (0 : Int32) q27.2)) else (if kd = 5 then (f_X0_feeBody_k112 K q27 (f_X0_askAbove K kd (1 : Int32) (0 : Int32) q27.2)) else (if kd = 7 then ((2 : Int32) * q27.1, q27.2) else (f_X0_feeBody_k130 K q27 (f_X0_askVehicle K (2 : Int32) (0 : Int32) q27.2))))))
def f_X0_feeBody (K : Int32 → Int32 → Int32 → BS → Int32 × BS) (kd : Int32) (n : Int32) (u : BS) : Int32 × BS :=
  (if kd = 0 then ((b_T u ((1 : Int32) : Int32).toNatClampNeg) + (n * (b_T u ((2 : Int32) : Int32).toNatClampNeg)), u) else (f_X0_feeBody_k27 K kd (f_X0_askAbove K kd (1 : Int32) n u)))
set_option maxHeartbeats 4000000 in
set_option maxRecDepth 100000 in
theorem c_X0_feeBody_0 {p : Program} {e : Env} {s : State} {m : MethodId} {args : Array Value} {below : List Frame} {meth : Method} {c : Code} (l : Launch) (G : gC) (A : Nat → Prop) (hB hT hW hEn hV : Nat) (k : Nat) (dp : Int32) (K : Int32 → Int32 → Int32 → BS → Int32 × BS) (hK : ∀ (kd mb n : Int32) (u : BS), b_ok u → CI l yX0_start wsX0_start ({ frames := 4 * k + 4, cells := 0, slots := 0, locals := 120 * k + 60 } : Room) G A (b_W (gI G) hB hT hW hEn hV) b_ok [.ref hB, .ref hV, .int kd, .int mb, .int n, .int (dp + 1)] u (K kd mb n u)) (C0 : gX p s m args meth c cX0_feeBody 6 wsX0_feeBody RX0 (some .int)) (hE : gE G A s) (kd : Int32) (n : Int32) (u : BS) {H : Heap} {locs : List Loc} (hP : va_P (gD G) vwCl ((b_W (gI G) hB hT hW hEn hV) u) H) (hD : va_D A ((b_W (gI G) hB hT hW hEn hV) u)) (hok : b_ok u) (hS : va_S A s.heap H locs) {ls : Array Slot} (hl : lv_has ls 6 [(0, .ref hB), (1, .ref hV), (2, .int kd), (3, .int n), (4, .int dp)]) {fv : Int32 × BS} (hfv : f_X0_feeBody K kd n u = fv) : W p l e ({ frames := 4 * k + 7, cells := 0, slots := 0, locals := 120 * k + 135 } : Room) s m args below meth c H locs 0 0 (MQ below (gQi G A (b_W (gI G) hB hT hW hEn hV) b_ok fv) args s 0 0 A) (F0 m 0 ls []) := by
  obtain ⟨⟨hx, hb, hml, hown, hts⟩, hr, hlk⟩ := id C0
  have hok0 := hok
  have k0 := hts (.fieldLink RX0 9 "FerryDecks$Bodies" "terms" "[I") (by decide +kernel)
  have k1 := hts (.methodLink RX0 84 Lib.Math.max.name) (by decide +kernel)
  have k2 := hts (.static Lib.Math.max.name) (by decide +kernel)
  have k3 := hts (.initialized "java/lang/Math") (by decide +kernel)
  have k4 := hts (.code Lib.Math.max.name Lib.Math.max.code 2 (some .int)) (by decide +kernel)
  have iX0 : ∀ w ∈ wsX00, w ∈ wsX0_feeBody := by decide +kernel
  refine lv_iload_n hx hb dX0_feeBody_0 rfl (lv_at hl 2 rfl) ?_
  refine lv_if_ne (tgt := 20) hx hb dX0_feeBody_1 (by decide) (fun c1 => ?_) (fun c1 => ?_)
  · refine lv_aload_n hx hb dX0_feeBody_20 rfl (lv_at hl 0 rfl) ?_
    refine lv_aload_n hx hb dX0_feeBody_21 rfl (lv_at hl 1 rfl) ?_
    refine lv_iload_n hx hb dX0_feeBody_22 rfl (lv_at hl 2 rfl) ?_
    refine lv_iconst (v := 1) hx hb dX0_feeBody_23 (by decide) ?_
    refine lv_iload_n hx hb dX0_feeBody_24 rfl (lv_at hl 3 rfl) ?_
    refine lv_iload hx hb dX0_feeBody_25 (lv_at hl 4 rfl) ?_
    refine gVi (u := u) (Wd := (b_W (gI G) hB hT hW hEn hV)) (ok := b_ok) (As := [.ref hV, .int kd, .int (1 : Int32), .int n, .int dp]) (rest := []) ⟨hx, hb, hml, hown, hts⟩ (c_X0_askAbove l G A hB hT hW hEn hV k dp K hK kd (1 : Int32) n u hok) (cwV 5 hts gX0_feeBody_X0_askAbove rfl rfl rfl (by decide +kernel) ⟨by show 4 * k + 5 + 1 ≤ 4 * k + 7; omega, by show 8 + (6 + 11) + (120 * k + 86) ≤ 120 * k + 135; omega⟩) hE hP hD hS (va_recv hE.1 hP (ci := 0) (q0 := 0) rfl rfl) rfl hl.1 rfl (Nat.le_of_ble_eq_true rfl) dX0_feeBody_27 ⟨Nat.zero_le _, Nat.zero_le _⟩ (fun q27 H locs e27 hP hD hok hS => ?_)
    refine lv_istore (lv' := [(5, .int q27.1), (0, .ref hB), (1, .ref hV), (2, .int kd), (3, .int n), (4, .int dp)]) hx hb dX0_feeBody_30 hl (by decide) rfl (fun ls hl => ?_)
    refine lv_iload_n hx hb dX0_feeBody_32 rfl (lv_at hl 3 rfl) ?_
    by_cases c33_1 : kd = 1
    · refine gTs (off := 43) (tgt := 76) hx hb dX0_feeBody_33 rfl (by rw [c33_1]; decide) (by decide) ?_
      refine lv_iload hx hb dX0_feeBody_76 (lv_at hl 0 rfl) ?_
      refine lv_aload_n hx hb dX0_feeBody_78 rfl (lv_at hl 1 rfl) ?_
      refine va_get (D := gD G) (ci := 0) (v := .ref hT) (C := RX0) (T := TX0) (N := 3) hx hb hts iX0 hown hE.1 hP 0 rfl rfl 0 (by decide) k0 (fun _ h9 => h9) rfl dX0_feeBody_79 ?_
      refine lv_iconst (v := 3) hx hb dX0_feeBody_82 (by decide) ?_
      refine va_iald hx hb hE.1 hP 1 0 rfl rfl (gIn (by decide) (by decide) (by decide)) dX0_feeBody_83 ?_
      refine lv_isub hx hb dX0_feeBody_84 ?_
      refine lv_iconst (v := 0) hx hb dX0_feeBody_85 (by decide) ?_
      refine va_mmax hx hb (by rw [hml]; exact hl.1.symm) hown k1 k2 k3 k4 (by show 1 ≤ 4 * k + 7; omega) (by show _ + 13 ≤ 120 * k + 135; simp only [List.map, List.sum_cons, List.sum_nil, Value.category]; omega) (Nat.zero_le _) (Nat.zero_le _) dX0_feeBody_86 ?_
      exact gRi (u := q27.2) hx hb hr hlk hP hD hok hS (by rw [← hfv, f_X0_feeBody, if_neg c1, ← e27, f_X0_feeBody_k27, if_pos c33_1]) dX0_feeBody_89
    by_cases c33_3 : kd = 3
    · refine gTs (off := 57) (tgt := 90) hx hb dX0_feeBody_33 rfl (by rw [c33_3]; decide) (by decide) ?_
      refine lv_iload hx hb dX0_feeBody_90 (lv_at hl 0 rfl) ?_
      refine lv_aload_n hx hb dX0_feeBody_92 rfl (lv_at hl 1 rfl) ?_
      refine lv_aload_n hx hb dX0_feeBody_93 rfl (lv_at hl 2 rfl) ?_
      refine lv_iconst (v := 0) hx hb dX0_feeBody_94 (by decide) ?_
      refine lv_iconst (v := 0) hx hb dX0_feeBody_95 (by decide) ?_
      refine lv_iload hx hb dX0_feeBody_96 (lv_at hl 5 rfl) ?_
      refine gVi (u := q27.2) (Wd := (b_W (gI G) hB hT hW hEn hV)) (ok := b_ok) (As := [.ref hV, .int (0 : Int32), .int (0 : Int32), .int dp]) (rest := [.int q27.1]) ⟨hx, hb, hml, hown, hts⟩ (c_X0_askVehicle l G A hB hT hW hEn hV k dp K hK (0 : Int32) (0 : Int32) q27.2 hok) (cwV 4 hts gX0_feeBody_X0_askVehicle rfl rfl rfl (by decide +kernel) ⟨by show 4 * k + 5 + 1 ≤ 4 * k + 7; omega, by show 8 + (5 + 11) + (120 * k + 86) ≤ 120 * k + 135; omega⟩) hE hP hD hS (va_recv hE.1 hP (ci := 0) (q0 := 0) rfl rfl) rfl hl.1 rfl (Nat.le_of_ble_eq_true rfl) dX0_feeBody_98 ⟨Nat.zero_le _, Nat.zero_le _⟩ (fun q98 H locs e98 hP hD hok hS => ?_)
      refine lv_iadd hx hb dX0_feeBody_101 ?_
      exact gRi (u := q98.2) hx hb hr hlk hP hD hok hS (by rw [← hfv, f_X0_feeBody, if_neg c1, ← e27, f_X0_feeBody_k27, if_neg c33_1, if_pos c33_3, ← e98, f_X0_feeBody_k98]) dX0_feeBody_102
    by_cases c33_5 : kd = 5
    · refine gTs (off := 70) (tgt := 103) hx hb dX0_feeBody_33 rfl (by rw [c33_5]; decide) (by decide) ?_
      refine lv_iload hx hb dX0_feeBody_103 (lv_at hl 0 rfl) ?_
      refine lv_aload_n hx hb dX0_feeBody_105 rfl (lv_at hl 1 rfl) ?_
      refine lv_aload_n hx hb dX0_feeBody_106 rfl (lv_at hl 2 rfl) ?_
      refine lv_iload_n hx hb dX0_feeBody_107 rfl (lv_at hl 3 rfl) ?_
      refine lv_iconst (v := 1) hx hb dX0_feeBody_108 (by decide) ?_
      refine lv_iconst (v := 0) hx hb dX0_feeBody_109 (by decide) ?_
      refine lv_iload hx hb dX0_feeBody_110 (lv_at hl 5 rfl) ?_
      refine gVi (u := q27.2) (Wd := (b_W (gI G) hB hT hW hEn hV)) (ok := b_ok) (As := [.ref hV, .int kd, .int (1 : Int32), .int (0 : Int32), .int dp]) (rest := [.int q27.1]) ⟨hx, hb, hml, hown, hts⟩ (c_X0_askAbove l G A hB hT hW hEn hV k dp K hK kd (1 : Int32) (0 : Int32) q27.2 hok) (cwV 5 hts gX0_feeBody_X0_askAbove rfl rfl rfl (by decide +kernel) ⟨by show 4 * k + 5 + 1 ≤ 4 * k + 7; omega, by show 8 + (6 + 11) + (120 * k + 86) ≤ 120 * k + 135; omega⟩) hE hP hD hS (va_recv hE.1 hP (ci := 0) (q0 := 0) rfl rfl) rfl hl.1 rfl (Nat.le_of_ble_eq_true rfl) dX0_feeBody_112 ⟨Nat.zero_le _, Nat.zero_le _⟩ (fun q112 H locs e112 hP hD hok hS => ?_)
      refine lv_iadd hx hb dX0_feeBody_115 ?_
      exact gRi (u := q112.2) hx hb hr hlk hP hD hok hS (by rw [← hfv, f_X0_feeBody, if_neg c1, ← e27, f_X0_feeBody_k27, if_neg c33_1, if_neg c33_3, if_pos c33_5, ← e112, f_X0_feeBody_k112]) dX0_feeBody_116
    by_cases c33_7 : kd = 7
    · refine gTs (off := 84) (tgt := 117) hx hb dX0_feeBody_33 rfl (by rw [c33_7]; decide) (by decide) ?_
      refine lv_iconst (v := 2) hx hb dX0_feeBody_117 (by decide) ?_
      refine lv_iload hx hb dX0_feeBody_118 (lv_at hl 0 rfl) ?_
      refine lv_imul hx hb dX0_feeBody_120 ?_
      exact gRi (u := q27.2) hx hb hr hlk hP hD hok hS (by rw [← hfv, f_X0_feeBody, if_neg c1, ← e27, f_X0_feeBody_k27, if_neg c33_1, if_neg c33_3, if_neg c33_5, if_pos c33_7]) dX0_feeBody_121
    refine gTs (off := 89) (tgt := 122) hx hb dX0_feeBody_33 rfl (by have z1 := lv_neT (a := 1) c33_1 (by decide); have z3 := lv_neT (a := 3) c33_3 (by decide); have z5 := lv_neT (a := 5) c33_5 (by decide); have z7 := lv_neT (a := 7) c33_7 (by decide); unfold tsO; by_cases hh : kd.toInt < 1 ∨ 7 < kd.toInt; (rw [if_pos hh]); (rw [if_neg hh]; rcases (show kd.toInt = 2 ∨ kd.toInt = 4 ∨ kd.toInt = 6 by omega) with h | h | h <;> rw [h] <;> rfl)) (by decide) ?_
    refine lv_iload hx hb dX0_feeBody_122 (lv_at hl 0 rfl) ?_
    refine lv_aload_n hx hb dX0_feeBody_124 rfl (lv_at hl 1 rfl) ?_
    refine lv_aload_n hx hb dX0_feeBody_125 rfl (lv_at hl 2 rfl) ?_
    refine lv_iconst (v := 2) hx hb dX0_feeBody_126 (by decide) ?_
    refine lv_iconst (v := 0) hx hb dX0_feeBody_127 (by decide) ?_
    refine lv_iload hx hb dX0_feeBody_128 (lv_at hl 5 rfl) ?_
    refine gVi (u := q27.2) (Wd := (b_W (gI G) hB hT hW hEn hV)) (ok := b_ok) (As := [.ref hV, .int (2 : Int32), .int (0 : Int32), .int dp]) (rest := [.int q27.1]) ⟨hx, hb, hml, hown, hts⟩ (c_X0_askVehicle l G A hB hT hW hEn hV k dp K hK (2 : Int32) (0 : Int32) q27.2 hok) (cwV 4 hts gX0_feeBody_X0_askVehicle rfl rfl rfl (by decide +kernel) ⟨by show 4 * k + 5 + 1 ≤ 4 * k + 7; omega, by show 8 + (5 + 11) + (120 * k + 86) ≤ 120 * k + 135; omega⟩) hE hP hD hS (va_recv hE.1 hP (ci := 0) (q0 := 0) rfl rfl) rfl hl.1 rfl (Nat.le_of_ble_eq_true rfl) dX0_feeBody_130 ⟨Nat.zero_le _, Nat.zero_le _⟩ (fun q130 H locs e130 hP hD hok hS => ?_)
    refine lv_iadd hx hb dX0_feeBody_133 ?_
    exact gRi (u := q130.2) hx hb hr hlk hP hD hok hS (by rw [← hfv, f_X0_feeBody, if_neg c1, ← e27, f_X0_feeBody_k27, if_neg c33_1, if_neg c33_3, if_neg c33_5, if_neg c33_7, ← e130, f_X0_feeBody_k130]) dX0_feeBody_134
  · refine lv_aload_n hx hb dX0_feeBody_4 rfl (lv_at hl 0 rfl) ?_
    refine va_get (D := gD G) (ci := 0) (v := .ref hT) (C := RX0) (T := TX0) (N := 3) hx hb hts iX0 hown hE.1 hP 0 rfl rfl 0 (by decide) k0 (fun _ h9 => h9) rfl dX0_feeBody_5 ?_
    refine lv_iconst (v := 1) hx hb dX0_feeBody_8 (by decide) ?_
    refine va_iald hx hb hE.1 hP 1 0 rfl rfl (gIn (by decide) (by decide) (by decide)) dX0_feeBody_9 ?_
    refine lv_iload_n hx hb dX0_feeBody_10 rfl (lv_at hl 3 rfl) ?_
    refine lv_aload_n hx hb dX0_feeBody_11 rfl (lv_at hl 0 rfl) ?_
    refine va_get (D := gD G) (ci := 0) (v := .ref hT) (C := RX0) (T := TX0) (N := 3) hx hb hts iX0 hown hE.1 hP 0 rfl rfl 0 (by decide) k0 (fun _ h9 => h9) rfl dX0_feeBody_12 ?_
    refine lv_iconst (v := 2) hx hb dX0_feeBody_15 (by decide) ?_
    refine va_iald hx hb hE.1 hP 1 0 rfl rfl (gIn (by decide) (by decide) (by decide)) dX0_feeBody_16 ?_
    refine lv_imul hx hb dX0_feeBody_17 ?_
    refine lv_iadd hx hb dX0_feeBody_18 ?_
    exact gRi (u := u) hx hb hr hlk hP hD hok hS (by rw [← hfv, f_X0_feeBody, if_pos c1]) dX0_feeBody_19
set_option maxHeartbeats 4000000 in
set_option maxRecDepth 100000 in
theorem c_X0_feeBody (l : Launch) (G : gC) (A : Nat → Prop) (hB hT hW hEn hV : Nat) (k : Nat) (dp : Int32) (K : Int32 → Int32 → Int32 → BS → Int32 × BS) (hK : ∀ (kd mb n : Int32) (u : BS), b_ok u → CI l yX0_start wsX0_start ({ frames := 4 * k + 4, cells := 0, slots := 0, locals := 120 * k + 60 } : Room) G A (b_W (gI G) hB hT hW hEn hV) b_ok [.ref hB, .ref hV, .int kd, .int mb, .int n, .int (dp + 1)] u (K kd mb n u)) (kd : Int32) (n : Int32) (u : BS) (hok : b_ok u) : CI l yX0_feeBody wsX0_feeBody ({ frames := 4 * k + 7, cells := 0, slots := 0, locals := 120 * k + 135 } : Room) G A (b_W (gI G) hB hT hW hEn hV) b_ok [.ref hB, .ref hV, .int kd, .int n, .int dp] u (f_X0_feeBody K kd n u) := by
  refine Met.ofW (cc := cX0_feeBody) (maxL := 6) (ret := (some .int)) (by decide) rfl ?_
  intro p e s m args below meth c s₁ B hml hv
  obtain ⟨rfl, hE, hP, hD⟩ := hv
  have hl := lv_entry ([.ref hB, .ref hV, .int kd, .int n, .int dp]) (n := 6) (Nat.le_of_ble_eq_true rfl)
  rw [lg_entry_eq]
  generalize (lg_sl ([.ref hB, .ref hV, .int kd, .int n, .int dp]) ++ List.replicate (6 - (lg_sl ([.ref hB, .ref hV, .int kd, .int n, .int dp])).length) Slot.unset).toArray = ls at hl ⊢
  exact c_X0_feeBody_0 l G A hB hT hW hEn hV k dp K hK ⟨⟨B.exec, B.bytes, hml, findClass_of_methodNamed B.named, atoms_spec (ws := wsX0_feeBody) B.pre⟩, B.returns, B.notSynchronized⟩ hE kd n u hP hD hok va_S.rf hl rfl

-- FerryDecks$Bodies.riskBody
def f_X0_riskBody_k106 (K : Int32 → Int32 → Int32 → BS → Int32 × BS) (q63 : Int32 × BS) (q106 : Int32 × BS) : Int32 × BS :=
  (if q106.1 = 0 then (q63.1, q106.2) else ((20 : Int32), q106.2))
def f_X0_riskBody_k136 (K : Int32 → Int32 → Int32 → BS → Int32 × BS) (q136 : Int32 × BS) : Int32 × BS :=
  (q136.1, q136.2)
def f_X0_riskBody_k121 (K : Int32 → Int32 → Int32 → BS → Int32 × BS) (q63 : Int32 × BS) (q121 : Int32 × BS) : Int32 × BS :=
  (if q121.1 = 0 then (if (q63.1 - q63.1 / (2 : Int32) * (2 : Int32)) = 0 then (q63.1, q121.2) else (f_X0_riskBody_k136 K (f_X0_fail (3 : Int32) q121.2))) else (q63.1, q121.2))
def f_X0_riskBody_k147 (K : Int32 → Int32 → Int32 → BS → Int32 × BS) (q63 : Int32 × BS) (q147 : Int32 × BS) : Int32 × BS :=
  (if q147.1 = 0 then (q63.1, q147.2) else ((50 : Int32), q147.2))
def f_X0_riskBody_k63 (K : Int32 → Int32 → Int32 → BS → Int32 × BS) (x2 : Int32) (q63 : Int32 × BS) : Int32 × BS :=
  (if x2 = 4 then (f_X0_riskBody_k106 K q63 (f_X0_takes (1 : Int32) q63.2)) else (if x2 = 8 then (f_X0_riskBody_k121 K q63 (f_X0_failed q63.2)) else (if x2 = 9 then (f_X0_riskBody_k147 K q63 (f_X0_takes (3 : Int32) q63.2)) else (q63.1, q63.2))))
def f_X0_riskBody_61 (K : Int32 → Int32 → Int32 → BS → Int32 × BS) (x2 : Int32) (s0 : Int32) (s1 : Int32) (s2 : Int32) (u : BS) : Int32 × BS :=
  (f_X0_riskBody_k63 K x2 (f_X0_askAbove K s2 s1 s0 u))
def f_X0_riskBody_45 (K : Int32 → Int32 → Int32 → BS → Int32 × BS) (x2 : Int32) (x3 : Int32) (u : BS) : Int32 × BS :=
  (if x2 = (2 : Int32) then f_X0_riskBody_61 K x2 (x3 + (2 : Int32)) (2 : Int32) x2 u else f_X0_riskBody_61 K x2 x3 (2 : Int32) x2 u)
def f_X0_riskBody_k41 (K : Int32 → Int32 → Int32 → BS → Int32 × BS) (q41 : Int32 × BS) : Int32 × BS :=
  (q41.1, q41.2)
def f_X0_riskBody_k12 (K : Int32 → Int32 → Int32 → BS → Int32 × BS) (q12 : Int32 × BS) : Int32 × BS :=
  (q12.1, q12.2)
def f_X0_riskBody (K : Int32 → Int32 → Int32 → BS → Int32 × BS) (kd : Int32) (n : Int32) (u : BS) : Int32 × BS :=
  (if kd = 0 then (if n ≤ (9 : Int32) then (n, u) else (f_X0_riskBody_k12 K (f_X0_fail (1 : Int32) u))) else (if kd = (6 : Int32) then (if (b_ld u) ≤ (b_T u ((4 : Int32) : Int32).toNatClampNeg) then f_X0_riskBody_45 K kd n u else (f_X0_riskBody_k41 K (f_X0_fail (2 : Int32) u))) else f_X0_riskBody_45 K kd n u))
set_option maxHeartbeats 4000000 in
set_option maxRecDepth 100000 in
theorem c_X0_riskBody_61 {p : Program} {e : Env} {s : State} {m : MethodId} {args : Array Value} {below : List Frame} {meth : Method} {c : Code} (l : Launch) (G : gC) (A : Nat → Prop) (hB hT hW hEn hV : Nat) (k : Nat) (dp : Int32) (K : Int32 → Int32 → Int32 → BS → Int32 × BS) (hK : ∀ (kd mb n : Int32) (u : BS), b_ok u → CI l yX0_start wsX0_start ({ frames := 4 * k + 4, cells := 0, slots := 0, locals := 120 * k + 60 } : Room) G A (b_W (gI G) hB hT hW hEn hV) b_ok [.ref hB, .ref hV, .int kd, .int mb, .int n, .int (dp + 1)] u (K kd mb n u)) (C0 : gX p s m args meth c cX0_riskBody 6 wsX0_riskBody RX0 (some .int)) (hE : gE G A s) (x2 : Int32) (s0 : Int32) (s1 : Int32) (s2 : Int32) (u : BS) {H : Heap} {locs : List Loc} (hP : va_P (gD G) vwCl ((b_W (gI G) hB hT hW hEn hV) u) H) (hD : va_D A ((b_W (gI G) hB hT hW hEn hV) u)) (hok : b_ok u) (hS : va_S A s.heap H locs) {ls : Array Slot} (hl : lv_has ls 6 [(0, .ref hB), (2, .int x2), (4, .int dp)]) {fv : Int32 × BS} (hfv : f_X0_riskBody_61 K x2 s0 s1 s2 u = fv) : W p l e ({ frames := 4 * k + 7, cells := 0, slots := 0, locals := 120 * k + 135 } : Room) s m args below meth c H locs 0 0 (MQ below (gQi G A (b_W (gI G) hB hT hW hEn hV) b_ok fv) args s 0 0 A) (F0 m 61 ls [.int s0, .int s1, .int s2, .ref hV, .ref hB]) := by
  obtain ⟨⟨hx, hb, hml, hown, hts⟩, hr, hlk⟩ := id C0
  have hok0 := hok
  refine lv_iload hx hb dX0_riskBody_61 (lv_at hl 2 rfl) ?_
  refine gVi (u := u) (Wd := (b_W (gI G) hB hT hW hEn hV)) (ok := b_ok) (As := [.ref hV, .int s2, .int s1, .int s0, .int dp]) (rest := []) ⟨hx, hb, hml, hown, hts⟩ (c_X0_askAbove l G A hB hT hW hEn hV k dp K hK s2 s1 s0 u hok) (cwV 5 hts gX0_riskBody_X0_askAbove rfl rfl rfl (by decide +kernel) ⟨by show 4 * k + 5 + 1 ≤ 4 * k + 7; omega, by show 8 + (6 + 11) + (120 * k + 86) ≤ 120 * k + 135; omega⟩) hE hP hD hS (va_recv hE.1 hP (ci := 0) (q0 := 0) rfl rfl) rfl hl.1 rfl (Nat.le_of_ble_eq_true rfl) dX0_riskBody_63 ⟨Nat.zero_le _, Nat.zero_le _⟩ (fun q63 H locs e63 hP hD hok hS => ?_)
  refine lv_istore (lv' := [(5, .int q63.1), (0, .ref hB), (2, .int x2), (4, .int dp)]) hx hb dX0_riskBody_66 hl (by decide) rfl (fun ls hl => ?_)
  refine lv_iload_n hx hb dX0_riskBody_68 rfl (lv_at hl 2 rfl) ?_
  by_cases c69_4 : x2 = 4
  · refine lv_lookup (off := 35) (tgt := 104) hx hb dX0_riskBody_69 (by decide) (by rw [c69_4]; decide) (by decide) ?_
    refine lv_aload_n hx hb dX0_riskBody_104 rfl (lv_at hl 1 rfl) ?_
    refine lv_iconst (v := 1) hx hb dX0_riskBody_105 (by decide) ?_
    refine gVi (u := q63.2) (Wd := (b_W (gI G) hB hT hW hEn hV)) (ok := b_ok) (As := [.int (1 : Int32)]) (rest := []) ⟨hx, hb, hml, hown, hts⟩ (c_X0_takes l G A hB hT hW hEn hV (1 : Int32) q63.2 hok) (cwV 1 hts gX0_riskBody_X0_takes rfl rfl rfl (by decide +kernel) ⟨by show 0 + 1 ≤ 4 * k + 7; omega, by show 8 + (2 + 11) + 0 ≤ 120 * k + 135; omega⟩) hE hP hD hS (va_recv hE.1 hP (ci := 0) (q0 := 0) rfl rfl) rfl hl.1 rfl (Nat.le_of_ble_eq_true rfl) dX0_riskBody_106 ⟨Nat.zero_le _, Nat.zero_le _⟩ (fun q106 H locs e106 hP hD hok hS => ?_)
    refine lv_if_eq (tgt := 117) hx hb dX0_riskBody_109 (by decide) (fun c109 => ?_) (fun c109 => ?_)
    · refine lv_iload hx hb dX0_riskBody_117 (lv_at hl 0 rfl) ?_
      exact gRi (u := q106.2) hx hb hr hlk hP hD hok hS (by rw [← hfv, f_X0_riskBody_61, ← e63, f_X0_riskBody_k63, if_pos c69_4, ← e106, f_X0_riskBody_k106, if_pos c109]) dX0_riskBody_119
    · refine lv_bipush (v := 20) hx hb dX0_riskBody_112 (by decide) ?_
      refine lv_goto (tgt := 119) hx hb dX0_riskBody_114 (by decide) ?_
      exact gRi (u := q106.2) hx hb hr hlk hP hD hok hS (by rw [← hfv, f_X0_riskBody_61, ← e63, f_X0_riskBody_k63, if_pos c69_4, ← e106, f_X0_riskBody_k106, if_neg c109]) dX0_riskBody_119
  by_cases c69_8 : x2 = 8
  · refine lv_lookup (off := 51) (tgt := 120) hx hb dX0_riskBody_69 (by decide) (by rw [c69_8]; decide) (by decide) ?_
    refine lv_aload_n hx hb dX0_riskBody_120 rfl (lv_at hl 1 rfl) ?_
    refine gVi (u := q63.2) (Wd := (b_W (gI G) hB hT hW hEn hV)) (ok := b_ok) (As := []) (rest := []) ⟨hx, hb, hml, hown, hts⟩ (c_X0_failed l G A hB hT hW hEn hV q63.2 hok) (cwV 0 hts gX0_riskBody_X0_failed rfl rfl rfl (by decide +kernel) ⟨by show 0 + 1 ≤ 4 * k + 7; omega, by show 8 + (1 + 11) + 0 ≤ 120 * k + 135; omega⟩) hE hP hD hS (va_recv hE.1 hP (ci := 0) (q0 := 0) rfl rfl) rfl hl.1 rfl (Nat.le_of_ble_eq_true rfl) dX0_riskBody_121 ⟨Nat.zero_le _, Nat.zero_le _⟩ (fun q121 H locs e121 hP hD hok hS => ?_)
    refine lv_if_ne (tgt := 142) hx hb dX0_riskBody_124 (by decide) (fun c124 => ?_) (fun c124 => ?_)
    · refine lv_iload hx hb dX0_riskBody_142 (lv_at hl 0 rfl) ?_
      exact gRi (u := q121.2) hx hb hr hlk hP hD hok hS (by rw [← hfv, f_X0_riskBody_61, ← e63, f_X0_riskBody_k63, if_neg c69_4, if_pos c69_8, ← e121, f_X0_riskBody_k121, if_neg c124]) dX0_riskBody_144
    · refine lv_iload hx hb dX0_riskBody_127 (lv_at hl 0 rfl) ?_
      refine lv_iconst (v := 2) hx hb dX0_riskBody_129 (by decide) ?_
      refine lv_irem hx hb dX0_riskBody_130 (by decide) ?_
      refine lv_if_eq (tgt := 142) hx hb dX0_riskBody_131 (by decide) (fun c131 => ?_) (fun c131 => ?_)
      · refine lv_iload hx hb dX0_riskBody_142 (lv_at hl 0 rfl) ?_
        exact gRi (u := q121.2) hx hb hr hlk hP hD hok hS (by rw [← hfv, f_X0_riskBody_61, ← e63, f_X0_riskBody_k63, if_neg c69_4, if_pos c69_8, ← e121, f_X0_riskBody_k121, if_pos c124, if_pos c131]) dX0_riskBody_144
      · refine lv_aload_n hx hb dX0_riskBody_134 rfl (lv_at hl 1 rfl) ?_
        refine lv_iconst (v := 3) hx hb dX0_riskBody_135 (by decide) ?_
        refine gVi (u := q121.2) (Wd := (b_W (gI G) hB hT hW hEn hV)) (ok := b_ok) (As := [.int (3 : Int32)]) (rest := []) ⟨hx, hb, hml, hown, hts⟩ (c_X0_fail l G A hB hT hW hEn hV (3 : Int32) q121.2 hok) (cwV 1 hts gX0_riskBody_X0_fail rfl rfl rfl (by decide +kernel) ⟨by show 0 + 1 ≤ 4 * k + 7; omega, by show 8 + (2 + 11) + 0 ≤ 120 * k + 135; omega⟩) hE hP hD hS (va_recv hE.1 hP (ci := 0) (q0 := 0) rfl rfl) rfl hl.1 rfl (Nat.le_of_ble_eq_true rfl) dX0_riskBody_136 ⟨Nat.zero_le _, Nat.zero_le _⟩ (fun q136 H locs e136 hP hD hok hS => ?_)
        refine lv_goto (tgt := 144) hx hb dX0_riskBody_139 (by decide) ?_
        exact gRi (u := q136.2) hx hb hr hlk hP hD hok hS (by rw [← hfv, f_X0_riskBody_61, ← e63, f_X0_riskBody_k63, if_neg c69_4, if_pos c69_8, ← e121, f_X0_riskBody_k121, if_pos c124, if_neg c131, ← e136, f_X0_riskBody_k136]) dX0_riskBody_144
  by_cases c69_9 : x2 = 9
  · refine lv_lookup (off := 76) (tgt := 145) hx hb dX0_riskBody_69 (by decide) (by rw [c69_9]; decide) (by decide) ?_
    refine lv_aload_n hx hb dX0_riskBody_145 rfl (lv_at hl 1 rfl) ?_
    refine lv_iconst (v := 3) hx hb dX0_riskBody_146 (by decide) ?_
    refine gVi (u := q63.2) (Wd := (b_W (gI G) hB hT hW hEn hV)) (ok := b_ok) (As := [.int (3 : Int32)]) (rest := []) ⟨hx, hb, hml, hown, hts⟩ (c_X0_takes l G A hB hT hW hEn hV (3 : Int32) q63.2 hok) (cwV 1 hts gX0_riskBody_X0_takes rfl rfl rfl (by decide +kernel) ⟨by show 0 + 1 ≤ 4 * k + 7; omega, by show 8 + (2 + 11) + 0 ≤ 120 * k + 135; omega⟩) hE hP hD hS (va_recv hE.1 hP (ci := 0) (q0 := 0) rfl rfl) rfl hl.1 rfl (Nat.le_of_ble_eq_true rfl) dX0_riskBody_147 ⟨Nat.zero_le _, Nat.zero_le _⟩ (fun q147 H locs e147 hP hD hok hS => ?_)
    refine lv_if_eq (tgt := 158) hx hb dX0_riskBody_150 (by decide) (fun c150 => ?_) (fun c150 => ?_)
    · refine lv_iload hx hb dX0_riskBody_158 (lv_at hl 0 rfl) ?_
      exact gRi (u := q147.2) hx hb hr hlk hP hD hok hS (by rw [← hfv, f_X0_riskBody_61, ← e63, f_X0_riskBody_k63, if_neg c69_4, if_neg c69_8, if_pos c69_9, ← e147, f_X0_riskBody_k147, if_pos c150]) dX0_riskBody_160
    · refine lv_bipush (v := 50) hx hb dX0_riskBody_153 (by decide) ?_
      refine lv_goto (tgt := 160) hx hb dX0_riskBody_155 (by decide) ?_
      exact gRi (u := q147.2) hx hb hr hlk hP hD hok hS (by rw [← hfv, f_X0_riskBody_61, ← e63, f_X0_riskBody_k63, if_neg c69_4, if_neg c69_8, if_pos c69_9, ← e147, f_X0_riskBody_k147, if_neg c150]) dX0_riskBody_160
  refine lv_lookup (off := 92) (tgt := 161) hx hb dX0_riskBody_69 (by decide) (by show Op.lookupswitch.offset [(4, 35), (8, 51), (9, 76)] 92 x2.toInt = 92; rw [lv_osw (a := 4) c69_4 (by decide), lv_osw (a := 8) c69_8 (by decide), lv_osw (a := 9) c69_9 (by decide)]; rfl) (by decide) ?_
  refine lv_iload hx hb dX0_riskBody_161 (lv_at hl 0 rfl) ?_
  exact gRi (u := q63.2) hx hb hr hlk hP hD hok hS (by rw [← hfv, f_X0_riskBody_61, ← e63, f_X0_riskBody_k63, if_neg c69_4, if_neg c69_8, if_neg c69_9]) dX0_riskBody_163
set_option maxHeartbeats 4000000 in
set_option maxRecDepth 100000 in
theorem c_X0_riskBody_45 {p : Program} {e : Env} {s : State} {m : MethodId} {args : Array Value} {below : List Frame} {meth : Method} {c : Code} (l : Launch) (G : gC) (A : Nat → Prop) (hB hT hW hEn hV : Nat) (k : Nat) (dp : Int32) (K : Int32 → Int32 → Int32 → BS → Int32 × BS) (hK : ∀ (kd mb n : Int32) (u : BS), b_ok u → CI l yX0_start wsX0_start ({ frames := 4 * k + 4, cells := 0, slots := 0, locals := 120 * k + 60 } : Room) G A (b_W (gI G) hB hT hW hEn hV) b_ok [.ref hB, .ref hV, .int kd, .int mb, .int n, .int (dp + 1)] u (K kd mb n u)) (C0 : gX p s m args meth c cX0_riskBody 6 wsX0_riskBody RX0 (some .int)) (hE : gE G A s) (x2 : Int32) (x3 : Int32) (u : BS) {H : Heap} {locs : List Loc} (hP : va_P (gD G) vwCl ((b_W (gI G) hB hT hW hEn hV) u) H) (hD : va_D A ((b_W (gI G) hB hT hW hEn hV) u)) (hok : b_ok u) (hS : va_S A s.heap H locs) {ls : Array Slot} (hl : lv_has ls 6 [(0, .ref hB), (1, .ref hV), (2, .int x2), (3, .int x3), (4, .int dp)]) {fv : Int32 × BS} (hfv : f_X0_riskBody_45 K x2 x3 u = fv) : W p l e ({ frames := 4 * k + 7, cells := 0, slots := 0, locals := 120 * k + 135 } : Room) s m args below meth c H locs 0 0 (MQ below (gQi G A (b_W (gI G) hB hT hW hEn hV) b_ok fv) args s 0 0 A) (F0 m 45 ls []) := by
  obtain ⟨⟨hx, hb, hml, hown, hts⟩, hr, hlk⟩ := id C0
  have hok0 := hok
  refine lv_aload_n hx hb dX0_riskBody_45 rfl (lv_at hl 0 rfl) ?_
  refine lv_aload_n hx hb dX0_riskBody_46 rfl (lv_at hl 1 rfl) ?_
  refine lv_iload_n hx hb dX0_riskBody_47 rfl (lv_at hl 2 rfl) ?_
  refine lv_iconst (v := 2) hx hb dX0_riskBody_48 (by decide) ?_
  refine lv_iload_n hx hb dX0_riskBody_49 rfl (lv_at hl 2 rfl) ?_
  refine lv_iconst (v := 2) hx hb dX0_riskBody_50 (by decide) ?_
  refine lv_icmp_ne (tgt := 60) hx hb dX0_riskBody_51 (by decide) (fun c51 => ?_) (fun c51 => ?_)
  · refine lv_iload_n hx hb dX0_riskBody_60 rfl (lv_at hl 3 rfl) ?_
    exact c_X0_riskBody_61 l G A hB hT hW hEn hV k dp K hK C0 hE x2 x3 (2 : Int32) x2 u hP hD hok hS (lv_sub hl [0, 2, 4] rfl) (by rw [← hfv, f_X0_riskBody_45, if_neg c51])
  · refine lv_iload_n hx hb dX0_riskBody_54 rfl (lv_at hl 3 rfl) ?_
    refine lv_iconst (v := 2) hx hb dX0_riskBody_55 (by decide) ?_
    refine lv_iadd hx hb dX0_riskBody_56 ?_
    refine lv_goto (tgt := 61) hx hb dX0_riskBody_57 (by decide) ?_
    exact c_X0_riskBody_61 l G A hB hT hW hEn hV k dp K hK C0 hE x2 (x3 + (2 : Int32)) (2 : Int32) x2 u hP hD hok hS (lv_sub hl [0, 2, 4] rfl) (by rw [← hfv, f_X0_riskBody_45, if_pos c51])
set_option maxHeartbeats 4000000 in
set_option maxRecDepth 100000 in
theorem c_X0_riskBody_0 {p : Program} {e : Env} {s : State} {m : MethodId} {args : Array Value} {below : List Frame} {meth : Method} {c : Code} (l : Launch) (G : gC) (A : Nat → Prop) (hB hT hW hEn hV : Nat) (k : Nat) (dp : Int32) (K : Int32 → Int32 → Int32 → BS → Int32 × BS) (hK : ∀ (kd mb n : Int32) (u : BS), b_ok u → CI l yX0_start wsX0_start ({ frames := 4 * k + 4, cells := 0, slots := 0, locals := 120 * k + 60 } : Room) G A (b_W (gI G) hB hT hW hEn hV) b_ok [.ref hB, .ref hV, .int kd, .int mb, .int n, .int (dp + 1)] u (K kd mb n u)) (C0 : gX p s m args meth c cX0_riskBody 6 wsX0_riskBody RX0 (some .int)) (hE : gE G A s) (kd : Int32) (n : Int32) (u : BS) {H : Heap} {locs : List Loc} (hP : va_P (gD G) vwCl ((b_W (gI G) hB hT hW hEn hV) u) H) (hD : va_D A ((b_W (gI G) hB hT hW hEn hV) u)) (hok : b_ok u) (hS : va_S A s.heap H locs) {ls : Array Slot} (hl : lv_has ls 6 [(0, .ref hB), (1, .ref hV), (2, .int kd), (3, .int n), (4, .int dp)]) {fv : Int32 × BS} (hfv : f_X0_riskBody K kd n u = fv) : W p l e ({ frames := 4 * k + 7, cells := 0, slots := 0, locals := 120 * k + 135 } : Room) s m args below meth c H locs 0 0 (MQ below (gQi G A (b_W (gI G) hB hT hW hEn hV) b_ok fv) args s 0 0 A) (F0 m 0 ls []) := by
  obtain ⟨⟨hx, hb, hml, hown, hts⟩, hr, hlk⟩ := id C0
  have hok0 := hok
  have k0 := hts (.fieldLink RX0 96 "FerryDecks$Vehicle" "load" "I") (by decide +kernel)
  have k1 := hts (.fieldLink RX0 9 "FerryDecks$Bodies" "terms" "[I") (by decide +kernel)
  have iX0 : ∀ w ∈ wsX00, w ∈ wsX0_riskBody := by decide +kernel
  have iX3 : ∀ w ∈ wsX30, w ∈ wsX0_riskBody := by decide +kernel
  refine lv_iload_n hx hb dX0_riskBody_0 rfl (lv_at hl 2 rfl) ?_
  refine lv_if_ne (tgt := 20) hx hb dX0_riskBody_1 (by decide) (fun c1 => ?_) (fun c1 => ?_)
  · refine lv_iload_n hx hb dX0_riskBody_20 rfl (lv_at hl 2 rfl) ?_
    refine lv_bipush (v := 6) hx hb dX0_riskBody_21 (by decide) ?_
    refine lv_icmp_ne (tgt := 45) hx hb dX0_riskBody_23 (by decide) (fun c23 => ?_) (fun c23 => ?_)
    · exact c_X0_riskBody_45 l G A hB hT hW hEn hV k dp K hK C0 hE kd n u hP hD hok hS (lv_sub hl [0, 1, 2, 3, 4] rfl) (by rw [← hfv, f_X0_riskBody, if_neg c1, if_neg c23])
    · refine lv_aload_n hx hb dX0_riskBody_26 rfl (lv_at hl 1 rfl) ?_
      refine va_get (D := gD G) (ci := 3) (v := .int (b_ld u)) (C := RX3) (T := TX3) (N := 6) hx hb hts iX3 hown hE.1 hP 4 rfl rfl 2 (by decide) k0 (fun _ h9 => h9) rfl dX0_riskBody_27 ?_
      refine lv_aload_n hx hb dX0_riskBody_30 rfl (lv_at hl 0 rfl) ?_
      refine va_get (D := gD G) (ci := 0) (v := .ref hT) (C := RX0) (T := TX0) (N := 3) hx hb hts iX0 hown hE.1 hP 0 rfl rfl 0 (by decide) k1 (fun _ h9 => h9) rfl dX0_riskBody_31 ?_
      refine lv_iconst (v := 4) hx hb dX0_riskBody_34 (by decide) ?_
      refine va_iald hx hb hE.1 hP 1 0 rfl rfl (gIn (by decide) (by decide) (by decide)) dX0_riskBody_35 ?_
      refine lv_icmp_le (tgt := 45) hx hb dX0_riskBody_36 (by decide) (fun c36 => ?_) (fun c36 => ?_)
      · exact c_X0_riskBody_45 l G A hB hT hW hEn hV k dp K hK C0 hE kd n u hP hD hok hS (lv_sub hl [0, 1, 2, 3, 4] rfl) (by rw [← hfv, f_X0_riskBody, if_neg c1, if_pos c23, if_pos c36])
      · refine lv_aload_n hx hb dX0_riskBody_39 rfl (lv_at hl 0 rfl) ?_
        refine lv_iconst (v := 2) hx hb dX0_riskBody_40 (by decide) ?_
        refine gVi (u := u) (Wd := (b_W (gI G) hB hT hW hEn hV)) (ok := b_ok) (As := [.int (2 : Int32)]) (rest := []) ⟨hx, hb, hml, hown, hts⟩ (c_X0_fail l G A hB hT hW hEn hV (2 : Int32) u hok) (cwV 1 hts gX0_riskBody_X0_fail rfl rfl rfl (by decide +kernel) ⟨by show 0 + 1 ≤ 4 * k + 7; omega, by show 8 + (2 + 11) + 0 ≤ 120 * k + 135; omega⟩) hE hP hD hS (va_recv hE.1 hP (ci := 0) (q0 := 0) rfl rfl) rfl hl.1 rfl (Nat.le_of_ble_eq_true rfl) dX0_riskBody_41 ⟨Nat.zero_le _, Nat.zero_le _⟩ (fun q41 H locs e41 hP hD hok hS => ?_)
        exact gRi (u := q41.2) hx hb hr hlk hP hD hok hS (by rw [← hfv, f_X0_riskBody, if_neg c1, if_pos c23, if_neg c36, ← e41, f_X0_riskBody_k41]) dX0_riskBody_44
  · refine lv_iload_n hx hb dX0_riskBody_4 rfl (lv_at hl 3 rfl) ?_
    refine lv_bipush (v := 9) hx hb dX0_riskBody_5 (by decide) ?_
    refine lv_icmp_le (tgt := 18) hx hb dX0_riskBody_7 (by decide) (fun c7 => ?_) (fun c7 => ?_)
    · refine lv_iload_n hx hb dX0_riskBody_18 rfl (lv_at hl 3 rfl) ?_
      exact gRi (u := u) hx hb hr hlk hP hD hok hS (by rw [← hfv, f_X0_riskBody, if_pos c1, if_pos c7]) dX0_riskBody_19
    · refine lv_aload_n hx hb dX0_riskBody_10 rfl (lv_at hl 0 rfl) ?_
      refine lv_iconst (v := 1) hx hb dX0_riskBody_11 (by decide) ?_
      refine gVi (u := u) (Wd := (b_W (gI G) hB hT hW hEn hV)) (ok := b_ok) (As := [.int (1 : Int32)]) (rest := []) ⟨hx, hb, hml, hown, hts⟩ (c_X0_fail l G A hB hT hW hEn hV (1 : Int32) u hok) (cwV 1 hts gX0_riskBody_X0_fail rfl rfl rfl (by decide +kernel) ⟨by show 0 + 1 ≤ 4 * k + 7; omega, by show 8 + (2 + 11) + 0 ≤ 120 * k + 135; omega⟩) hE hP hD hS (va_recv hE.1 hP (ci := 0) (q0 := 0) rfl rfl) rfl hl.1 rfl (Nat.le_of_ble_eq_true rfl) dX0_riskBody_12 ⟨Nat.zero_le _, Nat.zero_le _⟩ (fun q12 H locs e12 hP hD hok hS => ?_)
      refine lv_goto (tgt := 19) hx hb dX0_riskBody_15 (by decide) ?_
      exact gRi (u := q12.2) hx hb hr hlk hP hD hok hS (by rw [← hfv, f_X0_riskBody, if_pos c1, if_neg c7, ← e12, f_X0_riskBody_k12]) dX0_riskBody_19
set_option maxHeartbeats 4000000 in
set_option maxRecDepth 100000 in
theorem c_X0_riskBody (l : Launch) (G : gC) (A : Nat → Prop) (hB hT hW hEn hV : Nat) (k : Nat) (dp : Int32) (K : Int32 → Int32 → Int32 → BS → Int32 × BS) (hK : ∀ (kd mb n : Int32) (u : BS), b_ok u → CI l yX0_start wsX0_start ({ frames := 4 * k + 4, cells := 0, slots := 0, locals := 120 * k + 60 } : Room) G A (b_W (gI G) hB hT hW hEn hV) b_ok [.ref hB, .ref hV, .int kd, .int mb, .int n, .int (dp + 1)] u (K kd mb n u)) (kd : Int32) (n : Int32) (u : BS) (hok : b_ok u) : CI l yX0_riskBody wsX0_riskBody ({ frames := 4 * k + 7, cells := 0, slots := 0, locals := 120 * k + 135 } : Room) G A (b_W (gI G) hB hT hW hEn hV) b_ok [.ref hB, .ref hV, .int kd, .int n, .int dp] u (f_X0_riskBody K kd n u) := by
  refine Met.ofW (cc := cX0_riskBody) (maxL := 6) (ret := (some .int)) (by decide) rfl ?_
  intro p e s m args below meth c s₁ B hml hv
  obtain ⟨rfl, hE, hP, hD⟩ := hv
  have hl := lv_entry ([.ref hB, .ref hV, .int kd, .int n, .int dp]) (n := 6) (Nat.le_of_ble_eq_true rfl)
  rw [lg_entry_eq]
  generalize (lg_sl ([.ref hB, .ref hV, .int kd, .int n, .int dp]) ++ List.replicate (6 - (lg_sl ([.ref hB, .ref hV, .int kd, .int n, .int dp])).length) Slot.unset).toArray = ls at hl ⊢
  exact c_X0_riskBody_0 l G A hB hT hW hEn hV k dp K hK ⟨⟨B.exec, B.bytes, hml, findClass_of_methodNamed B.named, atoms_spec (ws := wsX0_riskBody) B.pre⟩, B.returns, B.notSynchronized⟩ hE kd n u hP hD hok va_S.rf hl rfl

-- FerryDecks$Bodies.lashBody
def f_X0_lashBody_k85 (K : Int32 → Int32 → Int32 → BS → Int32 × BS) (q85 : Int32 × BS) : Int32 × BS :=
  (q85.1, q85.2)
def f_X0_lashBody_k74 (K : Int32 → Int32 → Int32 → BS → Int32 × BS) (kd : Int32) (q74 : Int32 × BS) : Int32 × BS :=
  (f_X0_lashBody_k85 K (f_X0_askAbove K kd (3 : Int32) (1 : Int32) q74.2))
def f_X0_lashBody_k98 (K : Int32 → Int32 → Int32 → BS → Int32 × BS) (q98 : Int32 × BS) : Int32 × BS :=
  (q98.1, q98.2)
def f_X0_lashBody_k111 (K : Int32 → Int32 → Int32 → BS → Int32 × BS) (q111 : Int32 × BS) : Int32 × BS :=
  (q111.1, q111.2)
def f_X0_lashBody_k143 (K : Int32 → Int32 → Int32 → BS → Int32 × BS) (q143 : Int32 × BS) : Int32 × BS :=
  (q143.1, q143.2)
def f_X0_lashBody_k130 (K : Int32 → Int32 → Int32 → BS → Int32 × BS) (q130 : Int32 × BS) : Int32 × BS :=
  (q130.1, q130.2)
def f_X0_lashBody_k152 (K : Int32 → Int32 → Int32 → BS → Int32 × BS) (q152 : Int32 × BS) : Int32 × BS :=
  (q152.1, q152.2)
def f_X0_lashBody (K : Int32 → Int32 → Int32 → BS → Int32 × BS) (kd : Int32) (n : Int32) (u : BS) : Int32 × BS :=
  (if kd = 0 then (b_ch (b_sCh u ((b_ch u) + n)), b_sCh u ((b_ch u) + n)) else (if kd = 2 then (f_X0_lashBody_k74 K kd (f_X0_askAbove K kd (3 : Int32) n u)) else (if kd = 4 then (f_X0_lashBody_k98 K (f_X0_askAbove K kd (3 : Int32) (n / (2 : Int32)) u)) else (if kd = 7 then (f_X0_lashBody_k111 K (f_X0_askAbove K kd (3 : Int32) (n + n) u)) else (if kd = 8 then (if (b_ch u) ≤ (b_T u ((5 : Int32) : Int32).toNatClampNeg) then (f_X0_lashBody_k143 K (f_X0_askAbove K kd (3 : Int32) n u)) else (f_X0_lashBody_k130 K (f_X0_fail (4 : Int32) u))) else (f_X0_lashBody_k152 K (f_X0_lashMixed K n u)))))))
set_option maxHeartbeats 4000000 in
set_option maxRecDepth 100000 in
theorem c_X0_lashBody_0 {p : Program} {e : Env} {s : State} {m : MethodId} {args : Array Value} {below : List Frame} {meth : Method} {c : Code} (l : Launch) (G : gC) (A : Nat → Prop) (hB hT hW hEn hV : Nat) (k : Nat) (dp : Int32) (K : Int32 → Int32 → Int32 → BS → Int32 × BS) (hK : ∀ (kd mb n : Int32) (u : BS), b_ok u → CI l yX0_start wsX0_start ({ frames := 4 * k + 4, cells := 0, slots := 0, locals := 120 * k + 60 } : Room) G A (b_W (gI G) hB hT hW hEn hV) b_ok [.ref hB, .ref hV, .int kd, .int mb, .int n, .int (dp + 1)] u (K kd mb n u)) (C0 : gX p s m args meth c cX0_lashBody 5 wsX0_lashBody RX0 (some .int)) (hE : gE G A s) (kd : Int32) (n : Int32) (u : BS) {H : Heap} {locs : List Loc} (hP : va_P (gD G) vwCl ((b_W (gI G) hB hT hW hEn hV) u) H) (hD : va_D A ((b_W (gI G) hB hT hW hEn hV) u)) (hok : b_ok u) (hS : va_S A s.heap H locs) {ls : Array Slot} (hl : lv_has ls 5 [(0, .ref hB), (1, .ref hV), (2, .int kd), (3, .int n), (4, .int dp)]) {fv : Int32 × BS} (hfv : f_X0_lashBody K kd n u = fv) : W p l e ({ frames := 4 * k + 7, cells := 0, slots := 0, locals := 120 * k + 135 } : Room) s m args below meth c H locs 0 0 (MQ below (gQi G A (b_W (gI G) hB hT hW hEn hV) b_ok fv) args s 0 0 A) (F0 m 0 ls []) := by
  obtain ⟨⟨hx, hb, hml, hown, hts⟩, hr, hlk⟩ := id C0
  have hok0 := hok
  have k0 := hts (.fieldLink RX0 103 "FerryDecks$Vehicle" "chains" "I") (by decide +kernel)
  have k1 := hts (.fieldLink RX0 9 "FerryDecks$Bodies" "terms" "[I") (by decide +kernel)
  have iX0 : ∀ w ∈ wsX00, w ∈ wsX0_lashBody := by decide +kernel
  have iX3 : ∀ w ∈ wsX30, w ∈ wsX0_lashBody := by decide +kernel
  refine lv_iload_n hx hb dX0_lashBody_0 rfl (lv_at hl 2 rfl) ?_
  by_cases c1_0 : kd = 0
  · refine gTs (off := 51) (tgt := 52) hx hb dX0_lashBody_1 rfl (by rw [c1_0]; decide) (by decide) ?_
    refine lv_aload_n hx hb dX0_lashBody_52 rfl (lv_at hl 1 rfl) ?_
    refine lv_dup hx hb dX0_lashBody_53 rfl ?_
    refine va_get (D := gD G) (ci := 3) (v := .int (b_ch u)) (C := RX3) (T := TX3) (N := 6) hx hb hts iX3 hown hE.1 hP 4 rfl rfl 3 (by decide) k0 (fun _ h9 => h9) rfl dX0_lashBody_54 ?_
    refine lv_iload_n hx hb dX0_lashBody_57 rfl (lv_at hl 3 rfl) ?_
    refine lv_iadd hx hb dX0_lashBody_58 ?_
    refine va_put (D := gD G) (ci := 3) (v := .int ((b_ch u) + n)) (ty := .int) (C := RX3) (T := TX3) (N := 6) hx hb hts iX3 tyX3 tyX3_ok nmX3 hown hE.1 hP hD hS 4 rfl rfl 3 (by decide) k0 (fun _ h9 => h9) rfl (by decide +kernel) rfl rfl (Nat.le_of_ble_eq_true rfl) dX0_lashBody_59 (fun H locs hP hD hS => ?_)
    have hP : va_P (gD G) vwCl ((b_W (gI G) hB hT hW hEn hV) (b_sCh u ((b_ch u) + n))) H := hP
    have hD : va_D A ((b_W (gI G) hB hT hW hEn hV) (b_sCh u ((b_ch u) + n))) := hD
    have hok : b_ok (b_sCh u ((b_ch u) + n)) := hok
    refine lv_aload_n hx hb dX0_lashBody_62 rfl (lv_at hl 1 rfl) ?_
    refine va_get (D := gD G) (ci := 3) (v := .int (b_ch (b_sCh u ((b_ch u) + n)))) (C := RX3) (T := TX3) (N := 6) hx hb hts iX3 hown hE.1 hP 4 rfl rfl 3 (by decide) k0 (fun _ h9 => h9) rfl dX0_lashBody_63 ?_
    exact gRi (u := b_sCh u ((b_ch u) + n)) hx hb hr hlk hP hD hok hS (by rw [← hfv, f_X0_lashBody, if_pos c1_0]) dX0_lashBody_66
  by_cases c1_2 : kd = 2
  · refine gTs (off := 66) (tgt := 67) hx hb dX0_lashBody_1 rfl (by rw [c1_2]; decide) (by decide) ?_
    refine lv_aload_n hx hb dX0_lashBody_67 rfl (lv_at hl 0 rfl) ?_
    refine lv_aload_n hx hb dX0_lashBody_68 rfl (lv_at hl 1 rfl) ?_
    refine lv_iload_n hx hb dX0_lashBody_69 rfl (lv_at hl 2 rfl) ?_
    refine lv_iconst (v := 3) hx hb dX0_lashBody_70 (by decide) ?_
    refine lv_iload_n hx hb dX0_lashBody_71 rfl (lv_at hl 3 rfl) ?_
    refine lv_iload hx hb dX0_lashBody_72 (lv_at hl 4 rfl) ?_
    refine gVi (u := u) (Wd := (b_W (gI G) hB hT hW hEn hV)) (ok := b_ok) (As := [.ref hV, .int kd, .int (3 : Int32), .int n, .int dp]) (rest := []) ⟨hx, hb, hml, hown, hts⟩ (c_X0_askAbove l G A hB hT hW hEn hV k dp K hK kd (3 : Int32) n u hok) (cwV 5 hts gX0_lashBody_X0_askAbove rfl rfl rfl (by decide +kernel) ⟨by show 4 * k + 5 + 1 ≤ 4 * k + 7; omega, by show 8 + (6 + 11) + (120 * k + 86) ≤ 120 * k + 135; omega⟩) hE hP hD hS (va_recv hE.1 hP (ci := 0) (q0 := 0) rfl rfl) rfl hl.1 rfl (Nat.le_of_ble_eq_true rfl) dX0_lashBody_74 ⟨Nat.zero_le _, Nat.zero_le _⟩ (fun q74 H locs e74 hP hD hok hS => ?_)
    refine lv_pop hx hb dX0_lashBody_77 rfl ?_
    refine lv_aload_n hx hb dX0_lashBody_78 rfl (lv_at hl 0 rfl) ?_
    refine lv_aload_n hx hb dX0_lashBody_79 rfl (lv_at hl 1 rfl) ?_
    refine lv_iload_n hx hb dX0_lashBody_80 rfl (lv_at hl 2 rfl) ?_
    refine lv_iconst (v := 3) hx hb dX0_lashBody_81 (by decide) ?_
    refine lv_iconst (v := 1) hx hb dX0_lashBody_82 (by decide) ?_
    refine lv_iload hx hb dX0_lashBody_83 (lv_at hl 4 rfl) ?_
    refine gVi (u := q74.2) (Wd := (b_W (gI G) hB hT hW hEn hV)) (ok := b_ok) (As := [.ref hV, .int kd, .int (3 : Int32), .int (1 : Int32), .int dp]) (rest := []) ⟨hx, hb, hml, hown, hts⟩ (c_X0_askAbove l G A hB hT hW hEn hV k dp K hK kd (3 : Int32) (1 : Int32) q74.2 hok) (cwV 5 hts gX0_lashBody_X0_askAbove rfl rfl rfl (by decide +kernel) ⟨by show 4 * k + 5 + 1 ≤ 4 * k + 7; omega, by show 8 + (6 + 11) + (120 * k + 86) ≤ 120 * k + 135; omega⟩) hE hP hD hS (va_recv hE.1 hP (ci := 0) (q0 := 0) rfl rfl) rfl hl.1 rfl (Nat.le_of_ble_eq_true rfl) dX0_lashBody_85 ⟨Nat.zero_le _, Nat.zero_le _⟩ (fun q85 H locs e85 hP hD hok hS => ?_)
    exact gRi (u := q85.2) hx hb hr hlk hP hD hok hS (by rw [← hfv, f_X0_lashBody, if_neg c1_0, if_pos c1_2, ← e74, f_X0_lashBody_k74, ← e85, f_X0_lashBody_k85]) dX0_lashBody_88
  by_cases c1_4 : kd = 4
  · refine gTs (off := 88) (tgt := 89) hx hb dX0_lashBody_1 rfl (by rw [c1_4]; decide) (by decide) ?_
    refine lv_aload_n hx hb dX0_lashBody_89 rfl (lv_at hl 0 rfl) ?_
    refine lv_aload_n hx hb dX0_lashBody_90 rfl (lv_at hl 1 rfl) ?_
    refine lv_iload_n hx hb dX0_lashBody_91 rfl (lv_at hl 2 rfl) ?_
    refine lv_iconst (v := 3) hx hb dX0_lashBody_92 (by decide) ?_
    refine lv_iload_n hx hb dX0_lashBody_93 rfl (lv_at hl 3 rfl) ?_
    refine lv_iconst (v := 2) hx hb dX0_lashBody_94 (by decide) ?_
    refine lv_idiv hx hb dX0_lashBody_95 (by decide) ?_
    refine lv_iload hx hb dX0_lashBody_96 (lv_at hl 4 rfl) ?_
    refine gVi (u := u) (Wd := (b_W (gI G) hB hT hW hEn hV)) (ok := b_ok) (As := [.ref hV, .int kd, .int (3 : Int32), .int (n / (2 : Int32)), .int dp]) (rest := []) ⟨hx, hb, hml, hown, hts⟩ (c_X0_askAbove l G A hB hT hW hEn hV k dp K hK kd (3 : Int32) (n / (2 : Int32)) u hok) (cwV 5 hts gX0_lashBody_X0_askAbove rfl rfl rfl (by decide +kernel) ⟨by show 4 * k + 5 + 1 ≤ 4 * k + 7; omega, by show 8 + (6 + 11) + (120 * k + 86) ≤ 120 * k + 135; omega⟩) hE hP hD hS (va_recv hE.1 hP (ci := 0) (q0 := 0) rfl rfl) rfl hl.1 rfl (Nat.le_of_ble_eq_true rfl) dX0_lashBody_98 ⟨Nat.zero_le _, Nat.zero_le _⟩ (fun q98 H locs e98 hP hD hok hS => ?_)
    exact gRi (u := q98.2) hx hb hr hlk hP hD hok hS (by rw [← hfv, f_X0_lashBody, if_neg c1_0, if_neg c1_2, if_pos c1_4, ← e98, f_X0_lashBody_k98]) dX0_lashBody_101
  by_cases c1_7 : kd = 7
  · refine gTs (off := 101) (tgt := 102) hx hb dX0_lashBody_1 rfl (by rw [c1_7]; decide) (by decide) ?_
    refine lv_aload_n hx hb dX0_lashBody_102 rfl (lv_at hl 0 rfl) ?_
    refine lv_aload_n hx hb dX0_lashBody_103 rfl (lv_at hl 1 rfl) ?_
    refine lv_iload_n hx hb dX0_lashBody_104 rfl (lv_at hl 2 rfl) ?_
    refine lv_iconst (v := 3) hx hb dX0_lashBody_105 (by decide) ?_
    refine lv_iload_n hx hb dX0_lashBody_106 rfl (lv_at hl 3 rfl) ?_
    refine lv_iload_n hx hb dX0_lashBody_107 rfl (lv_at hl 3 rfl) ?_
    refine lv_iadd hx hb dX0_lashBody_108 ?_
    refine lv_iload hx hb dX0_lashBody_109 (lv_at hl 4 rfl) ?_
    refine gVi (u := u) (Wd := (b_W (gI G) hB hT hW hEn hV)) (ok := b_ok) (As := [.ref hV, .int kd, .int (3 : Int32), .int (n + n), .int dp]) (rest := []) ⟨hx, hb, hml, hown, hts⟩ (c_X0_askAbove l G A hB hT hW hEn hV k dp K hK kd (3 : Int32) (n + n) u hok) (cwV 5 hts gX0_lashBody_X0_askAbove rfl rfl rfl (by decide +kernel) ⟨by show 4 * k + 5 + 1 ≤ 4 * k + 7; omega, by show 8 + (6 + 11) + (120 * k + 86) ≤ 120 * k + 135; omega⟩) hE hP hD hS (va_recv hE.1 hP (ci := 0) (q0 := 0) rfl rfl) rfl hl.1 rfl (Nat.le_of_ble_eq_true rfl) dX0_lashBody_111 ⟨Nat.zero_le _, Nat.zero_le _⟩ (fun q111 H locs e111 hP hD hok hS => ?_)
    exact gRi (u := q111.2) hx hb hr hlk hP hD hok hS (by rw [← hfv, f_X0_lashBody, if_neg c1_0, if_neg c1_2, if_neg c1_4, if_pos c1_7, ← e111, f_X0_lashBody_k111]) dX0_lashBody_114
  by_cases c1_8 : kd = 8
  · refine gTs (off := 114) (tgt := 115) hx hb dX0_lashBody_1 rfl (by rw [c1_8]; decide) (by decide) ?_
    refine lv_aload_n hx hb dX0_lashBody_115 rfl (lv_at hl 1 rfl) ?_
    refine va_get (D := gD G) (ci := 3) (v := .int (b_ch u)) (C := RX3) (T := TX3) (N := 6) hx hb hts iX3 hown hE.1 hP 4 rfl rfl 3 (by decide) k0 (fun _ h9 => h9) rfl dX0_lashBody_116 ?_
    refine lv_aload_n hx hb dX0_lashBody_119 rfl (lv_at hl 0 rfl) ?_
    refine va_get (D := gD G) (ci := 0) (v := .ref hT) (C := RX0) (T := TX0) (N := 3) hx hb hts iX0 hown hE.1 hP 0 rfl rfl 0 (by decide) k1 (fun _ h9 => h9) rfl dX0_lashBody_120 ?_
    refine lv_iconst (v := 5) hx hb dX0_lashBody_123 (by decide) ?_
    refine va_iald hx hb hE.1 hP 1 0 rfl rfl (gIn (by decide) (by decide) (by decide)) dX0_lashBody_124 ?_
    refine lv_icmp_le (tgt := 136) hx hb dX0_lashBody_125 (by decide) (fun c125 => ?_) (fun c125 => ?_)
    · refine lv_aload_n hx hb dX0_lashBody_136 rfl (lv_at hl 0 rfl) ?_
      refine lv_aload_n hx hb dX0_lashBody_137 rfl (lv_at hl 1 rfl) ?_
      refine lv_iload_n hx hb dX0_lashBody_138 rfl (lv_at hl 2 rfl) ?_
      refine lv_iconst (v := 3) hx hb dX0_lashBody_139 (by decide) ?_
      refine lv_iload_n hx hb dX0_lashBody_140 rfl (lv_at hl 3 rfl) ?_
      refine lv_iload hx hb dX0_lashBody_141 (lv_at hl 4 rfl) ?_
      refine gVi (u := u) (Wd := (b_W (gI G) hB hT hW hEn hV)) (ok := b_ok) (As := [.ref hV, .int kd, .int (3 : Int32), .int n, .int dp]) (rest := []) ⟨hx, hb, hml, hown, hts⟩ (c_X0_askAbove l G A hB hT hW hEn hV k dp K hK kd (3 : Int32) n u hok) (cwV 5 hts gX0_lashBody_X0_askAbove rfl rfl rfl (by decide +kernel) ⟨by show 4 * k + 5 + 1 ≤ 4 * k + 7; omega, by show 8 + (6 + 11) + (120 * k + 86) ≤ 120 * k + 135; omega⟩) hE hP hD hS (va_recv hE.1 hP (ci := 0) (q0 := 0) rfl rfl) rfl hl.1 rfl (Nat.le_of_ble_eq_true rfl) dX0_lashBody_143 ⟨Nat.zero_le _, Nat.zero_le _⟩ (fun q143 H locs e143 hP hD hok hS => ?_)
      exact gRi (u := q143.2) hx hb hr hlk hP hD hok hS (by rw [← hfv, f_X0_lashBody, if_neg c1_0, if_neg c1_2, if_neg c1_4, if_neg c1_7, if_pos c1_8, if_pos c125, ← e143, f_X0_lashBody_k143]) dX0_lashBody_146
    · refine lv_aload_n hx hb dX0_lashBody_128 rfl (lv_at hl 0 rfl) ?_
      refine lv_iconst (v := 4) hx hb dX0_lashBody_129 (by decide) ?_
      refine gVi (u := u) (Wd := (b_W (gI G) hB hT hW hEn hV)) (ok := b_ok) (As := [.int (4 : Int32)]) (rest := []) ⟨hx, hb, hml, hown, hts⟩ (c_X0_fail l G A hB hT hW hEn hV (4 : Int32) u hok) (cwV 1 hts gX0_lashBody_X0_fail rfl rfl rfl (by decide +kernel) ⟨by show 0 + 1 ≤ 4 * k + 7; omega, by show 8 + (2 + 11) + 0 ≤ 120 * k + 135; omega⟩) hE hP hD hS (va_recv hE.1 hP (ci := 0) (q0 := 0) rfl rfl) rfl hl.1 rfl (Nat.le_of_ble_eq_true rfl) dX0_lashBody_130 ⟨Nat.zero_le _, Nat.zero_le _⟩ (fun q130 H locs e130 hP hD hok hS => ?_)
      refine lv_goto (tgt := 146) hx hb dX0_lashBody_133 (by decide) ?_
      exact gRi (u := q130.2) hx hb hr hlk hP hD hok hS (by rw [← hfv, f_X0_lashBody, if_neg c1_0, if_neg c1_2, if_neg c1_4, if_neg c1_7, if_pos c1_8, if_neg c125, ← e130, f_X0_lashBody_k130]) dX0_lashBody_146
  refine gTs (off := 146) (tgt := 147) hx hb dX0_lashBody_1 rfl (by have z0 := lv_neT (a := 0) c1_0 (by decide); have z2 := lv_neT (a := 2) c1_2 (by decide); have z4 := lv_neT (a := 4) c1_4 (by decide); have z7 := lv_neT (a := 7) c1_7 (by decide); have z8 := lv_neT (a := 8) c1_8 (by decide); unfold tsO; by_cases hh : kd.toInt < 0 ∨ 8 < kd.toInt; (rw [if_pos hh]); (rw [if_neg hh]; rcases (show kd.toInt = 1 ∨ kd.toInt = 3 ∨ kd.toInt = 5 ∨ kd.toInt = 6 by omega) with h | h | h | h <;> rw [h] <;> rfl)) (by decide) ?_
  refine lv_aload_n hx hb dX0_lashBody_147 rfl (lv_at hl 0 rfl) ?_
  refine lv_aload_n hx hb dX0_lashBody_148 rfl (lv_at hl 1 rfl) ?_
  refine lv_iload_n hx hb dX0_lashBody_149 rfl (lv_at hl 3 rfl) ?_
  refine lv_iload hx hb dX0_lashBody_150 (lv_at hl 4 rfl) ?_
  refine gVi (u := u) (Wd := (b_W (gI G) hB hT hW hEn hV)) (ok := b_ok) (As := [.ref hV, .int n, .int dp]) (rest := []) ⟨hx, hb, hml, hown, hts⟩ (c_X0_lashMixed l G A hB hT hW hEn hV k dp K hK n u hok) (cwV 3 hts gX0_lashBody_X0_lashMixed rfl rfl rfl (by decide +kernel) ⟨by show 4 * k + 6 + 1 ≤ 4 * k + 7; omega, by show 8 + (5 + 11) + (120 * k + 111) ≤ 120 * k + 135; omega⟩) hE hP hD hS (va_recv hE.1 hP (ci := 0) (q0 := 0) rfl rfl) rfl hl.1 rfl (Nat.le_of_ble_eq_true rfl) dX0_lashBody_152 ⟨Nat.zero_le _, Nat.zero_le _⟩ (fun q152 H locs e152 hP hD hok hS => ?_)
  exact gRi (u := q152.2) hx hb hr hlk hP hD hok hS (by rw [← hfv, f_X0_lashBody, if_neg c1_0, if_neg c1_2, if_neg c1_4, if_neg c1_7, if_neg c1_8, ← e152, f_X0_lashBody_k152]) dX0_lashBody_155
set_option maxHeartbeats 4000000 in
set_option maxRecDepth 100000 in
theorem c_X0_lashBody (l : Launch) (G : gC) (A : Nat → Prop) (hB hT hW hEn hV : Nat) (k : Nat) (dp : Int32) (K : Int32 → Int32 → Int32 → BS → Int32 × BS) (hK : ∀ (kd mb n : Int32) (u : BS), b_ok u → CI l yX0_start wsX0_start ({ frames := 4 * k + 4, cells := 0, slots := 0, locals := 120 * k + 60 } : Room) G A (b_W (gI G) hB hT hW hEn hV) b_ok [.ref hB, .ref hV, .int kd, .int mb, .int n, .int (dp + 1)] u (K kd mb n u)) (kd : Int32) (n : Int32) (u : BS) (hok : b_ok u) : CI l yX0_lashBody wsX0_lashBody ({ frames := 4 * k + 7, cells := 0, slots := 0, locals := 120 * k + 135 } : Room) G A (b_W (gI G) hB hT hW hEn hV) b_ok [.ref hB, .ref hV, .int kd, .int n, .int dp] u (f_X0_lashBody K kd n u) := by
  refine Met.ofW (cc := cX0_lashBody) (maxL := 5) (ret := (some .int)) (by decide) rfl ?_
  intro p e s m args below meth c s₁ B hml hv
  obtain ⟨rfl, hE, hP, hD⟩ := hv
  have hl := lv_entry ([.ref hB, .ref hV, .int kd, .int n, .int dp]) (n := 5) (Nat.le_of_ble_eq_true rfl)
  rw [lg_entry_eq]
  generalize (lg_sl ([.ref hB, .ref hV, .int kd, .int n, .int dp]) ++ List.replicate (5 - (lg_sl ([.ref hB, .ref hV, .int kd, .int n, .int dp])).length) Slot.unset).toArray = ls at hl ⊢
  exact c_X0_lashBody_0 l G A hB hT hW hEn hV k dp K hK ⟨⟨B.exec, B.bytes, hml, findClass_of_methodNamed B.named, atoms_spec (ws := wsX0_lashBody) B.pre⟩, B.returns, B.notSynchronized⟩ hE kd n u hP hD hok va_S.rf hl rfl
