-- FerryDecks$Bodies.start
def f_X0_start_k90 (K : Int32 → Int32 → Int32 → BS → Int32 × BS) (q90 : Int32 × BS) : Int32 × BS :=
  (q90.1, q90.2)
def f_X0_start_k102 (K : Int32 → Int32 → Int32 → BS → Int32 × BS) (q102 : Int32 × BS) : Int32 × BS :=
  (q102.1, q102.2)
def f_X0_start_k114 (K : Int32 → Int32 → Int32 → BS → Int32 × BS) (q114 : Int32 × BS) : Int32 × BS :=
  (q114.1, q114.2)
def f_X0_start_k126 (K : Int32 → Int32 → Int32 → BS → Int32 × BS) (q126 : Int32 × BS) : Int32 × BS :=
  (q126.1, q126.2)
def f_X0_start_k136 (K : Int32 → Int32 → Int32 → BS → Int32 × BS) (q136 : Int32 × BS) : Int32 × BS :=
  (q136.1, q136.2)
def f_X0_start_k148 (K : Int32 → Int32 → Int32 → BS → Int32 × BS) (q148 : Int32 × BS) : Int32 × BS :=
  (q148.1, q148.2)
def f_X0_start_k158 (K : Int32 → Int32 → Int32 → BS → Int32 × BS) (q158 : Int32 × BS) : Int32 × BS :=
  (q158.1, q158.2)
def f_X0_start_k40 (K : Int32 → Int32 → Int32 → BS → Int32 × BS) (mb : Int32) (n : Int32) (q2 : Int32) (q40 : BS) : Int32 × BS :=
  (if mb = 0 then (f_X0_start_k90 K (f_X0_lengthBody K q2 q40)) else (if mb = 1 then (f_X0_start_k102 K (f_X0_feeBody K q2 n q40)) else (if mb = 2 then (f_X0_start_k114 K (f_X0_riskBody K q2 n q40)) else (if mb = 3 then (f_X0_start_k126 K (f_X0_lashBody K q2 n q40)) else (if mb = 4 then (f_X0_start_k136 K (f_X0_markBody K q2 q40)) else (if mb = 5 then (f_X0_start_k148 K (f_X0_pullBody K q2 n q40)) else (f_X0_start_k158 K (f_X0_hookBody K q2 q40))))))))
def f_X0_start_k8 (K : Int32 → Int32 → Int32 → BS → Int32 × BS) (mb : Int32) (n : Int32) (q2 : Int32) (q8 : Int32 × BS) : Int32 × BS :=
  (if q8.1 = 0 then (if q2 = (-1 : Int32) then ((0 : Int32), q8.2) else (f_X0_start_k40 K mb n q2 (f_X2_write (((10 : Int32) * q2) + mb) q8.2))) else ((0 : Int32), q8.2))
def f_X0_start_k2 (K : Int32 → Int32 → Int32 → BS → Int32 × BS) (mb : Int32) (n : Int32) (u : BS) (q2 : Int32) : Int32 × BS :=
  (f_X0_start_k8 K mb n q2 (f_X0_failed u))
def f_X0_start (K : Int32 → Int32 → Int32 → BS → Int32 × BS) (kd : Int32) (mb : Int32) (n : Int32) (u : BS) : Int32 × BS :=
  (f_X0_start_k2 K mb n u (f_X4_ownerOf mb kd))
set_option maxHeartbeats 4000000 in
set_option maxRecDepth 100000 in
theorem c_X0_start_0 {p : Program} {e : Env} {s : State} {m : MethodId} {args : Array Value} {below : List Frame} {meth : Method} {c : Code} (l : Launch) (G : gC) (A : Nat → Prop) (hB hT hW hEn hV : Nat) (k : Nat) (dp : Int32) (K : Int32 → Int32 → Int32 → BS → Int32 × BS) (hK : ∀ (kd mb n : Int32) (u : BS), b_ok u → CI l yX0_start wsX0_start ({ frames := 4 * k + 4, cells := 0, slots := 0, locals := 120 * k + 60 } : Room) G A (b_W (gI G) hB hT hW hEn hV) b_ok [.ref hB, .ref hV, .int kd, .int mb, .int n, .int (dp + 1)] u (K kd mb n u)) (hdp : dp ≤ 20) (C0 : gX p s m args meth c cX0_start 7 wsX0_start RX0 (some .int)) (hE : gE G A s) (kd : Int32) (mb : Int32) (n : Int32) (u : BS) {H : Heap} {locs : List Loc} (hP : va_P (gD G) vwCl ((b_W (gI G) hB hT hW hEn hV) u) H) (hD : va_D A ((b_W (gI G) hB hT hW hEn hV) u)) (hok : b_ok u) (hS : va_S A s.heap H locs) {ls : Array Slot} (hl : lv_has ls 7 [(0, .ref hB), (1, .ref hV), (2, .int kd), (3, .int mb), (4, .int n), (5, .int dp)]) {fv : Int32 × BS} (hfv : f_X0_start K kd mb n u = fv) : W p l e ({ frames := 4 * (k + 1) + 4, cells := 0, slots := 0, locals := 120 * (k + 1) + 60 } : Room) s m args below meth c H locs 0 0 (MQ below (gQi G A (b_W (gI G) hB hT hW hEn hV) b_ok fv) args s 0 0 A) (F0 m 0 ls []) := by
  obtain ⟨⟨hx, hb, hml, hown, hts⟩, hr, hlk⟩ := id C0
  have hok0 := hok
  have k0 := hts (.initialized RX4) (by decide +kernel)
  have k1 := hts (.static yX4_ownerOf) (by decide +kernel)
  have k2 := hts (.fieldLink RX0 18 "FerryDecks$Bodies" "written" "LFerryDecks$Trace;") (by decide +kernel)
  have iX0 : ∀ w ∈ wsX00, w ∈ wsX0_start := by decide +kernel
  refine lv_iload_n hx hb dX0_start_0 rfl (lv_at hl 3 rfl) ?_
  refine lv_iload_n hx hb dX0_start_1 rfl (lv_at hl 2 rfl) ?_
  refine gNi (As := [.int mb, .int kd]) (rest := []) ⟨hx, hb, hml, hown, hts⟩ (c_X4_ownerOf l G A mb kd) ⟨va_cnB 2 hts gX0_start_X4_ownerOf_n38 rfl rfl rfl hE.2.1.2.1 k0 (by decide +kernel) ⟨by show 1 + 1 ≤ 4 * (k + 1) + 4; omega, by show 8 + (2 + 11) + 22 ≤ 120 * (k + 1) + 60; omega⟩, k1, trivial⟩ hE hS rfl hl.1 rfl (Nat.le_of_ble_eq_true rfl) dX0_start_2 ⟨Nat.zero_le _, Nat.zero_le _⟩ (fun q2 e2 => ?_)
  refine lv_istore (lv' := [(6, .int q2), (0, .ref hB), (1, .ref hV), (2, .int kd), (3, .int mb), (4, .int n), (5, .int dp)]) hx hb dX0_start_5 hl (by decide) rfl (fun ls hl => ?_)
  refine lv_aload_n hx hb dX0_start_7 rfl (lv_at hl 1 rfl) ?_
  refine gVi (u := u) (Wd := (b_W (gI G) hB hT hW hEn hV)) (ok := b_ok) (As := []) (rest := []) ⟨hx, hb, hml, hown, hts⟩ (c_X0_failed l G A hB hT hW hEn hV u hok) (cwV 0 hts gX0_start_X0_failed rfl rfl rfl (by decide +kernel) ⟨by show 0 + 1 ≤ 4 * (k + 1) + 4; omega, by show 8 + (1 + 11) + 0 ≤ 120 * (k + 1) + 60; omega⟩) hE hP hD hS (va_recv hE.1 hP (ci := 0) (q0 := 0) rfl rfl) rfl hl.1 rfl (Nat.le_of_ble_eq_true rfl) dX0_start_8 ⟨Nat.zero_le _, Nat.zero_le _⟩ (fun q8 H locs e8 hP hD hok hS => ?_)
  refine lv_if_ne (tgt := 27) hx hb dX0_start_11 (by decide) (fun c11 => ?_) (fun c11 => ?_)
  · refine lv_iconst (v := 0) hx hb dX0_start_27 (by decide) ?_
    exact gRi (u := q8.2) hx hb hr hlk hP hD hok hS (by rw [← hfv, f_X0_start, ← e2, f_X0_start_k2, ← e8, f_X0_start_k8, if_neg c11]) dX0_start_28
  · refine lv_iload hx hb dX0_start_14 (lv_at hl 0 rfl) ?_
    refine lv_iconst (v := -1) hx hb dX0_start_16 (by decide) ?_
    refine lv_icmp_eq (tgt := 27) hx hb dX0_start_17 (by decide) (fun c17 => ?_) (fun c17 => ?_)
    · refine lv_iconst (v := 0) hx hb dX0_start_27 (by decide) ?_
      exact gRi (u := q8.2) hx hb hr hlk hP hD hok hS (by rw [← hfv, f_X0_start, ← e2, f_X0_start_k2, ← e8, f_X0_start_k8, if_pos c11, if_pos c17]) dX0_start_28
    · refine lv_iload hx hb dX0_start_20 (lv_at hl 6 rfl) ?_
      refine lv_bipush (v := 20) hx hb dX0_start_22 (by decide) ?_
      refine lv_icmp_le (tgt := 29) hx hb dX0_start_24 (by decide) (fun c24 => ?_) (fun c24 => ?_)
      · refine lv_aload_n hx hb dX0_start_29 rfl (lv_at hl 1 rfl) ?_
        refine va_get (D := gD G) (ci := 0) (v := .ref hW) (C := RX0) (T := TX0) (N := 3) hx hb hts iX0 hown hE.1 hP 0 rfl rfl 1 (by decide) k2 (fun _ h9 => h9) rfl dX0_start_30 ?_
        refine lv_bipush (v := 10) hx hb dX0_start_33 (by decide) ?_
        refine lv_iload hx hb dX0_start_35 (lv_at hl 0 rfl) ?_
        refine lv_imul hx hb dX0_start_37 ?_
        refine lv_iload_n hx hb dX0_start_38 rfl (lv_at hl 4 rfl) ?_
        refine lv_iadd hx hb dX0_start_39 ?_
        refine gVv (u := q8.2) (Wd := (b_W (gI G) hB hT hW hEn hV)) (ok := b_ok) (As := [.int (((10 : Int32) * q2) + mb)]) (rest := []) ⟨hx, hb, hml, hown, hts⟩ (c_X2_write l G A hB hT hW hEn hV (((10 : Int32) * q2) + mb) q8.2 hok) (cwV 1 hts gX0_start_X2_write rfl rfl rfl (by decide +kernel) ⟨by show 0 + 1 ≤ 4 * (k + 1) + 4; omega, by show 8 + (2 + 11) + 0 ≤ 120 * (k + 1) + 60; omega⟩) hE hP hD hS (va_recv hE.1 hP (ci := 2) (q0 := 2) rfl rfl) rfl hl.1 rfl (Nat.le_of_ble_eq_true rfl) dX0_start_40 ⟨Nat.zero_le _, Nat.zero_le _⟩ (fun q40 H locs e40 hP hD hok hS => ?_)
        refine lv_iload_n hx hb dX0_start_43 rfl (lv_at hl 4 rfl) ?_
        by_cases c44_0 : mb = 0
        · refine gTs (off := 40) (tgt := 84) hx hb dX0_start_44 rfl (by rw [c44_0]; decide) (by decide) ?_
          refine lv_aload_n hx hb dX0_start_84 rfl (lv_at hl 1 rfl) ?_
          refine lv_aload_n hx hb dX0_start_85 rfl (lv_at hl 2 rfl) ?_
          refine lv_iload hx hb dX0_start_86 (lv_at hl 0 rfl) ?_
          refine lv_iload hx hb dX0_start_88 (lv_at hl 6 rfl) ?_
          refine gVi (u := q40) (Wd := (b_W (gI G) hB hT hW hEn hV)) (ok := b_ok) (As := [.ref hV, .int q2, .int dp]) (rest := []) ⟨hx, hb, hml, hown, hts⟩ (c_X0_lengthBody l G A hB hT hW hEn hV k dp K hK q2 q40 hok) (cwV 3 hts gX0_start_X0_lengthBody rfl rfl rfl (by decide +kernel) ⟨by show 4 * k + 7 + 1 ≤ 4 * (k + 1) + 4; omega, by show 8 + (5 + 11) + (120 * k + 135) ≤ 120 * (k + 1) + 60; omega⟩) hE hP hD hS (va_recv hE.1 hP (ci := 0) (q0 := 0) rfl rfl) rfl hl.1 rfl (Nat.le_of_ble_eq_true rfl) dX0_start_90 ⟨Nat.zero_le _, Nat.zero_le _⟩ (fun q90 H locs e90 hP hD hok hS => ?_)
          exact gRi (u := q90.2) hx hb hr hlk hP hD hok hS (by rw [← hfv, f_X0_start, ← e2, f_X0_start_k2, ← e8, f_X0_start_k8, if_pos c11, if_neg c17, ← e40, f_X0_start_k40, if_pos c44_0, ← e90, f_X0_start_k90]) dX0_start_93
        by_cases c44_1 : mb = 1
        · refine gTs (off := 50) (tgt := 94) hx hb dX0_start_44 rfl (by rw [c44_1]; decide) (by decide) ?_
          refine lv_aload_n hx hb dX0_start_94 rfl (lv_at hl 1 rfl) ?_
          refine lv_aload_n hx hb dX0_start_95 rfl (lv_at hl 2 rfl) ?_
          refine lv_iload hx hb dX0_start_96 (lv_at hl 0 rfl) ?_
          refine lv_iload hx hb dX0_start_98 (lv_at hl 5 rfl) ?_
          refine lv_iload hx hb dX0_start_100 (lv_at hl 6 rfl) ?_
          refine gVi (u := q40) (Wd := (b_W (gI G) hB hT hW hEn hV)) (ok := b_ok) (As := [.ref hV, .int q2, .int n, .int dp]) (rest := []) ⟨hx, hb, hml, hown, hts⟩ (c_X0_feeBody l G A hB hT hW hEn hV k dp K hK q2 n q40 hok) (cwV 4 hts gX0_start_X0_feeBody rfl rfl rfl (by decide +kernel) ⟨by show 4 * k + 7 + 1 ≤ 4 * (k + 1) + 4; omega, by show 8 + (6 + 11) + (120 * k + 135) ≤ 120 * (k + 1) + 60; omega⟩) hE hP hD hS (va_recv hE.1 hP (ci := 0) (q0 := 0) rfl rfl) rfl hl.1 rfl (Nat.le_of_ble_eq_true rfl) dX0_start_102 ⟨Nat.zero_le _, Nat.zero_le _⟩ (fun q102 H locs e102 hP hD hok hS => ?_)
          exact gRi (u := q102.2) hx hb hr hlk hP hD hok hS (by rw [← hfv, f_X0_start, ← e2, f_X0_start_k2, ← e8, f_X0_start_k8, if_pos c11, if_neg c17, ← e40, f_X0_start_k40, if_neg c44_0, if_pos c44_1, ← e102, f_X0_start_k102]) dX0_start_105
        by_cases c44_2 : mb = 2
        · refine gTs (off := 62) (tgt := 106) hx hb dX0_start_44 rfl (by rw [c44_2]; decide) (by decide) ?_
          refine lv_aload_n hx hb dX0_start_106 rfl (lv_at hl 1 rfl) ?_
          refine lv_aload_n hx hb dX0_start_107 rfl (lv_at hl 2 rfl) ?_
          refine lv_iload hx hb dX0_start_108 (lv_at hl 0 rfl) ?_
          refine lv_iload hx hb dX0_start_110 (lv_at hl 5 rfl) ?_
          refine lv_iload hx hb dX0_start_112 (lv_at hl 6 rfl) ?_
          refine gVi (u := q40) (Wd := (b_W (gI G) hB hT hW hEn hV)) (ok := b_ok) (As := [.ref hV, .int q2, .int n, .int dp]) (rest := []) ⟨hx, hb, hml, hown, hts⟩ (c_X0_riskBody l G A hB hT hW hEn hV k dp K hK q2 n q40 hok) (cwV 4 hts gX0_start_X0_riskBody rfl rfl rfl (by decide +kernel) ⟨by show 4 * k + 7 + 1 ≤ 4 * (k + 1) + 4; omega, by show 8 + (6 + 11) + (120 * k + 135) ≤ 120 * (k + 1) + 60; omega⟩) hE hP hD hS (va_recv hE.1 hP (ci := 0) (q0 := 0) rfl rfl) rfl hl.1 rfl (Nat.le_of_ble_eq_true rfl) dX0_start_114 ⟨Nat.zero_le _, Nat.zero_le _⟩ (fun q114 H locs e114 hP hD hok hS => ?_)
          exact gRi (u := q114.2) hx hb hr hlk hP hD hok hS (by rw [← hfv, f_X0_start, ← e2, f_X0_start_k2, ← e8, f_X0_start_k8, if_pos c11, if_neg c17, ← e40, f_X0_start_k40, if_neg c44_0, if_neg c44_1, if_pos c44_2, ← e114, f_X0_start_k114]) dX0_start_117
        by_cases c44_3 : mb = 3
        · refine gTs (off := 74) (tgt := 118) hx hb dX0_start_44 rfl (by rw [c44_3]; decide) (by decide) ?_
          refine lv_aload_n hx hb dX0_start_118 rfl (lv_at hl 1 rfl) ?_
          refine lv_aload_n hx hb dX0_start_119 rfl (lv_at hl 2 rfl) ?_
          refine lv_iload hx hb dX0_start_120 (lv_at hl 0 rfl) ?_
          refine lv_iload hx hb dX0_start_122 (lv_at hl 5 rfl) ?_
          refine lv_iload hx hb dX0_start_124 (lv_at hl 6 rfl) ?_
          refine gVi (u := q40) (Wd := (b_W (gI G) hB hT hW hEn hV)) (ok := b_ok) (As := [.ref hV, .int q2, .int n, .int dp]) (rest := []) ⟨hx, hb, hml, hown, hts⟩ (c_X0_lashBody l G A hB hT hW hEn hV k dp K hK q2 n q40 hok) (cwV 4 hts gX0_start_X0_lashBody rfl rfl rfl (by decide +kernel) ⟨by show 4 * k + 7 + 1 ≤ 4 * (k + 1) + 4; omega, by show 8 + (5 + 11) + (120 * k + 135) ≤ 120 * (k + 1) + 60; omega⟩) hE hP hD hS (va_recv hE.1 hP (ci := 0) (q0 := 0) rfl rfl) rfl hl.1 rfl (Nat.le_of_ble_eq_true rfl) dX0_start_126 ⟨Nat.zero_le _, Nat.zero_le _⟩ (fun q126 H locs e126 hP hD hok hS => ?_)
          exact gRi (u := q126.2) hx hb hr hlk hP hD hok hS (by rw [← hfv, f_X0_start, ← e2, f_X0_start_k2, ← e8, f_X0_start_k8, if_pos c11, if_neg c17, ← e40, f_X0_start_k40, if_neg c44_0, if_neg c44_1, if_neg c44_2, if_pos c44_3, ← e126, f_X0_start_k126]) dX0_start_129
        by_cases c44_4 : mb = 4
        · refine gTs (off := 86) (tgt := 130) hx hb dX0_start_44 rfl (by rw [c44_4]; decide) (by decide) ?_
          refine lv_aload_n hx hb dX0_start_130 rfl (lv_at hl 1 rfl) ?_
          refine lv_aload_n hx hb dX0_start_131 rfl (lv_at hl 2 rfl) ?_
          refine lv_iload hx hb dX0_start_132 (lv_at hl 0 rfl) ?_
          refine lv_iload hx hb dX0_start_134 (lv_at hl 6 rfl) ?_
          refine gVi (u := q40) (Wd := (b_W (gI G) hB hT hW hEn hV)) (ok := b_ok) (As := [.ref hV, .int q2, .int dp]) (rest := []) ⟨hx, hb, hml, hown, hts⟩ (c_X0_markBody l G A hB hT hW hEn hV k dp K hK q2 q40 hok) (cwV 3 hts gX0_start_X0_markBody rfl rfl rfl (by decide +kernel) ⟨by show 4 * k + 7 + 1 ≤ 4 * (k + 1) + 4; omega, by show 8 + (5 + 11) + (120 * k + 135) ≤ 120 * (k + 1) + 60; omega⟩) hE hP hD hS (va_recv hE.1 hP (ci := 0) (q0 := 0) rfl rfl) rfl hl.1 rfl (Nat.le_of_ble_eq_true rfl) dX0_start_136 ⟨Nat.zero_le _, Nat.zero_le _⟩ (fun q136 H locs e136 hP hD hok hS => ?_)
          exact gRi (u := q136.2) hx hb hr hlk hP hD hok hS (by rw [← hfv, f_X0_start, ← e2, f_X0_start_k2, ← e8, f_X0_start_k8, if_pos c11, if_neg c17, ← e40, f_X0_start_k40, if_neg c44_0, if_neg c44_1, if_neg c44_2, if_neg c44_3, if_pos c44_4, ← e136, f_X0_start_k136]) dX0_start_139
        by_cases c44_5 : mb = 5
        · refine gTs (off := 96) (tgt := 140) hx hb dX0_start_44 rfl (by rw [c44_5]; decide) (by decide) ?_
          refine lv_aload_n hx hb dX0_start_140 rfl (lv_at hl 1 rfl) ?_
          refine lv_aload_n hx hb dX0_start_141 rfl (lv_at hl 2 rfl) ?_
          refine lv_iload hx hb dX0_start_142 (lv_at hl 0 rfl) ?_
          refine lv_iload hx hb dX0_start_144 (lv_at hl 5 rfl) ?_
          refine lv_iload hx hb dX0_start_146 (lv_at hl 6 rfl) ?_
          refine gVi (u := q40) (Wd := (b_W (gI G) hB hT hW hEn hV)) (ok := b_ok) (As := [.ref hV, .int q2, .int n, .int dp]) (rest := []) ⟨hx, hb, hml, hown, hts⟩ (c_X0_pullBody l G A hB hT hW hEn hV k dp K hK q2 n q40 hok) (cwV 4 hts gX0_start_X0_pullBody rfl rfl rfl (by decide +kernel) ⟨by show 4 * k + 7 + 1 ≤ 4 * (k + 1) + 4; omega, by show 8 + (6 + 11) + (120 * k + 135) ≤ 120 * (k + 1) + 60; omega⟩) hE hP hD hS (va_recv hE.1 hP (ci := 0) (q0 := 0) rfl rfl) rfl hl.1 rfl (Nat.le_of_ble_eq_true rfl) dX0_start_148 ⟨Nat.zero_le _, Nat.zero_le _⟩ (fun q148 H locs e148 hP hD hok hS => ?_)
          exact gRi (u := q148.2) hx hb hr hlk hP hD hok hS (by rw [← hfv, f_X0_start, ← e2, f_X0_start_k2, ← e8, f_X0_start_k8, if_pos c11, if_neg c17, ← e40, f_X0_start_k40, if_neg c44_0, if_neg c44_1, if_neg c44_2, if_neg c44_3, if_neg c44_4, if_pos c44_5, ← e148, f_X0_start_k148]) dX0_start_151
        refine gTs (off := 108) (tgt := 152) hx hb dX0_start_44 rfl (by have z0 := lv_neT (a := 0) c44_0 (by decide); have z1 := lv_neT (a := 1) c44_1 (by decide); have z2 := lv_neT (a := 2) c44_2 (by decide); have z3 := lv_neT (a := 3) c44_3 (by decide); have z4 := lv_neT (a := 4) c44_4 (by decide); have z5 := lv_neT (a := 5) c44_5 (by decide); unfold tsO; by_cases hh : mb.toInt < 0 ∨ 5 < mb.toInt; (rw [if_pos hh]); (rw [if_neg hh]; omega)) (by decide) ?_
        refine lv_aload_n hx hb dX0_start_152 rfl (lv_at hl 1 rfl) ?_
        refine lv_aload_n hx hb dX0_start_153 rfl (lv_at hl 2 rfl) ?_
        refine lv_iload hx hb dX0_start_154 (lv_at hl 0 rfl) ?_
        refine lv_iload hx hb dX0_start_156 (lv_at hl 6 rfl) ?_
        refine gVi (u := q40) (Wd := (b_W (gI G) hB hT hW hEn hV)) (ok := b_ok) (As := [.ref hV, .int q2, .int dp]) (rest := []) ⟨hx, hb, hml, hown, hts⟩ (c_X0_hookBody l G A hB hT hW hEn hV k dp K hK q2 q40 hok) (cwV 3 hts gX0_start_X0_hookBody rfl rfl rfl (by decide +kernel) ⟨by show 4 * k + 7 + 1 ≤ 4 * (k + 1) + 4; omega, by show 8 + (4 + 11) + (120 * k + 135) ≤ 120 * (k + 1) + 60; omega⟩) hE hP hD hS (va_recv hE.1 hP (ci := 0) (q0 := 0) rfl rfl) rfl hl.1 rfl (Nat.le_of_ble_eq_true rfl) dX0_start_158 ⟨Nat.zero_le _, Nat.zero_le _⟩ (fun q158 H locs e158 hP hD hok hS => ?_)
        exact gRi (u := q158.2) hx hb hr hlk hP hD hok hS (by rw [← hfv, f_X0_start, ← e2, f_X0_start_k2, ← e8, f_X0_start_k8, if_pos c11, if_neg c17, ← e40, f_X0_start_k40, if_neg c44_0, if_neg c44_1, if_neg c44_2, if_neg c44_3, if_neg c44_4, if_neg c44_5, ← e158, f_X0_start_k158]) dX0_start_161
      · exact absurd (hdp) c24
set_option maxHeartbeats 4000000 in
set_option maxRecDepth 100000 in
theorem c_X0_start (l : Launch) (G : gC) (A : Nat → Prop) (hB hT hW hEn hV : Nat) (k : Nat) (dp : Int32) (K : Int32 → Int32 → Int32 → BS → Int32 × BS) (hK : ∀ (kd mb n : Int32) (u : BS), b_ok u → CI l yX0_start wsX0_start ({ frames := 4 * k + 4, cells := 0, slots := 0, locals := 120 * k + 60 } : Room) G A (b_W (gI G) hB hT hW hEn hV) b_ok [.ref hB, .ref hV, .int kd, .int mb, .int n, .int (dp + 1)] u (K kd mb n u)) (hdp : dp ≤ 20) (kd : Int32) (mb : Int32) (n : Int32) (u : BS) (hok : b_ok u) : CI l yX0_start wsX0_start ({ frames := 4 * (k + 1) + 4, cells := 0, slots := 0, locals := 120 * (k + 1) + 60 } : Room) G A (b_W (gI G) hB hT hW hEn hV) b_ok [.ref hB, .ref hV, .int kd, .int mb, .int n, .int dp] u (f_X0_start K kd mb n u) := by
  refine Met.ofW (cc := cX0_start) (maxL := 7) (ret := (some .int)) (by decide) rfl ?_
  intro p e s m args below meth c s₁ B hml hv
  obtain ⟨rfl, hE, hP, hD⟩ := hv
  have hl := lv_entry ([.ref hB, .ref hV, .int kd, .int mb, .int n, .int dp]) (n := 7) (Nat.le_of_ble_eq_true rfl)
  rw [lg_entry_eq]
  generalize (lg_sl ([.ref hB, .ref hV, .int kd, .int mb, .int n, .int dp]) ++ List.replicate (7 - (lg_sl ([.ref hB, .ref hV, .int kd, .int mb, .int n, .int dp])).length) Slot.unset).toArray = ls at hl ⊢
  exact c_X0_start_0 l G A hB hT hW hEn hV k dp K hK hdp ⟨⟨B.exec, B.bytes, hml, findClass_of_methodNamed B.named, atoms_spec (ws := wsX0_start) B.pre⟩, B.returns, B.notSynchronized⟩ hE kd mb n u hP hD hok va_S.rf hl rfl

-- FerryDecks$Bodies.start
def f_X0_start0_k8 (q2 : Int32) (q8 : Int32 × BS) : Int32 × BS :=
  (if q8.1 = 0 then (if q2 = (-1 : Int32) then ((0 : Int32), q8.2) else ((0 : Int32), q8.2)) else ((0 : Int32), q8.2))
def f_X0_start0_k2 (u : BS) (q2 : Int32) : Int32 × BS :=
  (f_X0_start0_k8 q2 (f_X0_failed u))
def f_X0_start0 (kd : Int32) (mb : Int32) (n : Int32) (u : BS) : Int32 × BS :=
  (f_X0_start0_k2 u (f_X4_ownerOf mb kd))
set_option maxHeartbeats 4000000 in
set_option maxRecDepth 100000 in
theorem c_X0_start0_0 {p : Program} {e : Env} {s : State} {m : MethodId} {args : Array Value} {below : List Frame} {meth : Method} {c : Code} (l : Launch) (G : gC) (A : Nat → Prop) (hB hT hW hEn hV : Nat) (dp : Int32) (hdp : ¬ dp ≤ 20) (C0 : gX p s m args meth c cX0_start 7 wsX0_start RX0 (some .int)) (hE : gE G A s) (kd : Int32) (mb : Int32) (n : Int32) (u : BS) {H : Heap} {locs : List Loc} (hP : va_P (gD G) vwCl ((b_W (gI G) hB hT hW hEn hV) u) H) (hD : va_D A ((b_W (gI G) hB hT hW hEn hV) u)) (hok : b_ok u) (hS : va_S A s.heap H locs) {ls : Array Slot} (hl : lv_has ls 7 [(0, .ref hB), (1, .ref hV), (2, .int kd), (3, .int mb), (4, .int n), (5, .int dp)]) {fv : Int32 × BS} (hfv : f_X0_start0 kd mb n u = fv) : W p l e ({ frames := 4, cells := 0, slots := 0, locals := 60 } : Room) s m args below meth c H locs 0 0 (MQ below (gQi G A (b_W (gI G) hB hT hW hEn hV) b_ok fv) args s 0 0 A) (F0 m 0 ls []) := by
  obtain ⟨⟨hx, hb, hml, hown, hts⟩, hr, hlk⟩ := id C0
  have hok0 := hok
  have k0 := hts (.initialized RX4) (by decide +kernel)
  have k1 := hts (.static yX4_ownerOf) (by decide +kernel)
  refine lv_iload_n hx hb dX0_start_0 rfl (lv_at hl 3 rfl) ?_
  refine lv_iload_n hx hb dX0_start_1 rfl (lv_at hl 2 rfl) ?_
  refine gNi (As := [.int mb, .int kd]) (rest := []) ⟨hx, hb, hml, hown, hts⟩ (c_X4_ownerOf l G A mb kd) ⟨va_cnB 2 hts gX0_start_X4_ownerOf_n38 rfl rfl rfl hE.2.1.2.1 k0 (by decide +kernel) ⟨by show 1 + 1 ≤ 4; omega, by show 8 + (2 + 11) + 22 ≤ 60; omega⟩, k1, trivial⟩ hE hS rfl hl.1 rfl (Nat.le_of_ble_eq_true rfl) dX0_start_2 ⟨Nat.zero_le _, Nat.zero_le _⟩ (fun q2 e2 => ?_)
  refine lv_istore (lv' := [(6, .int q2), (0, .ref hB), (1, .ref hV), (2, .int kd), (3, .int mb), (4, .int n), (5, .int dp)]) hx hb dX0_start_5 hl (by decide) rfl (fun ls hl => ?_)
  refine lv_aload_n hx hb dX0_start_7 rfl (lv_at hl 1 rfl) ?_
  refine gVi (u := u) (Wd := (b_W (gI G) hB hT hW hEn hV)) (ok := b_ok) (As := []) (rest := []) ⟨hx, hb, hml, hown, hts⟩ (c_X0_failed l G A hB hT hW hEn hV u hok) (cwV 0 hts gX0_start_X0_failed rfl rfl rfl (by decide +kernel) ⟨by show 0 + 1 ≤ 4; omega, by show 8 + (1 + 11) + 0 ≤ 60; omega⟩) hE hP hD hS (va_recv hE.1 hP (ci := 0) (q0 := 0) rfl rfl) rfl hl.1 rfl (Nat.le_of_ble_eq_true rfl) dX0_start_8 ⟨Nat.zero_le _, Nat.zero_le _⟩ (fun q8 H locs e8 hP hD hok hS => ?_)
  refine lv_if_ne (tgt := 27) hx hb dX0_start_11 (by decide) (fun c11 => ?_) (fun c11 => ?_)
  · refine lv_iconst (v := 0) hx hb dX0_start_27 (by decide) ?_
    exact gRi (u := q8.2) hx hb hr hlk hP hD hok hS (by rw [← hfv, f_X0_start0, ← e2, f_X0_start0_k2, ← e8, f_X0_start0_k8, if_neg c11]) dX0_start_28
  · refine lv_iload hx hb dX0_start_14 (lv_at hl 0 rfl) ?_
    refine lv_iconst (v := -1) hx hb dX0_start_16 (by decide) ?_
    refine lv_icmp_eq (tgt := 27) hx hb dX0_start_17 (by decide) (fun c17 => ?_) (fun c17 => ?_)
    · refine lv_iconst (v := 0) hx hb dX0_start_27 (by decide) ?_
      exact gRi (u := q8.2) hx hb hr hlk hP hD hok hS (by rw [← hfv, f_X0_start0, ← e2, f_X0_start0_k2, ← e8, f_X0_start0_k8, if_pos c11, if_pos c17]) dX0_start_28
    · refine lv_iload hx hb dX0_start_20 (lv_at hl 6 rfl) ?_
      refine lv_bipush (v := 20) hx hb dX0_start_22 (by decide) ?_
      refine lv_icmp_le (tgt := 29) hx hb dX0_start_24 (by decide) (fun c24 => ?_) (fun c24 => ?_)
      · exact absurd c24 (hdp)
      · refine lv_iconst (v := 0) hx hb dX0_start_27 (by decide) ?_
        exact gRi (u := q8.2) hx hb hr hlk hP hD hok hS (by rw [← hfv, f_X0_start0, ← e2, f_X0_start0_k2, ← e8, f_X0_start0_k8, if_pos c11, if_neg c17]) dX0_start_28
set_option maxHeartbeats 4000000 in
set_option maxRecDepth 100000 in
theorem c_X0_start0 (l : Launch) (G : gC) (A : Nat → Prop) (hB hT hW hEn hV : Nat) (dp : Int32) (hdp : ¬ dp ≤ 20) (kd : Int32) (mb : Int32) (n : Int32) (u : BS) (hok : b_ok u) : CI l yX0_start wsX0_start ({ frames := 4, cells := 0, slots := 0, locals := 60 } : Room) G A (b_W (gI G) hB hT hW hEn hV) b_ok [.ref hB, .ref hV, .int kd, .int mb, .int n, .int dp] u (f_X0_start0 kd mb n u) := by
  refine Met.ofW (cc := cX0_start) (maxL := 7) (ret := (some .int)) (by decide) rfl ?_
  intro p e s m args below meth c s₁ B hml hv
  obtain ⟨rfl, hE, hP, hD⟩ := hv
  have hl := lv_entry ([.ref hB, .ref hV, .int kd, .int mb, .int n, .int dp]) (n := 7) (Nat.le_of_ble_eq_true rfl)
  rw [lg_entry_eq]
  generalize (lg_sl ([.ref hB, .ref hV, .int kd, .int mb, .int n, .int dp]) ++ List.replicate (7 - (lg_sl ([.ref hB, .ref hV, .int kd, .int mb, .int n, .int dp])).length) Slot.unset).toArray = ls at hl ⊢
  exact c_X0_start0_0 l G A hB hT hW hEn hV dp hdp ⟨⟨B.exec, B.bytes, hml, findClass_of_methodNamed B.named, atoms_spec (ws := wsX0_start) B.pre⟩, B.returns, B.notSynchronized⟩ hE kd mb n u hP hD hok va_S.rf hl rfl
