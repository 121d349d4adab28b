-- FerryDecksModel.length
def f_X5_length_92 (v : Int32) (x2 : Int32) (s0 : Int32) (u : MS) : Int32 × MS :=
  (if x2 ≤ (3 : Int32) then (s0, u) else (s0 + (m_T u ((0 : Int32) : Int32).toNatClampNeg), u))
def f_X5_length_k63 (v : Int32) (x2 : Int32) (x3 : Int32) (q63 : MS) : Int32 × MS :=
  (if x3 = 0 then (if (9 : Int32) ≤ x2 then (if (2 : Int32) ≤ ((m_sz q63 (v : Int32).toNatClampNeg) + (2 : Int32)) then (((m_sz q63 (v : Int32).toNatClampNeg) + (2 : Int32)) - (1 : Int32), q63) else ((1 : Int32), q63)) else ((m_sz q63 (v : Int32).toNatClampNeg) + (2 : Int32), q63)) else (if x2 ≤ (1 : Int32) then f_X5_length_92 v x2 (m_sz q63 (v : Int32).toNatClampNeg) q63 else f_X5_length_92 v x2 ((m_sz q63 (v : Int32).toNatClampNeg) + (1 : Int32)) q63))
def f_X5_length_60 (v : Int32) (x2 : Int32) (x3 : Int32) (u : MS) : Int32 × MS :=
  (f_X5_length_k63 v x2 x3 (f_X5_began (0 : Int32) (0 : Int32) u))
def f_X5_length_k57 (v : Int32) (x2 : Int32) (x3 : Int32) (q57 : MS) : Int32 × MS :=
  f_X5_length_60 v x2 x3 q57
def f_X5_length_56 (v : Int32) (x2 : Int32) (x3 : Int32) (s0 : Int32) (u : MS) : Int32 × MS :=
  (f_X5_length_k57 v x2 x3 (f_X5_began s0 (0 : Int32) u))
def f_X5_length_40 (v : Int32) (x2 : Int32) (x3 : Int32) (u : MS) : Int32 × MS :=
  (if x2 ≤ (1 : Int32) then f_X5_length_60 v x2 x3 u else (if x3 = 0 then f_X5_length_56 v x2 x3 (6 : Int32) u else f_X5_length_56 v x2 x3 (2 : Int32) u))
def f_X5_length_k37 (v : Int32) (x2 : Int32) (x3 : Int32) (q37 : MS) : Int32 × MS :=
  f_X5_length_40 v x2 x3 q37
def f_X5_length_25 (v : Int32) (x2 : Int32) (x3 : Int32) (u : MS) : Int32 × MS :=
  (if x3 = 0 then f_X5_length_40 v x2 x3 u else (if x2 ≤ (3 : Int32) then f_X5_length_40 v x2 x3 u else (f_X5_length_k37 v x2 x3 (f_X5_began (4 : Int32) (0 : Int32) u))))
def f_X5_length_k22 (v : Int32) (u : MS) (q8 : Int32) (q22 : MS) : Int32 × MS :=
  f_X5_length_25 v (m_kd u (v : Int32).toNatClampNeg) q8 q22
def f_X5_length_k8 (v : Int32) (u : MS) (q8 : Int32) : Int32 × MS :=
  (if (m_kd u (v : Int32).toNatClampNeg) = (9 : Int32) then (f_X5_length_k22 v u q8 (f_X5_began (9 : Int32) (0 : Int32) u)) else f_X5_length_25 v (m_kd u (v : Int32).toNatClampNeg) q8 u)
def f_X5_length (v : Int32) (u : MS) : Int32 × MS :=
  (f_X5_length_k8 v u (f_X5_isCar (m_kd u (v : Int32).toNatClampNeg)))
set_option maxHeartbeats 4000000 in
set_option maxRecDepth 100000 in
theorem c_X5_length_92 {p : Program} {e : Env} {s : State} {m : MethodId} {args : Array Value} {below : List Frame} {meth : Method} {c : Code} (l : Launch) (G : gC) (A : Nat → Prop) (hM hTm hkd hsz hld hch hdk htk hme hte : Nat) (v : Int32) (hv : vp_in v 70) (C0 : gX p s m args meth c cX5_length 5 wsX5_length RX5 (some .int)) (hE : gE G A s) (x2 : Int32) (s0 : Int32) (u : MS) {H : Heap} {locs : List Loc} (hP : va_P (gD G) vwCl ((m_W (gI G) hM hTm hkd hsz hld hch hdk htk hme hte) u) H) (hD : va_D A ((m_W (gI G) hM hTm hkd hsz hld hch hdk htk hme hte) u)) (hok : m_ok u) (hS : va_S A s.heap H locs) {ls : Array Slot} (hl : lv_has ls 5 [(0, .ref hM), (2, .int x2)]) {fv : Int32 × MS} (hfv : f_X5_length_92 v x2 s0 u = fv) : W p l e ({ frames := 1, cells := 0, slots := 0, locals := 22 } : Room) s m args below meth c H locs 0 0 (MQ below (gQi G A (m_W (gI G) hM hTm hkd hsz hld hch hdk htk hme hte) m_ok fv) args s 0 0 A) (F0 m 92 ls [.int s0]) := by
  obtain ⟨⟨hx, hb, hml, hown, hts⟩, hr, hlk⟩ := id C0
  have hok0 := hok
  have k0 := hts (.fieldLink RX5 7 "FerryDecksModel" "terms" "[I") (by decide +kernel)
  have iX5 : ∀ w ∈ wsX50, w ∈ wsX5_length := by decide +kernel
  refine lv_istore (lv' := [(4, .int s0), (0, .ref hM), (2, .int x2)]) hx hb dX5_length_92 hl (by decide) rfl (fun ls hl => ?_)
  refine lv_iload_n hx hb dX5_length_94 rfl (lv_at hl 2 rfl) ?_
  refine lv_iconst (v := 3) hx hb dX5_length_95 (by decide) ?_
  refine lv_icmp_le (tgt := 111) hx hb dX5_length_96 (by decide) (fun c96 => ?_) (fun c96 => ?_)
  · refine lv_iload hx hb dX5_length_111 (lv_at hl 0 rfl) ?_
    exact gRi (u := u) hx hb hr hlk hP hD hok hS (by rw [← hfv, f_X5_length_92, if_pos c96]) dX5_length_113
  · refine lv_iload hx hb dX5_length_99 (lv_at hl 0 rfl) ?_
    refine lv_aload_n hx hb dX5_length_101 rfl (lv_at hl 1 rfl) ?_
    refine va_get (D := gD G) (ci := 5) (v := .ref hTm) (C := RX5) (T := TX5) (N := 17) hx hb hts iX5 hown hE.1 hP 0 rfl rfl 0 (by decide) k0 (fun _ h9 => h9) rfl dX5_length_102 ?_
    refine lv_iconst (v := 0) hx hb dX5_length_105 (by decide) ?_
    refine va_iald hx hb hE.1 hP 1 0 rfl rfl (gIn (by decide) (by decide) (by decide)) dX5_length_106 ?_
    refine lv_iadd hx hb dX5_length_107 ?_
    refine lv_goto (tgt := 113) hx hb dX5_length_108 (by decide) ?_
    exact gRi (u := u) hx hb hr hlk hP hD hok hS (by rw [← hfv, f_X5_length_92, if_neg c96]) dX5_length_113
set_option maxHeartbeats 4000000 in
set_option maxRecDepth 100000 in
theorem c_X5_length_60 {p : Program} {e : Env} {s : State} {m : MethodId} {args : Array Value} {below : List Frame} {meth : Method} {c : Code} (l : Launch) (G : gC) (A : Nat → Prop) (hM hTm hkd hsz hld hch hdk htk hme hte : Nat) (v : Int32) (hv : vp_in v 70) (C0 : gX p s m args meth c cX5_length 5 wsX5_length RX5 (some .int)) (hE : gE G A s) (x2 : Int32) (x3 : Int32) (u : MS) {H : Heap} {locs : List Loc} (hP : va_P (gD G) vwCl ((m_W (gI G) hM hTm hkd hsz hld hch hdk htk hme hte) u) H) (hD : va_D A ((m_W (gI G) hM hTm hkd hsz hld hch hdk htk hme hte) u)) (hok : m_ok u) (hS : va_S A s.heap H locs) {ls : Array Slot} (hl : lv_has ls 5 [(0, .ref hM), (1, .int v), (2, .int x2), (3, .int x3)]) {fv : Int32 × MS} (hfv : f_X5_length_60 v x2 x3 u = fv) : W p l e ({ frames := 1, cells := 0, slots := 0, locals := 22 } : Room) s m args below meth c H locs 0 0 (MQ below (gQi G A (m_W (gI G) hM hTm hkd hsz hld hch hdk htk hme hte) m_ok fv) args s 0 0 A) (F0 m 60 ls []) := by
  obtain ⟨⟨hx, hb, hml, hown, hts⟩, hr, hlk⟩ := id C0
  have hok0 := hok
  have k0 := hts (.fieldLink RX5 16 "FerryDecksModel" "sizes" "[I") (by decide +kernel)
  have iX5 : ∀ w ∈ wsX50, w ∈ wsX5_length := by decide +kernel
  refine lv_aload_n hx hb dX5_length_60 rfl (lv_at hl 0 rfl) ?_
  refine lv_iconst (v := 0) hx hb dX5_length_61 (by decide) ?_
  refine lv_iconst (v := 0) hx hb dX5_length_62 (by decide) ?_
  refine gVv (u := u) (Wd := (m_W (gI G) hM hTm hkd hsz hld hch hdk htk hme hte)) (ok := m_ok) (As := [.int (0 : Int32), .int (0 : Int32)]) (rest := []) ⟨hx, hb, hml, hown, hts⟩ (c_X5_began l G A hM hTm hkd hsz hld hch hdk htk hme hte (0 : Int32) (0 : Int32) u hok) (cwV 2 hts gX5_length_X5_began rfl rfl rfl (by decide +kernel) ⟨Nat.le_of_ble_eq_true rfl, Nat.le_of_ble_eq_true rfl⟩) hE hP hD hS (va_recv hE.1 hP (ci := 5) (q0 := 0) rfl rfl) rfl hl.1 rfl (Nat.le_of_ble_eq_true rfl) dX5_length_63 ⟨Nat.zero_le _, Nat.zero_le _⟩ (fun q63 H locs e63 hP hD hok hS => ?_)
  refine lv_aload_n hx hb dX5_length_66 rfl (lv_at hl 0 rfl) ?_
  refine va_get (D := gD G) (ci := 5) (v := .ref hsz) (C := RX5) (T := TX5) (N := 17) hx hb hts iX5 hown hE.1 hP 0 rfl rfl 3 (by decide) k0 (fun _ h9 => h9) rfl dX5_length_67 ?_
  refine lv_iload_n hx hb dX5_length_70 rfl (lv_at hl 1 rfl) ?_
  refine va_iald hx hb hE.1 hP 3 0 rfl rfl (hv) dX5_length_71 ?_
  refine lv_istore (lv' := [(4, .int (m_sz q63 (v : Int32).toNatClampNeg)), (0, .ref hM), (1, .int v), (2, .int x2), (3, .int x3)]) hx hb dX5_length_72 hl (by decide) rfl (fun ls hl => ?_)
  refine lv_iload_n hx hb dX5_length_74 rfl (lv_at hl 4 rfl) ?_
  refine lv_if_eq (tgt := 114) hx hb dX5_length_75 (by decide) (fun c75 => ?_) (fun c75 => ?_)
  · refine lv_iload hx hb dX5_length_114 (lv_at hl 0 rfl) ?_
    refine lv_iconst (v := 2) hx hb dX5_length_116 (by decide) ?_
    refine lv_iadd hx hb dX5_length_117 ?_
    refine lv_istore (lv' := [(4, .int ((m_sz q63 (v : Int32).toNatClampNeg) + (2 : Int32))), (0, .ref hM), (1, .int v), (2, .int x2), (3, .int x3)]) hx hb dX5_length_118 hl (by decide) rfl (fun ls hl => ?_)
    refine lv_iload_n hx hb dX5_length_120 rfl (lv_at hl 3 rfl) ?_
    refine lv_bipush (v := 9) hx hb dX5_length_121 (by decide) ?_
    refine lv_icmp_ge (tgt := 131) hx hb dX5_length_123 (by decide) (fun c123 => ?_) (fun c123 => ?_)
    · refine lv_iload hx hb dX5_length_131 (lv_at hl 0 rfl) ?_
      refine lv_iconst (v := 2) hx hb dX5_length_133 (by decide) ?_
      refine lv_icmp_ge (tgt := 141) hx hb dX5_length_134 (by decide) (fun c134 => ?_) (fun c134 => ?_)
      · refine lv_iload hx hb dX5_length_141 (lv_at hl 0 rfl) ?_
        refine lv_iconst (v := 1) hx hb dX5_length_143 (by decide) ?_
        refine lv_isub hx hb dX5_length_144 ?_
        exact gRi (u := q63) hx hb hr hlk hP hD hok hS (by rw [← hfv, f_X5_length_60, ← e63, f_X5_length_k63, if_pos c75, if_pos c123, if_pos c134]) dX5_length_145
      · refine lv_iconst (v := 1) hx hb dX5_length_137 (by decide) ?_
        refine lv_goto (tgt := 145) hx hb dX5_length_138 (by decide) ?_
        exact gRi (u := q63) hx hb hr hlk hP hD hok hS (by rw [← hfv, f_X5_length_60, ← e63, f_X5_length_k63, if_pos c75, if_pos c123, if_neg c134]) dX5_length_145
    · refine lv_iload hx hb dX5_length_126 (lv_at hl 0 rfl) ?_
      refine lv_goto (tgt := 145) hx hb dX5_length_128 (by decide) ?_
      exact gRi (u := q63) hx hb hr hlk hP hD hok hS (by rw [← hfv, f_X5_length_60, ← e63, f_X5_length_k63, if_pos c75, if_neg c123]) dX5_length_145
  · refine lv_iload_n hx hb dX5_length_78 rfl (lv_at hl 3 rfl) ?_
    refine lv_iconst (v := 1) hx hb dX5_length_79 (by decide) ?_
    refine lv_icmp_le (tgt := 90) hx hb dX5_length_80 (by decide) (fun c80 => ?_) (fun c80 => ?_)
    · refine lv_iload hx hb dX5_length_90 (lv_at hl 0 rfl) ?_
      exact c_X5_length_92 l G A hM hTm hkd hsz hld hch hdk htk hme hte v hv C0 hE x2 (m_sz q63 (v : Int32).toNatClampNeg) q63 hP hD hok hS (lv_sub hl [1, 3] rfl) (by rw [← hfv, f_X5_length_60, ← e63, f_X5_length_k63, if_neg c75, if_pos c80])
    · refine lv_iload hx hb dX5_length_83 (lv_at hl 0 rfl) ?_
      refine lv_iconst (v := 1) hx hb dX5_length_85 (by decide) ?_
      refine lv_iadd hx hb dX5_length_86 ?_
      refine lv_goto (tgt := 92) hx hb dX5_length_87 (by decide) ?_
      exact c_X5_length_92 l G A hM hTm hkd hsz hld hch hdk htk hme hte v hv C0 hE x2 ((m_sz q63 (v : Int32).toNatClampNeg) + (1 : Int32)) q63 hP hD hok hS (lv_sub hl [1, 3] rfl) (by rw [← hfv, f_X5_length_60, ← e63, f_X5_length_k63, if_neg c75, if_neg c80])
set_option maxHeartbeats 4000000 in
set_option maxRecDepth 100000 in
theorem c_X5_length_56 {p : Program} {e : Env} {s : State} {m : MethodId} {args : Array Value} {below : List Frame} {meth : Method} {c : Code} (l : Launch) (G : gC) (A : Nat → Prop) (hM hTm hkd hsz hld hch hdk htk hme hte : Nat) (v : Int32) (hv : vp_in v 70) (C0 : gX p s m args meth c cX5_length 5 wsX5_length RX5 (some .int)) (hE : gE G A s) (x2 : Int32) (x3 : Int32) (s0 : Int32) (u : MS) {H : Heap} {locs : List Loc} (hP : va_P (gD G) vwCl ((m_W (gI G) hM hTm hkd hsz hld hch hdk htk hme hte) u) H) (hD : va_D A ((m_W (gI G) hM hTm hkd hsz hld hch hdk htk hme hte) u)) (hok : m_ok u) (hS : va_S A s.heap H locs) {ls : Array Slot} (hl : lv_has ls 5 [(0, .ref hM), (1, .int v), (2, .int x2), (3, .int x3)]) {fv : Int32 × MS} (hfv : f_X5_length_56 v x2 x3 s0 u = fv) : W p l e ({ frames := 1, cells := 0, slots := 0, locals := 22 } : Room) s m args below meth c H locs 0 0 (MQ below (gQi G A (m_W (gI G) hM hTm hkd hsz hld hch hdk htk hme hte) m_ok fv) args s 0 0 A) (F0 m 56 ls [.int s0, .ref hM]) := by
  obtain ⟨⟨hx, hb, hml, hown, hts⟩, hr, hlk⟩ := id C0
  have hok0 := hok
  refine lv_iconst (v := 0) hx hb dX5_length_56 (by decide) ?_
  refine gVv (u := u) (Wd := (m_W (gI G) hM hTm hkd hsz hld hch hdk htk hme hte)) (ok := m_ok) (As := [.int s0, .int (0 : Int32)]) (rest := []) ⟨hx, hb, hml, hown, hts⟩ (c_X5_began l G A hM hTm hkd hsz hld hch hdk htk hme hte s0 (0 : Int32) u hok) (cwV 2 hts gX5_length_X5_began rfl rfl rfl (by decide +kernel) ⟨Nat.le_of_ble_eq_true rfl, Nat.le_of_ble_eq_true rfl⟩) hE hP hD hS (va_recv hE.1 hP (ci := 5) (q0 := 0) rfl rfl) rfl hl.1 rfl (Nat.le_of_ble_eq_true rfl) dX5_length_57 ⟨Nat.zero_le _, Nat.zero_le _⟩ (fun q57 H locs e57 hP hD hok hS => ?_)
  exact c_X5_length_60 l G A hM hTm hkd hsz hld hch hdk htk hme hte v hv C0 hE x2 x3 q57 hP hD hok hS (lv_sub hl [0, 1, 2, 3] rfl) (by rw [← hfv, f_X5_length_56, ← e57, f_X5_length_k57])
set_option maxHeartbeats 4000000 in
set_option maxRecDepth 100000 in
theorem c_X5_length_40 {p : Program} {e : Env} {s : State} {m : MethodId} {args : Array Value} {below : List Frame} {meth : Method} {c : Code} (l : Launch) (G : gC) (A : Nat → Prop) (hM hTm hkd hsz hld hch hdk htk hme hte : Nat) (v : Int32) (hv : vp_in v 70) (C0 : gX p s m args meth c cX5_length 5 wsX5_length RX5 (some .int)) (hE : gE G A s) (x2 : Int32) (x3 : Int32) (u : MS) {H : Heap} {locs : List Loc} (hP : va_P (gD G) vwCl ((m_W (gI G) hM hTm hkd hsz hld hch hdk htk hme hte) u) H) (hD : va_D A ((m_W (gI G) hM hTm hkd hsz hld hch hdk htk hme hte) u)) (hok : m_ok u) (hS : va_S A s.heap H locs) {ls : Array Slot} (hl : lv_has ls 5 [(0, .ref hM), (1, .int v), (2, .int x2), (3, .int x3)]) {fv : Int32 × MS} (hfv : f_X5_length_40 v x2 x3 u = fv) : W p l e ({ frames := 1, cells := 0, slots := 0, locals := 22 } : Room) s m args below meth c H locs 0 0 (MQ below (gQi G A (m_W (gI G) hM hTm hkd hsz hld hch hdk htk hme hte) m_ok fv) args s 0 0 A) (F0 m 40 ls []) := by
  obtain ⟨⟨hx, hb, hml, hown, hts⟩, hr, hlk⟩ := id C0
  have hok0 := hok
  refine lv_iload_n hx hb dX5_length_40 rfl (lv_at hl 2 rfl) ?_
  refine lv_iconst (v := 1) hx hb dX5_length_41 (by decide) ?_
  refine lv_icmp_le (tgt := 60) hx hb dX5_length_42 (by decide) (fun c42 => ?_) (fun c42 => ?_)
  · exact c_X5_length_60 l G A hM hTm hkd hsz hld hch hdk htk hme hte v hv C0 hE x2 x3 u hP hD hok hS (lv_sub hl [0, 1, 2, 3] rfl) (by rw [← hfv, f_X5_length_40, if_pos c42])
  · refine lv_aload_n hx hb dX5_length_45 rfl (lv_at hl 0 rfl) ?_
    refine lv_iload_n hx hb dX5_length_46 rfl (lv_at hl 3 rfl) ?_
    refine lv_if_eq (tgt := 54) hx hb dX5_length_47 (by decide) (fun c47 => ?_) (fun c47 => ?_)
    · refine lv_bipush (v := 6) hx hb dX5_length_54 (by decide) ?_
      exact c_X5_length_56 l G A hM hTm hkd hsz hld hch hdk htk hme hte v hv C0 hE x2 x3 (6 : Int32) u hP hD hok hS (lv_sub hl [0, 1, 2, 3] rfl) (by rw [← hfv, f_X5_length_40, if_neg c42, if_pos c47])
    · refine lv_iconst (v := 2) hx hb dX5_length_50 (by decide) ?_
      refine lv_goto (tgt := 56) hx hb dX5_length_51 (by decide) ?_
      exact c_X5_length_56 l G A hM hTm hkd hsz hld hch hdk htk hme hte v hv C0 hE x2 x3 (2 : Int32) u hP hD hok hS (lv_sub hl [0, 1, 2, 3] rfl) (by rw [← hfv, f_X5_length_40, if_neg c42, if_neg c47])
set_option maxHeartbeats 4000000 in
set_option maxRecDepth 100000 in
theorem c_X5_length_25 {p : Program} {e : Env} {s : State} {m : MethodId} {args : Array Value} {below : List Frame} {meth : Method} {c : Code} (l : Launch) (G : gC) (A : Nat → Prop) (hM hTm hkd hsz hld hch hdk htk hme hte : Nat) (v : Int32) (hv : vp_in v 70) (C0 : gX p s m args meth c cX5_length 5 wsX5_length RX5 (some .int)) (hE : gE G A s) (x2 : Int32) (x3 : Int32) (u : MS) {H : Heap} {locs : List Loc} (hP : va_P (gD G) vwCl ((m_W (gI G) hM hTm hkd hsz hld hch hdk htk hme hte) u) H) (hD : va_D A ((m_W (gI G) hM hTm hkd hsz hld hch hdk htk hme hte) u)) (hok : m_ok u) (hS : va_S A s.heap H locs) {ls : Array Slot} (hl : lv_has ls 5 [(0, .ref hM), (1, .int v), (2, .int x2), (3, .int x3)]) {fv : Int32 × MS} (hfv : f_X5_length_25 v x2 x3 u = fv) : W p l e ({ frames := 1, cells := 0, slots := 0, locals := 22 } : Room) s m args below meth c H locs 0 0 (MQ below (gQi G A (m_W (gI G) hM hTm hkd hsz hld hch hdk htk hme hte) m_ok fv) args s 0 0 A) (F0 m 25 ls []) := by
  obtain ⟨⟨hx, hb, hml, hown, hts⟩, hr, hlk⟩ := id C0
  have hok0 := hok
  refine lv_iload_n hx hb dX5_length_25 rfl (lv_at hl 3 rfl) ?_
  refine lv_if_eq (tgt := 40) hx hb dX5_length_26 (by decide) (fun c26 => ?_) (fun c26 => ?_)
  · exact c_X5_length_40 l G A hM hTm hkd hsz hld hch hdk htk hme hte v hv C0 hE x2 x3 u hP hD hok hS (lv_sub hl [0, 1, 2, 3] rfl) (by rw [← hfv, f_X5_length_25, if_pos c26])
  · refine lv_iload_n hx hb dX5_length_29 rfl (lv_at hl 2 rfl) ?_
    refine lv_iconst (v := 3) hx hb dX5_length_30 (by decide) ?_
    refine lv_icmp_le (tgt := 40) hx hb dX5_length_31 (by decide) (fun c31 => ?_) (fun c31 => ?_)
    · exact c_X5_length_40 l G A hM hTm hkd hsz hld hch hdk htk hme hte v hv C0 hE x2 x3 u hP hD hok hS (lv_sub hl [0, 1, 2, 3] rfl) (by rw [← hfv, f_X5_length_25, if_neg c26, if_pos c31])
    · refine lv_aload_n hx hb dX5_length_34 rfl (lv_at hl 0 rfl) ?_
      refine lv_iconst (v := 4) hx hb dX5_length_35 (by decide) ?_
      refine lv_iconst (v := 0) hx hb dX5_length_36 (by decide) ?_
      refine gVv (u := u) (Wd := (m_W (gI G) hM hTm hkd hsz hld hch hdk htk hme hte)) (ok := m_ok) (As := [.int (4 : Int32), .int (0 : Int32)]) (rest := []) ⟨hx, hb, hml, hown, hts⟩ (c_X5_began l G A hM hTm hkd hsz hld hch hdk htk hme hte (4 : Int32) (0 : Int32) u hok) (cwV 2 hts gX5_length_X5_began rfl rfl rfl (by decide +kernel) ⟨Nat.le_of_ble_eq_true rfl, Nat.le_of_ble_eq_true rfl⟩) hE hP hD hS (va_recv hE.1 hP (ci := 5) (q0 := 0) rfl rfl) rfl hl.1 rfl (Nat.le_of_ble_eq_true rfl) dX5_length_37 ⟨Nat.zero_le _, Nat.zero_le _⟩ (fun q37 H locs e37 hP hD hok hS => ?_)
      exact c_X5_length_40 l G A hM hTm hkd hsz hld hch hdk htk hme hte v hv C0 hE x2 x3 q37 hP hD hok hS (lv_sub hl [0, 1, 2, 3] rfl) (by rw [← hfv, f_X5_length_25, if_neg c26, if_neg c31, ← e37, f_X5_length_k37])
set_option maxHeartbeats 4000000 in
set_option maxRecDepth 100000 in
theorem c_X5_length_0 {p : Program} {e : Env} {s : State} {m : MethodId} {args : Array Value} {below : List Frame} {meth : Method} {c : Code} (l : Launch) (G : gC) (A : Nat → Prop) (hM hTm hkd hsz hld hch hdk htk hme hte : Nat) (v : Int32) (hv : vp_in v 70) (C0 : gX p s m args meth c cX5_length 5 wsX5_length RX5 (some .int)) (hE : gE G A s) (u : MS) {H : Heap} {locs : List Loc} (hP : va_P (gD G) vwCl ((m_W (gI G) hM hTm hkd hsz hld hch hdk htk hme hte) u) H) (hD : va_D A ((m_W (gI G) hM hTm hkd hsz hld hch hdk htk hme hte) u)) (hok : m_ok u) (hS : va_S A s.heap H locs) {ls : Array Slot} (hl : lv_has ls 5 [(0, .ref hM), (1, .int v)]) {fv : Int32 × MS} (hfv : f_X5_length v u = fv) : W p l e ({ frames := 1, cells := 0, slots := 0, locals := 22 } : Room) s m args below meth c H locs 0 0 (MQ below (gQi G A (m_W (gI G) hM hTm hkd hsz hld hch hdk htk hme hte) m_ok fv) args s 0 0 A) (F0 m 0 ls []) := by
  obtain ⟨⟨hx, hb, hml, hown, hts⟩, hr, hlk⟩ := id C0
  have hok0 := hok
  have k0 := hts (.fieldLink RX5 13 "FerryDecksModel" "kinds" "[I") (by decide +kernel)
  have iX5 : ∀ w ∈ wsX50, w ∈ wsX5_length := by decide +kernel
  refine lv_aload_n hx hb dX5_length_0 rfl (lv_at hl 0 rfl) ?_
  refine va_get (D := gD G) (ci := 5) (v := .ref hkd) (C := RX5) (T := TX5) (N := 17) hx hb hts iX5 hown hE.1 hP 0 rfl rfl 2 (by decide) k0 (fun _ h9 => h9) rfl dX5_length_1 ?_
  refine lv_iload_n hx hb dX5_length_4 rfl (lv_at hl 1 rfl) ?_
  refine va_iald hx hb hE.1 hP 2 0 rfl rfl (hv) dX5_length_5 ?_
  refine lv_istore_n (lv' := [(2, .int (m_kd u (v : Int32).toNatClampNeg)), (0, .ref hM), (1, .int v)]) hx hb dX5_length_6 rfl hl (by decide) rfl (fun ls hl => ?_)
  refine lv_iload_n hx hb dX5_length_7 rfl (lv_at hl 0 rfl) ?_
  refine gSi (As := [.int (m_kd u (v : Int32).toNatClampNeg)]) (rest := []) ⟨hx, hb, hml, hown, hts⟩ (c_X5_isCar l G A (m_kd u (v : Int32).toNatClampNeg)) (va_cwS 1 hts gX5_length_X5_isCar rfl rfl rfl (by decide +kernel) ⟨Nat.le_of_ble_eq_true rfl, Nat.le_of_ble_eq_true rfl⟩) hE hS rfl hl.1 rfl (Nat.le_of_ble_eq_true rfl) dX5_length_8 ⟨Nat.zero_le _, Nat.zero_le _⟩ (fun q8 e8 => ?_)
  refine lv_istore_n (lv' := [(3, .int q8), (2, .int (m_kd u (v : Int32).toNatClampNeg)), (0, .ref hM), (1, .int v)]) hx hb dX5_length_11 rfl hl (by decide) rfl (fun ls hl => ?_)
  refine lv_iload_n hx hb dX5_length_12 rfl (lv_at hl 1 rfl) ?_
  refine lv_bipush (v := 9) hx hb dX5_length_13 (by decide) ?_
  refine lv_icmp_ne (tgt := 25) hx hb dX5_length_15 (by decide) (fun c15 => ?_) (fun c15 => ?_)
  · exact c_X5_length_25 l G A hM hTm hkd hsz hld hch hdk htk hme hte v hv C0 hE (m_kd u (v : Int32).toNatClampNeg) q8 u hP hD hok hS (lv_sub hl [2, 3, 1, 0] rfl) (by rw [← hfv, f_X5_length, ← e8, f_X5_length_k8, if_neg c15])
  · refine lv_aload_n hx hb dX5_length_18 rfl (lv_at hl 2 rfl) ?_
    refine lv_bipush (v := 9) hx hb dX5_length_19 (by decide) ?_
    refine lv_iconst (v := 0) hx hb dX5_length_21 (by decide) ?_
    refine gVv (u := u) (Wd := (m_W (gI G) hM hTm hkd hsz hld hch hdk htk hme hte)) (ok := m_ok) (As := [.int (9 : Int32), .int (0 : Int32)]) (rest := []) ⟨hx, hb, hml, hown, hts⟩ (c_X5_began l G A hM hTm hkd hsz hld hch hdk htk hme hte (9 : Int32) (0 : Int32) u hok) (cwV 2 hts gX5_length_X5_began rfl rfl rfl (by decide +kernel) ⟨Nat.le_of_ble_eq_true rfl, Nat.le_of_ble_eq_true rfl⟩) hE hP hD hS (va_recv hE.1 hP (ci := 5) (q0 := 0) rfl rfl) rfl hl.1 rfl (Nat.le_of_ble_eq_true rfl) dX5_length_22 ⟨Nat.zero_le _, Nat.zero_le _⟩ (fun q22 H locs e22 hP hD hok hS => ?_)
    exact c_X5_length_25 l G A hM hTm hkd hsz hld hch hdk htk hme hte v hv C0 hE (m_kd u (v : Int32).toNatClampNeg) q8 q22 hP hD hok hS (lv_sub hl [2, 3, 1, 0] rfl) (by rw [← hfv, f_X5_length, ← e8, f_X5_length_k8, if_pos c15, ← e22, f_X5_length_k22])
set_option maxHeartbeats 4000000 in
set_option maxRecDepth 100000 in
theorem c_X5_length (l : Launch) (G : gC) (A : Nat → Prop) (hM hTm hkd hsz hld hch hdk htk hme hte : Nat) (v : Int32) (hv : vp_in v 70) (u : MS) (hok : m_ok u) : CI l yX5_length wsX5_length ({ frames := 1, cells := 0, slots := 0, locals := 22 } : Room) G A (m_W (gI G) hM hTm hkd hsz hld hch hdk htk hme hte) m_ok [.ref hM, .int v] u (f_X5_length v u) := by
  refine Met.ofW (cc := cX5_length) (maxL := 5) (ret := (some .int)) (by decide) rfl ?_
  intro p e s m args below meth c s₁ B hml hv
  obtain ⟨rfl, hE, hP, hD⟩ := hv
  have hl := lv_entry ([.ref hM, .int v]) (n := 5) (Nat.le_of_ble_eq_true rfl)
  rw [lg_entry_eq]
  generalize (lg_sl ([.ref hM, .int v]) ++ List.replicate (5 - (lg_sl ([.ref hM, .int v])).length) Slot.unset).toArray = ls at hl ⊢
  exact c_X5_length_0 l G A hM hTm hkd hsz hld hch hdk htk hme hte v hv ⟨⟨B.exec, B.bytes, hml, findClass_of_methodNamed B.named, atoms_spec (ws := wsX5_length) B.pre⟩, B.returns, B.notSynchronized⟩ hE u hP hD hok va_S.rf hl rfl

-- FerryDecksModel.mark
def f_X5_mark_106 (v : Int32) (x2 : Int32) (s0 : Int32) (u : MS) : Int32 × MS :=
  (if x2 = (5 : Int32) then ((2 : Int32) * s0, u) else (s0, u))
def f_X5_mark_k58 (v : Int32) (x2 : Int32) (x3 : Int32) (q58 : MS) : Int32 × MS :=
  (if x3 = 0 then (if x2 ≤ (7 : Int32) then f_X5_mark_106 v x2 ((m_sz q58 (v : Int32).toNatClampNeg) - (m_sz q58 (v : Int32).toNatClampNeg) / (10 : Int32) * (10 : Int32)) q58 else f_X5_mark_106 v x2 (((m_sz q58 (v : Int32).toNatClampNeg) - (m_sz q58 (v : Int32).toNatClampNeg) / (10 : Int32) * (10 : Int32)) + (5 : Int32)) q58) else f_X5_mark_106 v x2 (((m_sz q58 (v : Int32).toNatClampNeg) - (m_sz q58 (v : Int32).toNatClampNeg) / (10 : Int32) * (10 : Int32)) + ((m_ld q58 (v : Int32).toNatClampNeg) - (m_ld q58 (v : Int32).toNatClampNeg) / (7 : Int32) * (7 : Int32))) q58)
def f_X5_mark_55 (v : Int32) (x2 : Int32) (x3 : Int32) (u : MS) : Int32 × MS :=
  (f_X5_mark_k58 v x2 x3 (f_X5_began (0 : Int32) (4 : Int32) u))
def f_X5_mark_k52 (v : Int32) (x2 : Int32) (x3 : Int32) (q52 : MS) : Int32 × MS :=
  f_X5_mark_55 v x2 x3 q52
def f_X5_mark_51 (v : Int32) (x2 : Int32) (x3 : Int32) (s0 : Int32) (u : MS) : Int32 × MS :=
  (f_X5_mark_k52 v x2 x3 (f_X5_began s0 (4 : Int32) u))
def f_X5_mark_40 (v : Int32) (x2 : Int32) (x3 : Int32) (u : MS) : Int32 × MS :=
  (if x3 = 0 then f_X5_mark_51 v x2 x3 (8 : Int32) u else f_X5_mark_51 v x2 x3 (3 : Int32) u)
def f_X5_mark_k26 (v : Int32) (x2 : Int32) (u : MS) (q26 : Int32) : Int32 × MS :=
  (if q26 = 0 then (if x2 ≤ (7 : Int32) then f_X5_mark_55 v x2 q26 u else f_X5_mark_40 v x2 q26 u) else f_X5_mark_40 v x2 q26 u)
def f_X5_mark_18 (v : Int32) (x2 : Int32) (u : MS) : Int32 × MS :=
  (f_X5_mark_k26 v x2 u (f_X5_in ((x2 : Int32).toInt64) (3 : Int64) (5 : Int64)))
def f_X5_mark_k15 (v : Int32) (u : MS) (q15 : MS) : Int32 × MS :=
  f_X5_mark_18 v (m_kd u (v : Int32).toNatClampNeg) q15
def f_X5_mark (v : Int32) (u : MS) : Int32 × MS :=
  (if (m_kd u (v : Int32).toNatClampNeg) = (5 : Int32) then (f_X5_mark_k15 v u (f_X5_began (5 : Int32) (4 : Int32) u)) else f_X5_mark_18 v (m_kd u (v : Int32).toNatClampNeg) u)
set_option maxHeartbeats 4000000 in
set_option maxRecDepth 100000 in
theorem c_X5_mark_106 {p : Program} {e : Env} {s : State} {m : MethodId} {args : Array Value} {below : List Frame} {meth : Method} {c : Code} (l : Launch) (G : gC) (A : Nat → Prop) (hM hTm hkd hsz hld hch hdk htk hme hte : Nat) (v : Int32) (hv : vp_in v 70) (C0 : gX p s m args meth c cX5_mark 5 wsX5_mark RX5 (some .int)) (hE : gE G A s) (x2 : Int32) (s0 : Int32) (u : MS) {H : Heap} {locs : List Loc} (hP : va_P (gD G) vwCl ((m_W (gI G) hM hTm hkd hsz hld hch hdk htk hme hte) u) H) (hD : va_D A ((m_W (gI G) hM hTm hkd hsz hld hch hdk htk hme hte) u)) (hok : m_ok u) (hS : va_S A s.heap H locs) {ls : Array Slot} (hl : lv_has ls 5 [(2, .int x2)]) {fv : Int32 × MS} (hfv : f_X5_mark_106 v x2 s0 u = fv) : W p l e ({ frames := 1, cells := 0, slots := 0, locals := 25 } : Room) s m args below meth c H locs 0 0 (MQ below (gQi G A (m_W (gI G) hM hTm hkd hsz hld hch hdk htk hme hte) m_ok fv) args s 0 0 A) (F0 m 106 ls [.int s0]) := by
  obtain ⟨⟨hx, hb, hml, hown, hts⟩, hr, hlk⟩ := id C0
  have hok0 := hok
  refine lv_istore (lv' := [(4, .int s0), (2, .int x2)]) hx hb dX5_mark_106 hl (by decide) rfl (fun ls hl => ?_)
  refine lv_iload_n hx hb dX5_mark_108 rfl (lv_at hl 1 rfl) ?_
  refine lv_iconst (v := 5) hx hb dX5_mark_109 (by decide) ?_
  refine lv_icmp_ne (tgt := 120) hx hb dX5_mark_110 (by decide) (fun c110 => ?_) (fun c110 => ?_)
  · refine lv_iload hx hb dX5_mark_120 (lv_at hl 0 rfl) ?_
    exact gRi (u := u) hx hb hr hlk hP hD hok hS (by rw [← hfv, f_X5_mark_106, if_neg c110]) dX5_mark_122
  · refine lv_iconst (v := 2) hx hb dX5_mark_113 (by decide) ?_
    refine lv_iload hx hb dX5_mark_114 (lv_at hl 0 rfl) ?_
    refine lv_imul hx hb dX5_mark_116 ?_
    refine lv_goto (tgt := 122) hx hb dX5_mark_117 (by decide) ?_
    exact gRi (u := u) hx hb hr hlk hP hD hok hS (by rw [← hfv, f_X5_mark_106, if_pos c110]) dX5_mark_122
set_option maxHeartbeats 4000000 in
set_option maxRecDepth 100000 in
theorem c_X5_mark_55 {p : Program} {e : Env} {s : State} {m : MethodId} {args : Array Value} {below : List Frame} {meth : Method} {c : Code} (l : Launch) (G : gC) (A : Nat → Prop) (hM hTm hkd hsz hld hch hdk htk hme hte : Nat) (v : Int32) (hv : vp_in v 70) (C0 : gX p s m args meth c cX5_mark 5 wsX5_mark RX5 (some .int)) (hE : gE G A s) (x2 : Int32) (x3 : Int32) (u : MS) {H : Heap} {locs : List Loc} (hP : va_P (gD G) vwCl ((m_W (gI G) hM hTm hkd hsz hld hch hdk htk hme hte) u) H) (hD : va_D A ((m_W (gI G) hM hTm hkd hsz hld hch hdk htk hme hte) u)) (hok : m_ok u) (hS : va_S A s.heap H locs) {ls : Array Slot} (hl : lv_has ls 5 [(0, .ref hM), (1, .int v), (2, .int x2), (3, .int x3)]) {fv : Int32 × MS} (hfv : f_X5_mark_55 v x2 x3 u = fv) : W p l e ({ frames := 1, cells := 0, slots := 0, locals := 25 } : Room) s m args below meth c H locs 0 0 (MQ below (gQi G A (m_W (gI G) hM hTm hkd hsz hld hch hdk htk hme hte) m_ok fv) args s 0 0 A) (F0 m 55 ls []) := by
  obtain ⟨⟨hx, hb, hml, hown, hts⟩, hr, hlk⟩ := id C0
  have hok0 := hok
  have k0 := hts (.fieldLink RX5 16 "FerryDecksModel" "sizes" "[I") (by decide +kernel)
  have k1 := hts (.fieldLink RX5 19 "FerryDecksModel" "loads" "[I") (by decide +kernel)
  have iX5 : ∀ w ∈ wsX50, w ∈ wsX5_mark := by decide +kernel
  refine lv_aload_n hx hb dX5_mark_55 rfl (lv_at hl 0 rfl) ?_
  refine lv_iconst (v := 0) hx hb dX5_mark_56 (by decide) ?_
  refine lv_iconst (v := 4) hx hb dX5_mark_57 (by decide) ?_
  refine gVv (u := u) (Wd := (m_W (gI G) hM hTm hkd hsz hld hch hdk htk hme hte)) (ok := m_ok) (As := [.int (0 : Int32), .int (4 : Int32)]) (rest := []) ⟨hx, hb, hml, hown, hts⟩ (c_X5_began l G A hM hTm hkd hsz hld hch hdk htk hme hte (0 : Int32) (4 : Int32) u hok) (cwV 2 hts gX5_mark_X5_began rfl rfl rfl (by decide +kernel) ⟨Nat.le_of_ble_eq_true rfl, Nat.le_of_ble_eq_true rfl⟩) hE hP hD hS (va_recv hE.1 hP (ci := 5) (q0 := 0) rfl rfl) rfl hl.1 rfl (Nat.le_of_ble_eq_true rfl) dX5_mark_58 ⟨Nat.zero_le _, Nat.zero_le _⟩ (fun q58 H locs e58 hP hD hok hS => ?_)
  refine lv_aload_n hx hb dX5_mark_61 rfl (lv_at hl 0 rfl) ?_
  refine va_get (D := gD G) (ci := 5) (v := .ref hsz) (C := RX5) (T := TX5) (N := 17) hx hb hts iX5 hown hE.1 hP 0 rfl rfl 3 (by decide) k0 (fun _ h9 => h9) rfl dX5_mark_62 ?_
  refine lv_iload_n hx hb dX5_mark_65 rfl (lv_at hl 1 rfl) ?_
  refine va_iald hx hb hE.1 hP 3 0 rfl rfl (hv) dX5_mark_66 ?_
  refine lv_bipush (v := 10) hx hb dX5_mark_67 (by decide) ?_
  refine lv_irem hx hb dX5_mark_69 (by decide) ?_
  refine lv_istore (lv' := [(4, .int ((m_sz q58 (v : Int32).toNatClampNeg) - (m_sz q58 (v : Int32).toNatClampNeg) / (10 : Int32) * (10 : Int32))), (0, .ref hM), (1, .int v), (2, .int x2), (3, .int x3)]) hx hb dX5_mark_70 hl (by decide) rfl (fun ls hl => ?_)
  refine lv_iload_n hx hb dX5_mark_72 rfl (lv_at hl 4 rfl) ?_
  refine lv_if_eq (tgt := 91) hx hb dX5_mark_73 (by decide) (fun c73 => ?_) (fun c73 => ?_)
  · refine lv_iload_n hx hb dX5_mark_91 rfl (lv_at hl 3 rfl) ?_
    refine lv_bipush (v := 7) hx hb dX5_mark_92 (by decide) ?_
    refine lv_icmp_le (tgt := 104) hx hb dX5_mark_94 (by decide) (fun c94 => ?_) (fun c94 => ?_)
    · refine lv_iload hx hb dX5_mark_104 (lv_at hl 0 rfl) ?_
      exact c_X5_mark_106 l G A hM hTm hkd hsz hld hch hdk htk hme hte v hv C0 hE x2 ((m_sz q58 (v : Int32).toNatClampNeg) - (m_sz q58 (v : Int32).toNatClampNeg) / (10 : Int32) * (10 : Int32)) q58 hP hD hok hS (lv_sub hl [3] rfl) (by rw [← hfv, f_X5_mark_55, ← e58, f_X5_mark_k58, if_pos c73, if_pos c94])
    · refine lv_iload hx hb dX5_mark_97 (lv_at hl 0 rfl) ?_
      refine lv_iconst (v := 5) hx hb dX5_mark_99 (by decide) ?_
      refine lv_iadd hx hb dX5_mark_100 ?_
      refine lv_goto (tgt := 106) hx hb dX5_mark_101 (by decide) ?_
      exact c_X5_mark_106 l G A hM hTm hkd hsz hld hch hdk htk hme hte v hv C0 hE x2 (((m_sz q58 (v : Int32).toNatClampNeg) - (m_sz q58 (v : Int32).toNatClampNeg) / (10 : Int32) * (10 : Int32)) + (5 : Int32)) q58 hP hD hok hS (lv_sub hl [3] rfl) (by rw [← hfv, f_X5_mark_55, ← e58, f_X5_mark_k58, if_pos c73, if_neg c94])
  · refine lv_iload hx hb dX5_mark_76 (lv_at hl 0 rfl) ?_
    refine lv_aload_n hx hb dX5_mark_78 rfl (lv_at hl 1 rfl) ?_
    refine va_get (D := gD G) (ci := 5) (v := .ref hld) (C := RX5) (T := TX5) (N := 17) hx hb hts iX5 hown hE.1 hP 0 rfl rfl 4 (by decide) k1 (fun _ h9 => h9) rfl dX5_mark_79 ?_
    refine lv_iload_n hx hb dX5_mark_82 rfl (lv_at hl 2 rfl) ?_
    refine va_iald hx hb hE.1 hP 4 0 rfl rfl (hv) dX5_mark_83 ?_
    refine lv_bipush (v := 7) hx hb dX5_mark_84 (by decide) ?_
    refine lv_irem hx hb dX5_mark_86 (by decide) ?_
    refine lv_iadd hx hb dX5_mark_87 ?_
    refine lv_goto (tgt := 106) hx hb dX5_mark_88 (by decide) ?_
    exact c_X5_mark_106 l G A hM hTm hkd hsz hld hch hdk htk hme hte v hv C0 hE x2 (((m_sz q58 (v : Int32).toNatClampNeg) - (m_sz q58 (v : Int32).toNatClampNeg) / (10 : Int32) * (10 : Int32)) + ((m_ld q58 (v : Int32).toNatClampNeg) - (m_ld q58 (v : Int32).toNatClampNeg) / (7 : Int32) * (7 : Int32))) q58 hP hD hok hS (lv_sub hl [3] rfl) (by rw [← hfv, f_X5_mark_55, ← e58, f_X5_mark_k58, if_neg c73])
set_option maxHeartbeats 4000000 in
set_option maxRecDepth 100000 in
theorem c_X5_mark_51 {p : Program} {e : Env} {s : State} {m : MethodId} {args : Array Value} {below : List Frame} {meth : Method} {c : Code} (l : Launch) (G : gC) (A : Nat → Prop) (hM hTm hkd hsz hld hch hdk htk hme hte : Nat) (v : Int32) (hv : vp_in v 70) (C0 : gX p s m args meth c cX5_mark 5 wsX5_mark RX5 (some .int)) (hE : gE G A s) (x2 : Int32) (x3 : Int32) (s0 : Int32) (u : MS) {H : Heap} {locs : List Loc} (hP : va_P (gD G) vwCl ((m_W (gI G) hM hTm hkd hsz hld hch hdk htk hme hte) u) H) (hD : va_D A ((m_W (gI G) hM hTm hkd hsz hld hch hdk htk hme hte) u)) (hok : m_ok u) (hS : va_S A s.heap H locs) {ls : Array Slot} (hl : lv_has ls 5 [(0, .ref hM), (1, .int v), (2, .int x2), (3, .int x3)]) {fv : Int32 × MS} (hfv : f_X5_mark_51 v x2 x3 s0 u = fv) : W p l e ({ frames := 1, cells := 0, slots := 0, locals := 25 } : Room) s m args below meth c H locs 0 0 (MQ below (gQi G A (m_W (gI G) hM hTm hkd hsz hld hch hdk htk hme hte) m_ok fv) args s 0 0 A) (F0 m 51 ls [.int s0, .ref hM]) := by
  obtain ⟨⟨hx, hb, hml, hown, hts⟩, hr, hlk⟩ := id C0
  have hok0 := hok
  refine lv_iconst (v := 4) hx hb dX5_mark_51 (by decide) ?_
  refine gVv (u := u) (Wd := (m_W (gI G) hM hTm hkd hsz hld hch hdk htk hme hte)) (ok := m_ok) (As := [.int s0, .int (4 : Int32)]) (rest := []) ⟨hx, hb, hml, hown, hts⟩ (c_X5_began l G A hM hTm hkd hsz hld hch hdk htk hme hte s0 (4 : Int32) u hok) (cwV 2 hts gX5_mark_X5_began rfl rfl rfl (by decide +kernel) ⟨Nat.le_of_ble_eq_true rfl, Nat.le_of_ble_eq_true rfl⟩) hE hP hD hS (va_recv hE.1 hP (ci := 5) (q0 := 0) rfl rfl) rfl hl.1 rfl (Nat.le_of_ble_eq_true rfl) dX5_mark_52 ⟨Nat.zero_le _, Nat.zero_le _⟩ (fun q52 H locs e52 hP hD hok hS => ?_)
  exact c_X5_mark_55 l G A hM hTm hkd hsz hld hch hdk htk hme hte v hv C0 hE x2 x3 q52 hP hD hok hS (lv_sub hl [0, 1, 2, 3] rfl) (by rw [← hfv, f_X5_mark_51, ← e52, f_X5_mark_k52])
set_option maxHeartbeats 4000000 in
set_option maxRecDepth 100000 in
theorem c_X5_mark_40 {p : Program} {e : Env} {s : State} {m : MethodId} {args : Array Value} {below : List Frame} {meth : Method} {c : Code} (l : Launch) (G : gC) (A : Nat → Prop) (hM hTm hkd hsz hld hch hdk htk hme hte : Nat) (v : Int32) (hv : vp_in v 70) (C0 : gX p s m args meth c cX5_mark 5 wsX5_mark RX5 (some .int)) (hE : gE G A s) (x2 : Int32) (x3 : Int32) (u : MS) {H : Heap} {locs : List Loc} (hP : va_P (gD G) vwCl ((m_W (gI G) hM hTm hkd hsz hld hch hdk htk hme hte) u) H) (hD : va_D A ((m_W (gI G) hM hTm hkd hsz hld hch hdk htk hme hte) u)) (hok : m_ok u) (hS : va_S A s.heap H locs) {ls : Array Slot} (hl : lv_has ls 5 [(0, .ref hM), (1, .int v), (2, .int x2), (3, .int x3)]) {fv : Int32 × MS} (hfv : f_X5_mark_40 v x2 x3 u = fv) : W p l e ({ frames := 1, cells := 0, slots := 0, locals := 25 } : Room) s m args below meth c H locs 0 0 (MQ below (gQi G A (m_W (gI G) hM hTm hkd hsz hld hch hdk htk hme hte) m_ok fv) args s 0 0 A) (F0 m 40 ls []) := by
  obtain ⟨⟨hx, hb, hml, hown, hts⟩, hr, hlk⟩ := id C0
  have hok0 := hok
  refine lv_aload_n hx hb dX5_mark_40 rfl (lv_at hl 0 rfl) ?_
  refine lv_iload_n hx hb dX5_mark_41 rfl (lv_at hl 3 rfl) ?_
  refine lv_if_eq (tgt := 49) hx hb dX5_mark_42 (by decide) (fun c42 => ?_) (fun c42 => ?_)
  · refine lv_bipush (v := 8) hx hb dX5_mark_49 (by decide) ?_
    exact c_X5_mark_51 l G A hM hTm hkd hsz hld hch hdk htk hme hte v hv C0 hE x2 x3 (8 : Int32) u hP hD hok hS (lv_sub hl [0, 1, 2, 3] rfl) (by rw [← hfv, f_X5_mark_40, if_pos c42])
  · refine lv_iconst (v := 3) hx hb dX5_mark_45 (by decide) ?_
    refine lv_goto (tgt := 51) hx hb dX5_mark_46 (by decide) ?_
    exact c_X5_mark_51 l G A hM hTm hkd hsz hld hch hdk htk hme hte v hv C0 hE x2 x3 (3 : Int32) u hP hD hok hS (lv_sub hl [0, 1, 2, 3] rfl) (by rw [← hfv, f_X5_mark_40, if_neg c42])
set_option maxHeartbeats 4000000 in
set_option maxRecDepth 100000 in
theorem c_X5_mark_18 {p : Program} {e : Env} {s : State} {m : MethodId} {args : Array Value} {below : List Frame} {meth : Method} {c : Code} (l : Launch) (G : gC) (A : Nat → Prop) (hM hTm hkd hsz hld hch hdk htk hme hte : Nat) (v : Int32) (hv : vp_in v 70) (C0 : gX p s m args meth c cX5_mark 5 wsX5_mark RX5 (some .int)) (hE : gE G A s) (x2 : Int32) (u : MS) {H : Heap} {locs : List Loc} (hP : va_P (gD G) vwCl ((m_W (gI G) hM hTm hkd hsz hld hch hdk htk hme hte) u) H) (hD : va_D A ((m_W (gI G) hM hTm hkd hsz hld hch hdk htk hme hte) u)) (hok : m_ok u) (hS : va_S A s.heap H locs) {ls : Array Slot} (hl : lv_has ls 5 [(0, .ref hM), (1, .int v), (2, .int x2)]) {fv : Int32 × MS} (hfv : f_X5_mark_18 v x2 u = fv) : W p l e ({ frames := 1, cells := 0, slots := 0, locals := 25 } : Room) s m args below meth c H locs 0 0 (MQ below (gQi G A (m_W (gI G) hM hTm hkd hsz hld hch hdk htk hme hte) m_ok fv) args s 0 0 A) (F0 m 18 ls []) := by
  obtain ⟨⟨hx, hb, hml, hown, hts⟩, hr, hlk⟩ := id C0
  have hok0 := hok
  have k0 := hts (.constantLong RX5 129 (3)) (by decide +kernel)
  have k1 := hts (.constantLong RX5 131 (5)) (by decide +kernel)
  refine lv_iload_n hx hb dX5_mark_18 rfl (lv_at hl 2 rfl) ?_
  refine lv_i2l (v := (x2 : Int32).toInt64) hx hb dX5_mark_19 rfl ?_
  refine lv_ldc2 hx hb hown k0 dX5_mark_20 ?_
  refine lv_ldc2 hx hb hown k1 dX5_mark_23 ?_
  refine gSi (As := [.long ((x2 : Int32).toInt64), .long (3 : Int64), .long (5 : Int64)]) (rest := []) ⟨hx, hb, hml, hown, hts⟩ (c_X5_in l G A ((x2 : Int32).toInt64) (3 : Int64) (5 : Int64)) (va_cwS 3 hts gX5_mark_X5_in rfl rfl rfl (by decide +kernel) ⟨Nat.le_of_ble_eq_true rfl, Nat.le_of_ble_eq_true rfl⟩) hE hS rfl hl.1 rfl (Nat.le_of_ble_eq_true rfl) dX5_mark_26 ⟨Nat.zero_le _, Nat.zero_le _⟩ (fun q26 e26 => ?_)
  refine lv_istore_n (lv' := [(3, .int q26), (0, .ref hM), (1, .int v), (2, .int x2)]) hx hb dX5_mark_29 rfl hl (by decide) rfl (fun ls hl => ?_)
  refine lv_iload_n hx hb dX5_mark_30 rfl (lv_at hl 0 rfl) ?_
  refine lv_if_ne (tgt := 40) hx hb dX5_mark_31 (by decide) (fun c31 => ?_) (fun c31 => ?_)
  · exact c_X5_mark_40 l G A hM hTm hkd hsz hld hch hdk htk hme hte v hv C0 hE x2 q26 u hP hD hok hS (lv_sub hl [1, 2, 3, 0] rfl) (by rw [← hfv, f_X5_mark_18, ← e26, f_X5_mark_k26, if_neg c31])
  · refine lv_iload_n hx hb dX5_mark_34 rfl (lv_at hl 3 rfl) ?_
    refine lv_bipush (v := 7) hx hb dX5_mark_35 (by decide) ?_
    refine lv_icmp_le (tgt := 55) hx hb dX5_mark_37 (by decide) (fun c37 => ?_) (fun c37 => ?_)
    · exact c_X5_mark_55 l G A hM hTm hkd hsz hld hch hdk htk hme hte v hv C0 hE x2 q26 u hP hD hok hS (lv_sub hl [1, 2, 3, 0] rfl) (by rw [← hfv, f_X5_mark_18, ← e26, f_X5_mark_k26, if_pos c31, if_pos c37])
    · exact c_X5_mark_40 l G A hM hTm hkd hsz hld hch hdk htk hme hte v hv C0 hE x2 q26 u hP hD hok hS (lv_sub hl [1, 2, 3, 0] rfl) (by rw [← hfv, f_X5_mark_18, ← e26, f_X5_mark_k26, if_pos c31, if_neg c37])
set_option maxHeartbeats 4000000 in
set_option maxRecDepth 100000 in
theorem c_X5_mark_0 {p : Program} {e : Env} {s : State} {m : MethodId} {args : Array Value} {below : List Frame} {meth : Method} {c : Code} (l : Launch) (G : gC) (A : Nat → Prop) (hM hTm hkd hsz hld hch hdk htk hme hte : Nat) (v : Int32) (hv : vp_in v 70) (C0 : gX p s m args meth c cX5_mark 5 wsX5_mark RX5 (some .int)) (hE : gE G A s) (u : MS) {H : Heap} {locs : List Loc} (hP : va_P (gD G) vwCl ((m_W (gI G) hM hTm hkd hsz hld hch hdk htk hme hte) u) H) (hD : va_D A ((m_W (gI G) hM hTm hkd hsz hld hch hdk htk hme hte) u)) (hok : m_ok u) (hS : va_S A s.heap H locs) {ls : Array Slot} (hl : lv_has ls 5 [(0, .ref hM), (1, .int v)]) {fv : Int32 × MS} (hfv : f_X5_mark v u = fv) : W p l e ({ frames := 1, cells := 0, slots := 0, locals := 25 } : Room) s m args below meth c H locs 0 0 (MQ below (gQi G A (m_W (gI G) hM hTm hkd hsz hld hch hdk htk hme hte) m_ok fv) args s 0 0 A) (F0 m 0 ls []) := by
  obtain ⟨⟨hx, hb, hml, hown, hts⟩, hr, hlk⟩ := id C0
  have hok0 := hok
  have k0 := hts (.fieldLink RX5 13 "FerryDecksModel" "kinds" "[I") (by decide +kernel)
  have iX5 : ∀ w ∈ wsX50, w ∈ wsX5_mark := by decide +kernel
  refine lv_aload_n hx hb dX5_mark_0 rfl (lv_at hl 0 rfl) ?_
  refine va_get (D := gD G) (ci := 5) (v := .ref hkd) (C := RX5) (T := TX5) (N := 17) hx hb hts iX5 hown hE.1 hP 0 rfl rfl 2 (by decide) k0 (fun _ h9 => h9) rfl dX5_mark_1 ?_
  refine lv_iload_n hx hb dX5_mark_4 rfl (lv_at hl 1 rfl) ?_
  refine va_iald hx hb hE.1 hP 2 0 rfl rfl (hv) dX5_mark_5 ?_
  refine lv_istore_n (lv' := [(2, .int (m_kd u (v : Int32).toNatClampNeg)), (0, .ref hM), (1, .int v)]) hx hb dX5_mark_6 rfl hl (by decide) rfl (fun ls hl => ?_)
  refine lv_iload_n hx hb dX5_mark_7 rfl (lv_at hl 0 rfl) ?_
  refine lv_iconst (v := 5) hx hb dX5_mark_8 (by decide) ?_
  refine lv_icmp_ne (tgt := 18) hx hb dX5_mark_9 (by decide) (fun c9 => ?_) (fun c9 => ?_)
  · exact c_X5_mark_18 l G A hM hTm hkd hsz hld hch hdk htk hme hte v hv C0 hE (m_kd u (v : Int32).toNatClampNeg) u hP hD hok hS (lv_sub hl [1, 2, 0] rfl) (by rw [← hfv, f_X5_mark, if_neg c9])
  · refine lv_aload_n hx hb dX5_mark_12 rfl (lv_at hl 1 rfl) ?_
    refine lv_iconst (v := 5) hx hb dX5_mark_13 (by decide) ?_
    refine lv_iconst (v := 4) hx hb dX5_mark_14 (by decide) ?_
    refine gVv (u := u) (Wd := (m_W (gI G) hM hTm hkd hsz hld hch hdk htk hme hte)) (ok := m_ok) (As := [.int (5 : Int32), .int (4 : Int32)]) (rest := []) ⟨hx, hb, hml, hown, hts⟩ (c_X5_began l G A hM hTm hkd hsz hld hch hdk htk hme hte (5 : Int32) (4 : Int32) u hok) (cwV 2 hts gX5_mark_X5_began rfl rfl rfl (by decide +kernel) ⟨Nat.le_of_ble_eq_true rfl, Nat.le_of_ble_eq_true rfl⟩) hE hP hD hS (va_recv hE.1 hP (ci := 5) (q0 := 0) rfl rfl) rfl hl.1 rfl (Nat.le_of_ble_eq_true rfl) dX5_mark_15 ⟨Nat.zero_le _, Nat.zero_le _⟩ (fun q15 H locs e15 hP hD hok hS => ?_)
    exact c_X5_mark_18 l G A hM hTm hkd hsz hld hch hdk htk hme hte v hv C0 hE (m_kd u (v : Int32).toNatClampNeg) q15 hP hD hok hS (lv_sub hl [1, 2, 0] rfl) (by rw [← hfv, f_X5_mark, if_pos c9, ← e15, f_X5_mark_k15])
set_option maxHeartbeats 4000000 in
set_option maxRecDepth 100000 in
theorem c_X5_mark (l : Launch) (G : gC) (A : Nat → Prop) (hM hTm hkd hsz hld hch hdk htk hme hte : Nat) (v : Int32) (hv : vp_in v 70) (u : MS) (hok : m_ok u) : CI l yX5_mark wsX5_mark ({ frames := 1, cells := 0, slots := 0, locals := 25 } : Room) G A (m_W (gI G) hM hTm hkd hsz hld hch hdk htk hme hte) m_ok [.ref hM, .int v] u (f_X5_mark v u) := by
  refine Met.ofW (cc := cX5_mark) (maxL := 5) (ret := (some .int)) (by decide) rfl ?_
  intro p e s m args below meth c s₁ B hml hv
  obtain ⟨rfl, hE, hP, hD⟩ := hv
  have hl := lv_entry ([.ref hM, .int v]) (n := 5) (Nat.le_of_ble_eq_true rfl)
  rw [lg_entry_eq]
  generalize (lg_sl ([.ref hM, .int v]) ++ List.replicate (5 - (lg_sl ([.ref hM, .int v])).length) Slot.unset).toArray = ls at hl ⊢
  exact c_X5_mark_0 l G A hM hTm hkd hsz hld hch hdk htk hme hte v hv ⟨⟨B.exec, B.bytes, hml, findClass_of_methodNamed B.named, atoms_spec (ws := wsX5_mark) B.pre⟩, B.returns, B.notSynchronized⟩ hE u hP hD hok va_S.rf hl rfl

-- FerryDecksModel.hook
def f_X5_hook_k76 (v : Int32) (x2 : Int32) (u : MS) (q76 : Int32) : Int32 × MS :=
  (if q76 = 0 then (if x2 = (9 : Int32) then (((m_ld u (v : Int32).toNatClampNeg) / (1000 : Int32)) + ((m_ld u (v : Int32).toNatClampNeg) / (1000 : Int32)), u) else ((m_ld u (v : Int32).toNatClampNeg) / (1000 : Int32), u)) else ((3 : Int32), u))
def f_X5_hook_58 (v : Int32) (x2 : Int32) (u : MS) : Int32 × MS :=
  (if x2 = (5 : Int32) then ((3 : Int32) + (m_T u ((6 : Int32) : Int32).toNatClampNeg), u) else (f_X5_hook_k76 v x2 u (f_X5_isCar x2)))
def f_X5_hook_k55 (v : Int32) (x2 : Int32) (q55 : MS) : Int32 × MS :=
  f_X5_hook_58 v x2 q55
def f_X5_hook_k41 (v : Int32) (x2 : Int32) (q41 : MS) : Int32 × MS :=
  (if x2 = (9 : Int32) then (f_X5_hook_k55 v x2 (f_X5_began (7 : Int32) (6 : Int32) q41)) else f_X5_hook_58 v x2 q41)
def f_X5_hook_39 (v : Int32) (x2 : Int32) (s0 : Int32) (u : MS) : Int32 × MS :=
  (f_X5_hook_k41 v x2 (f_X5_began s0 (6 : Int32) u))
def f_X5_hook_k27 (v : Int32) (x2 : Int32) (u : MS) (q27 : Int32) : Int32 × MS :=
  (if q27 = 0 then f_X5_hook_39 v x2 (7 : Int32) u else f_X5_hook_39 v x2 (3 : Int32) u)
def f_X5_hook_25 (v : Int32) (x2 : Int32) (u : MS) : Int32 × MS :=
  (f_X5_hook_k27 v x2 u (f_X5_isCar x2))
def f_X5_hook_k22 (v : Int32) (x2 : Int32) (q22 : MS) : Int32 × MS :=
  f_X5_hook_25 v x2 q22
def f_X5_hook_18 (v : Int32) (x2 : Int32) (u : MS) : Int32 × MS :=
  (f_X5_hook_k22 v x2 (f_X5_began x2 (6 : Int32) u))
def f_X5_hook (v : Int32) (u : MS) : Int32 × MS :=
  (if (m_kd u (v : Int32).toNatClampNeg) = (5 : Int32) then f_X5_hook_18 v (m_kd u (v : Int32).toNatClampNeg) u else (if (m_kd u (v : Int32).toNatClampNeg) = (9 : Int32) then f_X5_hook_18 v (m_kd u (v : Int32).toNatClampNeg) u else f_X5_hook_25 v (m_kd u (v : Int32).toNatClampNeg) u))
set_option maxHeartbeats 4000000 in
set_option maxRecDepth 100000 in
theorem c_X5_hook_58 {p : Program} {e : Env} {s : State} {m : MethodId} {args : Array Value} {below : List Frame} {meth : Method} {c : Code} (l : Launch) (G : gC) (A : Nat → Prop) (hM hTm hkd hsz hld hch hdk htk hme hte : Nat) (v : Int32) (hv : vp_in v 70) (C0 : gX p s m args meth c cX5_hook 3 wsX5_hook RX5 (some .int)) (hE : gE G A s) (x2 : Int32) (u : MS) {H : Heap} {locs : List Loc} (hP : va_P (gD G) vwCl ((m_W (gI G) hM hTm hkd hsz hld hch hdk htk hme hte) u) H) (hD : va_D A ((m_W (gI G) hM hTm hkd hsz hld hch hdk htk hme hte) u)) (hok : m_ok u) (hS : va_S A s.heap H locs) {ls : Array Slot} (hl : lv_has ls 3 [(0, .ref hM), (1, .int v), (2, .int x2)]) {fv : Int32 × MS} (hfv : f_X5_hook_58 v x2 u = fv) : W p l e ({ frames := 1, cells := 0, slots := 0, locals := 22 } : Room) s m args below meth c H locs 0 0 (MQ below (gQi G A (m_W (gI G) hM hTm hkd hsz hld hch hdk htk hme hte) m_ok fv) args s 0 0 A) (F0 m 58 ls []) := by
  obtain ⟨⟨hx, hb, hml, hown, hts⟩, hr, hlk⟩ := id C0
  have hok0 := hok
  have k0 := hts (.fieldLink RX5 19 "FerryDecksModel" "loads" "[I") (by decide +kernel)
  have k1 := hts (.fieldLink RX5 7 "FerryDecksModel" "terms" "[I") (by decide +kernel)
  have iX5 : ∀ w ∈ wsX50, w ∈ wsX5_hook := by decide +kernel
  refine lv_iload_n hx hb dX5_hook_58 rfl (lv_at hl 2 rfl) ?_
  refine lv_iconst (v := 5) hx hb dX5_hook_59 (by decide) ?_
  refine lv_icmp_ne (tgt := 75) hx hb dX5_hook_60 (by decide) (fun c60 => ?_) (fun c60 => ?_)
  · refine lv_iload_n hx hb dX5_hook_75 rfl (lv_at hl 2 rfl) ?_
    refine gSi (As := [.int x2]) (rest := []) ⟨hx, hb, hml, hown, hts⟩ (c_X5_isCar l G A x2) (va_cwS 1 hts gX5_hook_X5_isCar rfl rfl rfl (by decide +kernel) ⟨Nat.le_of_ble_eq_true rfl, Nat.le_of_ble_eq_true rfl⟩) hE hS rfl hl.1 rfl (Nat.le_of_ble_eq_true rfl) dX5_hook_76 ⟨Nat.zero_le _, Nat.zero_le _⟩ (fun q76 e76 => ?_)
    refine lv_if_eq (tgt := 86) hx hb dX5_hook_79 (by decide) (fun c79 => ?_) (fun c79 => ?_)
    · refine lv_iload_n hx hb dX5_hook_86 rfl (lv_at hl 2 rfl) ?_
      refine lv_bipush (v := 9) hx hb dX5_hook_87 (by decide) ?_
      refine lv_icmp_ne (tgt := 116) hx hb dX5_hook_89 (by decide) (fun c89 => ?_) (fun c89 => ?_)
      · refine lv_aload_n hx hb dX5_hook_116 rfl (lv_at hl 0 rfl) ?_
        refine va_get (D := gD G) (ci := 5) (v := .ref hld) (C := RX5) (T := TX5) (N := 17) hx hb hts iX5 hown hE.1 hP 0 rfl rfl 4 (by decide) k0 (fun _ h9 => h9) rfl dX5_hook_117 ?_
        refine lv_iload_n hx hb dX5_hook_120 rfl (lv_at hl 1 rfl) ?_
        refine va_iald hx hb hE.1 hP 4 0 rfl rfl (hv) dX5_hook_121 ?_
        refine lv_sipush (v := 1000) hx hb dX5_hook_122 (by decide) ?_
        refine lv_idiv hx hb dX5_hook_125 (by decide) ?_
        exact gRi (u := u) hx hb hr hlk hP hD hok hS (by rw [← hfv, f_X5_hook_58, if_neg c60, ← e76, f_X5_hook_k76, if_pos c79, if_neg c89]) dX5_hook_126
      · refine lv_aload_n hx hb dX5_hook_92 rfl (lv_at hl 0 rfl) ?_
        refine va_get (D := gD G) (ci := 5) (v := .ref hld) (C := RX5) (T := TX5) (N := 17) hx hb hts iX5 hown hE.1 hP 0 rfl rfl 4 (by decide) k0 (fun _ h9 => h9) rfl dX5_hook_93 ?_
        refine lv_iload_n hx hb dX5_hook_96 rfl (lv_at hl 1 rfl) ?_
        refine va_iald hx hb hE.1 hP 4 0 rfl rfl (hv) dX5_hook_97 ?_
        refine lv_sipush (v := 1000) hx hb dX5_hook_98 (by decide) ?_
        refine lv_idiv hx hb dX5_hook_101 (by decide) ?_
        refine lv_aload_n hx hb dX5_hook_102 rfl (lv_at hl 0 rfl) ?_
        refine va_get (D := gD G) (ci := 5) (v := .ref hld) (C := RX5) (T := TX5) (N := 17) hx hb hts iX5 hown hE.1 hP 0 rfl rfl 4 (by decide) k0 (fun _ h9 => h9) rfl dX5_hook_103 ?_
        refine lv_iload_n hx hb dX5_hook_106 rfl (lv_at hl 1 rfl) ?_
        refine va_iald hx hb hE.1 hP 4 0 rfl rfl (hv) dX5_hook_107 ?_
        refine lv_sipush (v := 1000) hx hb dX5_hook_108 (by decide) ?_
        refine lv_idiv hx hb dX5_hook_111 (by decide) ?_
        refine lv_iadd hx hb dX5_hook_112 ?_
        refine lv_goto (tgt := 126) hx hb dX5_hook_113 (by decide) ?_
        exact gRi (u := u) hx hb hr hlk hP hD hok hS (by rw [← hfv, f_X5_hook_58, if_neg c60, ← e76, f_X5_hook_k76, if_pos c79, if_pos c89]) dX5_hook_126
    · refine lv_iconst (v := 3) hx hb dX5_hook_82 (by decide) ?_
      refine lv_goto (tgt := 126) hx hb dX5_hook_83 (by decide) ?_
      exact gRi (u := u) hx hb hr hlk hP hD hok hS (by rw [← hfv, f_X5_hook_58, if_neg c60, ← e76, f_X5_hook_k76, if_neg c79]) dX5_hook_126
  · refine lv_iconst (v := 3) hx hb dX5_hook_63 (by decide) ?_
    refine lv_aload_n hx hb dX5_hook_64 rfl (lv_at hl 0 rfl) ?_
    refine va_get (D := gD G) (ci := 5) (v := .ref hTm) (C := RX5) (T := TX5) (N := 17) hx hb hts iX5 hown hE.1 hP 0 rfl rfl 0 (by decide) k1 (fun _ h9 => h9) rfl dX5_hook_65 ?_
    refine lv_bipush (v := 6) hx hb dX5_hook_68 (by decide) ?_
    refine va_iald hx hb hE.1 hP 1 0 rfl rfl (gIn (by decide) (by decide) (by decide)) dX5_hook_70 ?_
    refine lv_iadd hx hb dX5_hook_71 ?_
    refine lv_goto (tgt := 126) hx hb dX5_hook_72 (by decide) ?_
    exact gRi (u := u) hx hb hr hlk hP hD hok hS (by rw [← hfv, f_X5_hook_58, if_pos c60]) dX5_hook_126
set_option maxHeartbeats 4000000 in
set_option maxRecDepth 100000 in
theorem c_X5_hook_39 {p : Program} {e : Env} {s : State} {m : MethodId} {args : Array Value} {below : List Frame} {meth : Method} {c : Code} (l : Launch) (G : gC) (A : Nat → Prop) (hM hTm hkd hsz hld hch hdk htk hme hte : Nat) (v : Int32) (hv : vp_in v 70) (C0 : gX p s m args meth c cX5_hook 3 wsX5_hook RX5 (some .int)) (hE : gE G A s) (x2 : Int32) (s0 : Int32) (u : MS) {H : Heap} {locs : List Loc} (hP : va_P (gD G) vwCl ((m_W (gI G) hM hTm hkd hsz hld hch hdk htk hme hte) u) H) (hD : va_D A ((m_W (gI G) hM hTm hkd hsz hld hch hdk htk hme hte) u)) (hok : m_ok u) (hS : va_S A s.heap H locs) {ls : Array Slot} (hl : lv_has ls 3 [(0, .ref hM), (1, .int v), (2, .int x2)]) {fv : Int32 × MS} (hfv : f_X5_hook_39 v x2 s0 u = fv) : W p l e ({ frames := 1, cells := 0, slots := 0, locals := 22 } : Room) s m args below meth c H locs 0 0 (MQ below (gQi G A (m_W (gI G) hM hTm hkd hsz hld hch hdk htk hme hte) m_ok fv) args s 0 0 A) (F0 m 39 ls [.int s0, .ref hM]) := by
  obtain ⟨⟨hx, hb, hml, hown, hts⟩, hr, hlk⟩ := id C0
  have hok0 := hok
  refine lv_bipush (v := 6) hx hb dX5_hook_39 (by decide) ?_
  refine gVv (u := u) (Wd := (m_W (gI G) hM hTm hkd hsz hld hch hdk htk hme hte)) (ok := m_ok) (As := [.int s0, .int (6 : Int32)]) (rest := []) ⟨hx, hb, hml, hown, hts⟩ (c_X5_began l G A hM hTm hkd hsz hld hch hdk htk hme hte s0 (6 : Int32) u hok) (cwV 2 hts gX5_hook_X5_began rfl rfl rfl (by decide +kernel) ⟨Nat.le_of_ble_eq_true rfl, Nat.le_of_ble_eq_true rfl⟩) hE hP hD hS (va_recv hE.1 hP (ci := 5) (q0 := 0) rfl rfl) rfl hl.1 rfl (Nat.le_of_ble_eq_true rfl) dX5_hook_41 ⟨Nat.zero_le _, Nat.zero_le _⟩ (fun q41 H locs e41 hP hD hok hS => ?_)
  refine lv_iload_n hx hb dX5_hook_44 rfl (lv_at hl 2 rfl) ?_
  refine lv_bipush (v := 9) hx hb dX5_hook_45 (by decide) ?_
  refine lv_icmp_ne (tgt := 58) hx hb dX5_hook_47 (by decide) (fun c47 => ?_) (fun c47 => ?_)
  · exact c_X5_hook_58 l G A hM hTm hkd hsz hld hch hdk htk hme hte v hv C0 hE x2 q41 hP hD hok hS (lv_sub hl [0, 1, 2] rfl) (by rw [← hfv, f_X5_hook_39, ← e41, f_X5_hook_k41, if_neg c47])
  · refine lv_aload_n hx hb dX5_hook_50 rfl (lv_at hl 0 rfl) ?_
    refine lv_bipush (v := 7) hx hb dX5_hook_51 (by decide) ?_
    refine lv_bipush (v := 6) hx hb dX5_hook_53 (by decide) ?_
    refine gVv (u := q41) (Wd := (m_W (gI G) hM hTm hkd hsz hld hch hdk htk hme hte)) (ok := m_ok) (As := [.int (7 : Int32), .int (6 : Int32)]) (rest := []) ⟨hx, hb, hml, hown, hts⟩ (c_X5_began l G A hM hTm hkd hsz hld hch hdk htk hme hte (7 : Int32) (6 : Int32) q41 hok) (cwV 2 hts gX5_hook_X5_began rfl rfl rfl (by decide +kernel) ⟨Nat.le_of_ble_eq_true rfl, Nat.le_of_ble_eq_true rfl⟩) hE hP hD hS (va_recv hE.1 hP (ci := 5) (q0 := 0) rfl rfl) rfl hl.1 rfl (Nat.le_of_ble_eq_true rfl) dX5_hook_55 ⟨Nat.zero_le _, Nat.zero_le _⟩ (fun q55 H locs e55 hP hD hok hS => ?_)
    exact c_X5_hook_58 l G A hM hTm hkd hsz hld hch hdk htk hme hte v hv C0 hE x2 q55 hP hD hok hS (lv_sub hl [0, 1, 2] rfl) (by rw [← hfv, f_X5_hook_39, ← e41, f_X5_hook_k41, if_pos c47, ← e55, f_X5_hook_k55])
set_option maxHeartbeats 4000000 in
set_option maxRecDepth 100000 in
theorem c_X5_hook_25 {p : Program} {e : Env} {s : State} {m : MethodId} {args : Array Value} {below : List Frame} {meth : Method} {c : Code} (l : Launch) (G : gC) (A : Nat → Prop) (hM hTm hkd hsz hld hch hdk htk hme hte : Nat) (v : Int32) (hv : vp_in v 70) (C0 : gX p s m args meth c cX5_hook 3 wsX5_hook RX5 (some .int)) (hE : gE G A s) (x2 : Int32) (u : MS) {H : Heap} {locs : List Loc} (hP : va_P (gD G) vwCl ((m_W (gI G) hM hTm hkd hsz hld hch hdk htk hme hte) u) H) (hD : va_D A ((m_W (gI G) hM hTm hkd hsz hld hch hdk htk hme hte) u)) (hok : m_ok u) (hS : va_S A s.heap H locs) {ls : Array Slot} (hl : lv_has ls 3 [(0, .ref hM), (1, .int v), (2, .int x2)]) {fv : Int32 × MS} (hfv : f_X5_hook_25 v x2 u = fv) : W p l e ({ frames := 1, cells := 0, slots := 0, locals := 22 } : Room) s m args below meth c H locs 0 0 (MQ below (gQi G A (m_W (gI G) hM hTm hkd hsz hld hch hdk htk hme hte) m_ok fv) args s 0 0 A) (F0 m 25 ls []) := by
  obtain ⟨⟨hx, hb, hml, hown, hts⟩, hr, hlk⟩ := id C0
  have hok0 := hok
  refine lv_aload_n hx hb dX5_hook_25 rfl (lv_at hl 0 rfl) ?_
  refine lv_iload_n hx hb dX5_hook_26 rfl (lv_at hl 2 rfl) ?_
  refine gSi (As := [.int x2]) (rest := [.ref hM]) ⟨hx, hb, hml, hown, hts⟩ (c_X5_isCar l G A x2) (va_cwS 1 hts gX5_hook_X5_isCar rfl rfl rfl (by decide +kernel) ⟨Nat.le_of_ble_eq_true rfl, Nat.le_of_ble_eq_true rfl⟩) hE hS rfl hl.1 rfl (Nat.le_of_ble_eq_true rfl) dX5_hook_27 ⟨Nat.zero_le _, Nat.zero_le _⟩ (fun q27 e27 => ?_)
  refine lv_if_eq (tgt := 37) hx hb dX5_hook_30 (by decide) (fun c30 => ?_) (fun c30 => ?_)
  · refine lv_bipush (v := 7) hx hb dX5_hook_37 (by decide) ?_
    exact c_X5_hook_39 l G A hM hTm hkd hsz hld hch hdk htk hme hte v hv C0 hE x2 (7 : Int32) u hP hD hok hS (lv_sub hl [0, 1, 2] rfl) (by rw [← hfv, f_X5_hook_25, ← e27, f_X5_hook_k27, if_pos c30])
  · refine lv_iconst (v := 3) hx hb dX5_hook_33 (by decide) ?_
    refine lv_goto (tgt := 39) hx hb dX5_hook_34 (by decide) ?_
    exact c_X5_hook_39 l G A hM hTm hkd hsz hld hch hdk htk hme hte v hv C0 hE x2 (3 : Int32) u hP hD hok hS (lv_sub hl [0, 1, 2] rfl) (by rw [← hfv, f_X5_hook_25, ← e27, f_X5_hook_k27, if_neg c30])
set_option maxHeartbeats 4000000 in
set_option maxRecDepth 100000 in
theorem c_X5_hook_18 {p : Program} {e : Env} {s : State} {m : MethodId} {args : Array Value} {below : List Frame} {meth : Method} {c : Code} (l : Launch) (G : gC) (A : Nat → Prop) (hM hTm hkd hsz hld hch hdk htk hme hte : Nat) (v : Int32) (hv : vp_in v 70) (C0 : gX p s m args meth c cX5_hook 3 wsX5_hook RX5 (some .int)) (hE : gE G A s) (x2 : Int32) (u : MS) {H : Heap} {locs : List Loc} (hP : va_P (gD G) vwCl ((m_W (gI G) hM hTm hkd hsz hld hch hdk htk hme hte) u) H) (hD : va_D A ((m_W (gI G) hM hTm hkd hsz hld hch hdk htk hme hte) u)) (hok : m_ok u) (hS : va_S A s.heap H locs) {ls : Array Slot} (hl : lv_has ls 3 [(0, .ref hM), (1, .int v), (2, .int x2)]) {fv : Int32 × MS} (hfv : f_X5_hook_18 v x2 u = fv) : W p l e ({ frames := 1, cells := 0, slots := 0, locals := 22 } : Room) s m args below meth c H locs 0 0 (MQ below (gQi G A (m_W (gI G) hM hTm hkd hsz hld hch hdk htk hme hte) m_ok fv) args s 0 0 A) (F0 m 18 ls []) := by
  obtain ⟨⟨hx, hb, hml, hown, hts⟩, hr, hlk⟩ := id C0
  have hok0 := hok
  refine lv_aload_n hx hb dX5_hook_18 rfl (lv_at hl 0 rfl) ?_
  refine lv_iload_n hx hb dX5_hook_19 rfl (lv_at hl 2 rfl) ?_
  refine lv_bipush (v := 6) hx hb dX5_hook_20 (by decide) ?_
  refine gVv (u := u) (Wd := (m_W (gI G) hM hTm hkd hsz hld hch hdk htk hme hte)) (ok := m_ok) (As := [.int x2, .int (6 : Int32)]) (rest := []) ⟨hx, hb, hml, hown, hts⟩ (c_X5_began l G A hM hTm hkd hsz hld hch hdk htk hme hte x2 (6 : Int32) u hok) (cwV 2 hts gX5_hook_X5_began rfl rfl rfl (by decide +kernel) ⟨Nat.le_of_ble_eq_true rfl, Nat.le_of_ble_eq_true rfl⟩) hE hP hD hS (va_recv hE.1 hP (ci := 5) (q0 := 0) rfl rfl) rfl hl.1 rfl (Nat.le_of_ble_eq_true rfl) dX5_hook_22 ⟨Nat.zero_le _, Nat.zero_le _⟩ (fun q22 H locs e22 hP hD hok hS => ?_)
  exact c_X5_hook_25 l G A hM hTm hkd hsz hld hch hdk htk hme hte v hv C0 hE x2 q22 hP hD hok hS (lv_sub hl [0, 1, 2] rfl) (by rw [← hfv, f_X5_hook_18, ← e22, f_X5_hook_k22])
set_option maxHeartbeats 4000000 in
set_option maxRecDepth 100000 in
theorem c_X5_hook_0 {p : Program} {e : Env} {s : State} {m : MethodId} {args : Array Value} {below : List Frame} {meth : Method} {c : Code} (l : Launch) (G : gC) (A : Nat → Prop) (hM hTm hkd hsz hld hch hdk htk hme hte : Nat) (v : Int32) (hv : vp_in v 70) (C0 : gX p s m args meth c cX5_hook 3 wsX5_hook RX5 (some .int)) (hE : gE G A s) (u : MS) {H : Heap} {locs : List Loc} (hP : va_P (gD G) vwCl ((m_W (gI G) hM hTm hkd hsz hld hch hdk htk hme hte) u) H) (hD : va_D A ((m_W (gI G) hM hTm hkd hsz hld hch hdk htk hme hte) u)) (hok : m_ok u) (hS : va_S A s.heap H locs) {ls : Array Slot} (hl : lv_has ls 3 [(0, .ref hM), (1, .int v)]) {fv : Int32 × MS} (hfv : f_X5_hook v u = fv) : W p l e ({ frames := 1, cells := 0, slots := 0, locals := 22 } : Room) s m args below meth c H locs 0 0 (MQ below (gQi G A (m_W (gI G) hM hTm hkd hsz hld hch hdk htk hme hte) m_ok fv) args s 0 0 A) (F0 m 0 ls []) := by
  obtain ⟨⟨hx, hb, hml, hown, hts⟩, hr, hlk⟩ := id C0
  have hok0 := hok
  have k0 := hts (.fieldLink RX5 13 "FerryDecksModel" "kinds" "[I") (by decide +kernel)
  have iX5 : ∀ w ∈ wsX50, w ∈ wsX5_hook := by decide +kernel
  refine lv_aload_n hx hb dX5_hook_0 rfl (lv_at hl 0 rfl) ?_
  refine va_get (D := gD G) (ci := 5) (v := .ref hkd) (C := RX5) (T := TX5) (N := 17) hx hb hts iX5 hown hE.1 hP 0 rfl rfl 2 (by decide) k0 (fun _ h9 => h9) rfl dX5_hook_1 ?_
  refine lv_iload_n hx hb dX5_hook_4 rfl (lv_at hl 1 rfl) ?_
  refine va_iald hx hb hE.1 hP 2 0 rfl rfl (hv) dX5_hook_5 ?_
  refine lv_istore_n (lv' := [(2, .int (m_kd u (v : Int32).toNatClampNeg)), (0, .ref hM), (1, .int v)]) hx hb dX5_hook_6 rfl hl (by decide) rfl (fun ls hl => ?_)
  refine lv_iload_n hx hb dX5_hook_7 rfl (lv_at hl 0 rfl) ?_
  refine lv_iconst (v := 5) hx hb dX5_hook_8 (by decide) ?_
  refine lv_icmp_eq (tgt := 18) hx hb dX5_hook_9 (by decide) (fun c9 => ?_) (fun c9 => ?_)
  · exact c_X5_hook_18 l G A hM hTm hkd hsz hld hch hdk htk hme hte v hv C0 hE (m_kd u (v : Int32).toNatClampNeg) u hP hD hok hS (lv_sub hl [1, 2, 0] rfl) (by rw [← hfv, f_X5_hook, if_pos c9])
  · refine lv_iload_n hx hb dX5_hook_12 rfl (lv_at hl 0 rfl) ?_
    refine lv_bipush (v := 9) hx hb dX5_hook_13 (by decide) ?_
    refine lv_icmp_ne (tgt := 25) hx hb dX5_hook_15 (by decide) (fun c15 => ?_) (fun c15 => ?_)
    · exact c_X5_hook_25 l G A hM hTm hkd hsz hld hch hdk htk hme hte v hv C0 hE (m_kd u (v : Int32).toNatClampNeg) u hP hD hok hS (lv_sub hl [1, 2, 0] rfl) (by rw [← hfv, f_X5_hook, if_neg c9, if_neg c15])
    · exact c_X5_hook_18 l G A hM hTm hkd hsz hld hch hdk htk hme hte v hv C0 hE (m_kd u (v : Int32).toNatClampNeg) u hP hD hok hS (lv_sub hl [1, 2, 0] rfl) (by rw [← hfv, f_X5_hook, if_neg c9, if_pos c15])
set_option maxHeartbeats 4000000 in
set_option maxRecDepth 100000 in
theorem c_X5_hook (l : Launch) (G : gC) (A : Nat → Prop) (hM hTm hkd hsz hld hch hdk htk hme hte : Nat) (v : Int32) (hv : vp_in v 70) (u : MS) (hok : m_ok u) : CI l yX5_hook wsX5_hook ({ frames := 1, cells := 0, slots := 0, locals := 22 } : Room) G A (m_W (gI G) hM hTm hkd hsz hld hch hdk htk hme hte) m_ok [.ref hM, .int v] u (f_X5_hook v u) := by
  refine Met.ofW (cc := cX5_hook) (maxL := 3) (ret := (some .int)) (by decide) rfl ?_
  intro p e s m args below meth c s₁ B hml hv
  obtain ⟨rfl, hE, hP, hD⟩ := hv
  have hl := lv_entry ([.ref hM, .int v]) (n := 3) (Nat.le_of_ble_eq_true rfl)
  rw [lg_entry_eq]
  generalize (lg_sl ([.ref hM, .int v]) ++ List.replicate (3 - (lg_sl ([.ref hM, .int v])).length) Slot.unset).toArray = ls at hl ⊢
  exact c_X5_hook_0 l G A hM hTm hkd hsz hld hch hdk htk hme hte v hv ⟨⟨B.exec, B.bytes, hml, findClass_of_methodNamed B.named, atoms_spec (ws := wsX5_hook) B.pre⟩, B.returns, B.notSynchronized⟩ hE u hP hD hok va_S.rf hl rfl

-- FerryDecksModel.pulls
def f_X5_pulls_k41 (v : Int32) (x3 : Int32) (q30 : Int32 × MS) (q41 : Int32 × MS) : Int32 × MS :=
  ((q30.1 * x3) + q41.1, q41.2)
def f_X5_pulls_k30 (v : Int32) (x3 : Int32) (q30 : Int32 × MS) : Int32 × MS :=
  (f_X5_pulls_k41 v x3 q30 (f_X5_mark v q30.2))
def f_X5_pulls_k25 (v : Int32) (x3 : Int32) (q25 : MS) : Int32 × MS :=
  (f_X5_pulls_k30 v x3 (f_X5_hook v q25))
def f_X5_pulls_22 (v : Int32) (x3 : Int32) (u : MS) : Int32 × MS :=
  (f_X5_pulls_k25 v x3 (f_X5_began (0 : Int32) (5 : Int32) u))
def f_X5_pulls_k15 (v : Int32) (n : Int32) (q15 : MS) : Int32 × MS :=
  f_X5_pulls_22 v (n + (1 : Int32)) q15
def f_X5_pulls (v : Int32) (n : Int32) (u : MS) : Int32 × MS :=
  (if (m_kd u (v : Int32).toNatClampNeg) = (5 : Int32) then (f_X5_pulls_k15 v n (f_X5_began (5 : Int32) (5 : Int32) u)) else f_X5_pulls_22 v n u)
set_option maxHeartbeats 4000000 in
set_option maxRecDepth 100000 in
theorem c_X5_pulls_22 {p : Program} {e : Env} {s : State} {m : MethodId} {args : Array Value} {below : List Frame} {meth : Method} {c : Code} (l : Launch) (G : gC) (A : Nat → Prop) (hM hTm hkd hsz hld hch hdk htk hme hte : Nat) (v : Int32) (hv : vp_in v 70) (C0 : gX p s m args meth c cX5_pulls 5 wsX5_pulls RX5 (some .int)) (hE : gE G A s) (x3 : Int32) (u : MS) {H : Heap} {locs : List Loc} (hP : va_P (gD G) vwCl ((m_W (gI G) hM hTm hkd hsz hld hch hdk htk hme hte) u) H) (hD : va_D A ((m_W (gI G) hM hTm hkd hsz hld hch hdk htk hme hte) u)) (hok : m_ok u) (hS : va_S A s.heap H locs) {ls : Array Slot} (hl : lv_has ls 5 [(0, .ref hM), (1, .int v), (3, .int x3)]) {fv : Int32 × MS} (hfv : f_X5_pulls_22 v x3 u = fv) : W p l e ({ frames := 2, cells := 0, slots := 0, locals := 49 } : Room) s m args below meth c H locs 0 0 (MQ below (gQi G A (m_W (gI G) hM hTm hkd hsz hld hch hdk htk hme hte) m_ok fv) args s 0 0 A) (F0 m 22 ls []) := by
  obtain ⟨⟨hx, hb, hml, hown, hts⟩, hr, hlk⟩ := id C0
  have hok0 := hok
  refine lv_aload_n hx hb dX5_pulls_22 rfl (lv_at hl 0 rfl) ?_
  refine lv_iconst (v := 0) hx hb dX5_pulls_23 (by decide) ?_
  refine lv_iconst (v := 5) hx hb dX5_pulls_24 (by decide) ?_
  refine gVv (u := u) (Wd := (m_W (gI G) hM hTm hkd hsz hld hch hdk htk hme hte)) (ok := m_ok) (As := [.int (0 : Int32), .int (5 : Int32)]) (rest := []) ⟨hx, hb, hml, hown, hts⟩ (c_X5_began l G A hM hTm hkd hsz hld hch hdk htk hme hte (0 : Int32) (5 : Int32) u hok) (cwV 2 hts gX5_pulls_X5_began rfl rfl rfl (by decide +kernel) ⟨Nat.le_of_ble_eq_true rfl, Nat.le_of_ble_eq_true rfl⟩) hE hP hD hS (va_recv hE.1 hP (ci := 5) (q0 := 0) rfl rfl) rfl hl.1 rfl (Nat.le_of_ble_eq_true rfl) dX5_pulls_25 ⟨Nat.zero_le _, Nat.zero_le _⟩ (fun q25 H locs e25 hP hD hok hS => ?_)
  refine lv_aload_n hx hb dX5_pulls_28 rfl (lv_at hl 0 rfl) ?_
  refine lv_iload_n hx hb dX5_pulls_29 rfl (lv_at hl 1 rfl) ?_
  refine gVi (u := q25) (Wd := (m_W (gI G) hM hTm hkd hsz hld hch hdk htk hme hte)) (ok := m_ok) (As := [.int v]) (rest := []) ⟨hx, hb, hml, hown, hts⟩ (c_X5_hook l G A hM hTm hkd hsz hld hch hdk htk hme hte v hv q25 hok) (cwV 1 hts gX5_pulls_X5_hook rfl rfl rfl (by decide +kernel) ⟨Nat.le_of_ble_eq_true rfl, Nat.le_of_ble_eq_true rfl⟩) hE hP hD hS (va_recv hE.1 hP (ci := 5) (q0 := 0) rfl rfl) rfl hl.1 rfl (Nat.le_of_ble_eq_true rfl) dX5_pulls_30 ⟨Nat.zero_le _, Nat.zero_le _⟩ (fun q30 H locs e30 hP hD hok hS => ?_)
  refine lv_iload_n hx hb dX5_pulls_33 rfl (lv_at hl 2 rfl) ?_
  refine lv_imul hx hb dX5_pulls_34 ?_
  refine lv_istore (lv' := [(4, .int (q30.1 * x3)), (0, .ref hM), (1, .int v), (3, .int x3)]) hx hb dX5_pulls_35 hl (by decide) rfl (fun ls hl => ?_)
  refine lv_iload hx hb dX5_pulls_37 (lv_at hl 0 rfl) ?_
  refine lv_aload_n hx hb dX5_pulls_39 rfl (lv_at hl 1 rfl) ?_
  refine lv_iload_n hx hb dX5_pulls_40 rfl (lv_at hl 2 rfl) ?_
  refine gVi (u := q30.2) (Wd := (m_W (gI G) hM hTm hkd hsz hld hch hdk htk hme hte)) (ok := m_ok) (As := [.int v]) (rest := [.int (q30.1 * x3)]) ⟨hx, hb, hml, hown, hts⟩ (c_X5_mark l G A hM hTm hkd hsz hld hch hdk htk hme hte v hv q30.2 hok) (cwV 1 hts gX5_pulls_X5_mark rfl rfl rfl (by decide +kernel) ⟨Nat.le_of_ble_eq_true rfl, Nat.le_of_ble_eq_true rfl⟩) hE hP hD hS (va_recv hE.1 hP (ci := 5) (q0 := 0) rfl rfl) rfl hl.1 rfl (Nat.le_of_ble_eq_true rfl) dX5_pulls_41 ⟨Nat.zero_le _, Nat.zero_le _⟩ (fun q41 H locs e41 hP hD hok hS => ?_)
  refine lv_iadd hx hb dX5_pulls_44 ?_
  exact gRi (u := q41.2) hx hb hr hlk hP hD hok hS (by rw [← hfv, f_X5_pulls_22, ← e25, f_X5_pulls_k25, ← e30, f_X5_pulls_k30, ← e41, f_X5_pulls_k41]) dX5_pulls_45
set_option maxHeartbeats 4000000 in
set_option maxRecDepth 100000 in
theorem c_X5_pulls_0 {p : Program} {e : Env} {s : State} {m : MethodId} {args : Array Value} {below : List Frame} {meth : Method} {c : Code} (l : Launch) (G : gC) (A : Nat → Prop) (hM hTm hkd hsz hld hch hdk htk hme hte : Nat) (v : Int32) (hv : vp_in v 70) (C0 : gX p s m args meth c cX5_pulls 5 wsX5_pulls RX5 (some .int)) (hE : gE G A s) (n : Int32) (u : MS) {H : Heap} {locs : List Loc} (hP : va_P (gD G) vwCl ((m_W (gI G) hM hTm hkd hsz hld hch hdk htk hme hte) u) H) (hD : va_D A ((m_W (gI G) hM hTm hkd hsz hld hch hdk htk hme hte) u)) (hok : m_ok u) (hS : va_S A s.heap H locs) {ls : Array Slot} (hl : lv_has ls 5 [(0, .ref hM), (1, .int v), (2, .int n)]) {fv : Int32 × MS} (hfv : f_X5_pulls v n u = fv) : W p l e ({ frames := 2, cells := 0, slots := 0, locals := 49 } : Room) s m args below meth c H locs 0 0 (MQ below (gQi G A (m_W (gI G) hM hTm hkd hsz hld hch hdk htk hme hte) m_ok fv) args s 0 0 A) (F0 m 0 ls []) := by
  obtain ⟨⟨hx, hb, hml, hown, hts⟩, hr, hlk⟩ := id C0
  have hok0 := hok
  have k0 := hts (.fieldLink RX5 13 "FerryDecksModel" "kinds" "[I") (by decide +kernel)
  have iX5 : ∀ w ∈ wsX50, w ∈ wsX5_pulls := by decide +kernel
  refine lv_iload_n hx hb dX5_pulls_0 rfl (lv_at hl 2 rfl) ?_
  refine lv_istore_n (lv' := [(3, .int n), (0, .ref hM), (1, .int v), (2, .int n)]) hx hb dX5_pulls_1 rfl hl (by decide) rfl (fun ls hl => ?_)
  refine lv_aload_n hx hb dX5_pulls_2 rfl (lv_at hl 1 rfl) ?_
  refine va_get (D := gD G) (ci := 5) (v := .ref hkd) (C := RX5) (T := TX5) (N := 17) hx hb hts iX5 hown hE.1 hP 0 rfl rfl 2 (by decide) k0 (fun _ h9 => h9) rfl dX5_pulls_3 ?_
  refine lv_iload_n hx hb dX5_pulls_6 rfl (lv_at hl 2 rfl) ?_
  refine va_iald hx hb hE.1 hP 2 0 rfl rfl (hv) dX5_pulls_7 ?_
  refine lv_iconst (v := 5) hx hb dX5_pulls_8 (by decide) ?_
  refine lv_icmp_ne (tgt := 22) hx hb dX5_pulls_9 (by decide) (fun c9 => ?_) (fun c9 => ?_)
  · exact c_X5_pulls_22 l G A hM hTm hkd hsz hld hch hdk htk hme hte v hv C0 hE n u hP hD hok hS (lv_sub hl [1, 2, 0] rfl) (by rw [← hfv, f_X5_pulls, if_neg c9])
  · refine lv_aload_n hx hb dX5_pulls_12 rfl (lv_at hl 1 rfl) ?_
    refine lv_iconst (v := 5) hx hb dX5_pulls_13 (by decide) ?_
    refine lv_iconst (v := 5) hx hb dX5_pulls_14 (by decide) ?_
    refine gVv (u := u) (Wd := (m_W (gI G) hM hTm hkd hsz hld hch hdk htk hme hte)) (ok := m_ok) (As := [.int (5 : Int32), .int (5 : Int32)]) (rest := []) ⟨hx, hb, hml, hown, hts⟩ (c_X5_began l G A hM hTm hkd hsz hld hch hdk htk hme hte (5 : Int32) (5 : Int32) u hok) (cwV 2 hts gX5_pulls_X5_began rfl rfl rfl (by decide +kernel) ⟨Nat.le_of_ble_eq_true rfl, Nat.le_of_ble_eq_true rfl⟩) hE hP hD hS (va_recv hE.1 hP (ci := 5) (q0 := 0) rfl rfl) rfl hl.1 rfl (Nat.le_of_ble_eq_true rfl) dX5_pulls_15 ⟨Nat.zero_le _, Nat.zero_le _⟩ (fun q15 H locs e15 hP hD hok hS => ?_)
    refine lv_iload_n hx hb dX5_pulls_18 rfl (lv_at hl 3 rfl) ?_
    refine lv_iconst (v := 1) hx hb dX5_pulls_19 (by decide) ?_
    refine lv_iadd hx hb dX5_pulls_20 ?_
    refine lv_istore_n (lv' := [(3, .int (n + (1 : Int32))), (0, .ref hM), (1, .int v), (2, .int n)]) hx hb dX5_pulls_21 rfl hl (by decide) rfl (fun ls hl => ?_)
    exact c_X5_pulls_22 l G A hM hTm hkd hsz hld hch hdk htk hme hte v hv C0 hE (n + (1 : Int32)) q15 hP hD hok hS (lv_sub hl [1, 2, 0] rfl) (by rw [← hfv, f_X5_pulls, if_pos c9, ← e15, f_X5_pulls_k15])
set_option maxHeartbeats 4000000 in
set_option maxRecDepth 100000 in
theorem c_X5_pulls (l : Launch) (G : gC) (A : Nat → Prop) (hM hTm hkd hsz hld hch hdk htk hme hte : Nat) (v : Int32) (hv : vp_in v 70) (n : Int32) (u : MS) (hok : m_ok u) : CI l yX5_pulls wsX5_pulls ({ frames := 2, cells := 0, slots := 0, locals := 49 } : Room) G A (m_W (gI G) hM hTm hkd hsz hld hch hdk htk hme hte) m_ok [.ref hM, .int v, .int n] u (f_X5_pulls v n u) := by
  refine Met.ofW (cc := cX5_pulls) (maxL := 5) (ret := (some .int)) (by decide) rfl ?_
  intro p e s m args below meth c s₁ B hml hv
  obtain ⟨rfl, hE, hP, hD⟩ := hv
  have hl := lv_entry ([.ref hM, .int v, .int n]) (n := 5) (Nat.le_of_ble_eq_true rfl)
  rw [lg_entry_eq]
  generalize (lg_sl ([.ref hM, .int v, .int n]) ++ List.replicate (5 - (lg_sl ([.ref hM, .int v, .int n])).length) Slot.unset).toArray = ls at hl ⊢
  exact c_X5_pulls_0 l G A hM hTm hkd hsz hld hch hdk htk hme hte v hv ⟨⟨B.exec, B.bytes, hml, findClass_of_methodNamed B.named, atoms_spec (ws := wsX5_pulls) B.pre⟩, B.returns, B.notSynchronized⟩ hE n u hP hD hok va_S.rf hl rfl
