/-- how many vehicles are on a deck, as the loop makes it -/
def ctL (dk : Nat → Int32) (d : Int32) : Nat → Nat → Int32 → Int32
  | 0, _, a => a
  | k + 1, i, a => ctL dk d k (i + 1) (a + if dk i = d then 1 else 0)
def f_X5_on_k86 (dx : Int32) (u : MS) (q86 : Int32 × MS) : Int32 × MS :=
  ((m_me u (dx : Int32).toNatClampNeg) - q86.1, q86.2)
def f_X5_on_60 (dx : Int32) (x2 : Int32) (x3 : Int32) (u : MS) : Int32 × MS :=
  (if x2 = 0 then (m_me u (dx : Int32).toNatClampNeg, u) else (if x2 = (1 : Int32) then (f_X5_on_k86 dx u (f_X5_takenOn dx u)) else (x3, u)))
set_option maxHeartbeats 4000000 in
set_option maxRecDepth 100000 in
theorem c_X5_on_60 {p : Program} {e : Env} {s : State} {m : MethodId} {args : Array Value} {below : List Frame} {meth : Method} {c : Code} (l : Launch) (G : gC) (A : Nat → Prop) (hM hTm hkd hsz hld hch hdk htk hme hte : Nat) (dx : Int32) (hd : vp_in dx 3) (C0 : gX p s m args meth c cX5_on 5 wsX5_on RX5 (some .int)) (hE : gE G A s) (x2 : Int32) (x3 : Int32) (u : MS) {H : Heap} {locs : List Loc} (hP : va_P (gD G) vwCl ((m_W (gI G) hM hTm hkd hsz hld hch hdk htk hme hte) u) H) (hD : va_D A ((m_W (gI G) hM hTm hkd hsz hld hch hdk htk hme hte) u)) (hok : m_ok u) (hS : va_S A s.heap H locs) {ls : Array Slot} (hl : lv_has ls 5 [(0, .ref hM), (1, .int dx), (2, .int x2), (3, .int x3)]) {fv : Int32 × MS} (hfv : f_X5_on_60 dx x2 x3 u = fv) : W p l e ({ frames := 2, cells := 0, slots := 0, locals := 45 } : Room) s m args below meth c H locs 0 0 (MQ below (gQi G A (m_W (gI G) hM hTm hkd hsz hld hch hdk htk hme hte) m_ok fv) args s 0 0 A) (F0 m 60 ls []) := by
  obtain ⟨⟨hx, hb, hml, hown, hts⟩, hr, hlk⟩ := id C0
  have hok0 := hok
  have k0 := hts (.fieldLink RX5 31 "FerryDecksModel" "metres" "[I") (by decide +kernel)
  have iX5 : ∀ w ∈ wsX50, w ∈ wsX5_on := by decide +kernel
  refine lv_iload_n hx hb dX5_on_60 rfl (lv_at hl 2 rfl) ?_
  refine lv_if_ne (tgt := 73) hx hb dX5_on_61 (by decide) (fun c61 => ?_) (fun c61 => ?_)
  · refine lv_iload_n hx hb dX5_on_73 rfl (lv_at hl 2 rfl) ?_
    refine lv_iconst (v := 1) hx hb dX5_on_74 (by decide) ?_
    refine lv_icmp_ne (tgt := 93) hx hb dX5_on_75 (by decide) (fun c75 => ?_) (fun c75 => ?_)
    · refine lv_iload_n hx hb dX5_on_93 rfl (lv_at hl 3 rfl) ?_
      exact gRi (u := u) hx hb hr hlk hP hD hok hS (by rw [← hfv, f_X5_on_60, if_neg c61, if_neg c75]) dX5_on_94
    · refine lv_aload_n hx hb dX5_on_78 rfl (lv_at hl 0 rfl) ?_
      refine va_get (D := gD G) (ci := 5) (v := .ref hme) (C := RX5) (T := TX5) (N := 17) hx hb hts iX5 hown hE.1 hP 0 rfl rfl 8 (by decide) k0 (fun _ h9 => h9) rfl dX5_on_79 ?_
      refine lv_iload_n hx hb dX5_on_82 rfl (lv_at hl 1 rfl) ?_
      refine va_iald hx hb hE.1 hP 8 0 rfl rfl (hd) dX5_on_83 ?_
      refine lv_aload_n hx hb dX5_on_84 rfl (lv_at hl 0 rfl) ?_
      refine lv_iload_n hx hb dX5_on_85 rfl (lv_at hl 1 rfl) ?_
      refine gVi (u := u) (Wd := (m_W (gI G) hM hTm hkd hsz hld hch hdk htk hme hte)) (ok := m_ok) (As := [.int dx]) (rest := [.int (m_me u (dx : Int32).toNatClampNeg)]) ⟨hx, hb, hml, hown, hts⟩ (c_X5_takenOn l G A hM hTm hkd hsz hld hch hdk htk hme hte dx u hok) (cwV 1 hts gX5_on_X5_takenOn rfl rfl rfl (by decide +kernel) ⟨Nat.le_of_ble_eq_true rfl, Nat.le_of_ble_eq_true rfl⟩) hE hP hD hS (va_recv hE.1 hP (ci := 5) (q0 := 0) rfl rfl) rfl hl.1 rfl (Nat.le_of_ble_eq_true rfl) dX5_on_86 ⟨Nat.zero_le _, Nat.zero_le _⟩ (fun q86 H locs e86 hP hD hok hS => ?_)
      refine lv_isub hx hb dX5_on_89 ?_
      refine lv_goto (tgt := 94) hx hb dX5_on_90 (by decide) ?_
      exact gRi (u := q86.2) hx hb hr hlk hP hD hok hS (by rw [← hfv, f_X5_on_60, if_neg c61, if_pos c75, ← e86, f_X5_on_k86]) dX5_on_94
  · refine lv_aload_n hx hb dX5_on_64 rfl (lv_at hl 0 rfl) ?_
    refine va_get (D := gD G) (ci := 5) (v := .ref hme) (C := RX5) (T := TX5) (N := 17) hx hb hts iX5 hown hE.1 hP 0 rfl rfl 8 (by decide) k0 (fun _ h9 => h9) rfl dX5_on_65 ?_
    refine lv_iload_n hx hb dX5_on_68 rfl (lv_at hl 1 rfl) ?_
    refine va_iald hx hb hE.1 hP 8 0 rfl rfl (hd) dX5_on_69 ?_
    refine lv_goto (tgt := 94) hx hb dX5_on_70 (by decide) ?_
    exact gRi (u := u) hx hb hr hlk hP hD hok hS (by rw [← hfv, f_X5_on_60, if_pos c61]) dX5_on_94
def f_X5_on_26 (dx x : Int32) (u : MS) : Int32 × MS := f_X5_on_60 dx x (ctL (m_dk u) dx (m_v u).toNatClampNeg 0 0) u
set_option maxHeartbeats 4000000 in
set_option maxRecDepth 100000 in
theorem c_X5_on_26 {p : Program} {e : Env} {s : State} {m : MethodId} {args : Array Value} {below : List Frame} {meth : Method} {c : Code} (l : Launch) (G : gC) (A : Nat → Prop) (hM hTm hkd hsz hld hch hdk htk hme hte : Nat) (dx : Int32) (hd : vp_in dx 3) (C0 : gX p s m args meth c cX5_on 5 wsX5_on RX5 (some .int)) (hE : gE G A s) (x2 : Int32) (u : MS) {H : Heap} {locs : List Loc} (hP : va_P (gD G) vwCl ((m_W (gI G) hM hTm hkd hsz hld hch hdk htk hme hte) u) H) (hD : va_D A ((m_W (gI G) hM hTm hkd hsz hld hch hdk htk hme hte) u)) (hok : m_ok u) (hS : va_S A s.heap H locs) {N : Nat} (hN70 : N ≤ 70) (hN : m_v u = nI N) {fv : Int32 × MS} : ∀ (k i : Nat), i + k = N → ∀ (x3 x4 : Int32), x4 = nI i → ∀ {ls : Array Slot}, lv_has ls 5 [(0, .ref hM), (1, .int dx), (2, .int x2), (3, .int x3), (4, .int x4)] → f_X5_on_60 dx x2 (ctL (m_dk u) dx k i x3) u = fv → W p l e ({ frames := 2, cells := 0, slots := 0, locals := 45 } : Room) s m args below meth c H locs 0 0 (MQ below (gQi G A (m_W (gI G) hM hTm hkd hsz hld hch hdk htk hme hte) m_ok fv) args s 0 0 A) (F0 m 26 ls []) := by
  obtain ⟨⟨hx, hb, hml, hown, hts⟩, hr, hlk⟩ := id C0
  have hok0 := hok
  have k0 := hts (.fieldLink RX5 37 "FerryDecksModel" "vehicles" "I") (by decide +kernel)
  have k1 := hts (.fieldLink RX5 25 "FerryDecksModel" "decks" "[I") (by decide +kernel)
  have iX5 : ∀ w ∈ wsX50, w ∈ wsX5_on := by decide +kernel
  intro k
  induction k with
  | zero =>
    intro i hik x3 x4 hx4 ls hl hfv
    refine lv_iload hx hb dX5_on_26 (lv_at hl 4 rfl) ?_
    refine lv_aload_n hx hb dX5_on_28 rfl (lv_at hl 0 rfl) ?_
    refine va_get (D := gD G) (ci := 5) (v := .int (m_v u)) (C := RX5) (T := TX5) (N := 17) hx hb hts iX5 hown hE.1 hP 0 rfl rfl 1 (by decide) k0 (fun _ h9 => h9) rfl dX5_on_29 ?_
    refine lv_icmp_ge (tgt := 60) hx hb dX5_on_32 (by decide) (fun c32 => ?_) (fun c32 => ?_)
    · exact c_X5_on_60 l G A hM hTm hkd hsz hld hch hdk htk hme hte dx hd C0 hE x2 x3 u hP hD hok hS (lv_sub hl [0, 1, 2, 3] rfl) (by rw [← hfv, ctL])
    · exact absurd (by rw [hN, hx4]; exact nI_le (by omega) (by omega)) c32
  | succ k ih =>
    intro i hik x3 x4 hx4 ls hl hfv
    have hcl : x4.toNatClampNeg = i := by rw [hx4]; exact nI_clamp (by omega)
    refine lv_iload hx hb dX5_on_26 (lv_at hl 4 rfl) ?_
    refine lv_aload_n hx hb dX5_on_28 rfl (lv_at hl 0 rfl) ?_
    refine va_get (D := gD G) (ci := 5) (v := .int (m_v u)) (C := RX5) (T := TX5) (N := 17) hx hb hts iX5 hown hE.1 hP 0 rfl rfl 1 (by decide) k0 (fun _ h9 => h9) rfl dX5_on_29 ?_
    refine lv_icmp_ge (tgt := 60) hx hb dX5_on_32 (by decide) (fun c32 => ?_) (fun c32 => ?_)
    · exact absurd c32 (by rw [hN, hx4]; exact nI_ge (by omega) (by omega))
    · refine lv_iload_n hx hb dX5_on_35 rfl (lv_at hl 3 rfl) ?_
      refine lv_aload_n hx hb dX5_on_36 rfl (lv_at hl 0 rfl) ?_
      refine va_get (D := gD G) (ci := 5) (v := .ref hdk) (C := RX5) (T := TX5) (N := 17) hx hb hts iX5 hown hE.1 hP 0 rfl rfl 6 (by decide) k1 (fun _ h9 => h9) rfl dX5_on_37 ?_
      refine lv_iload hx hb dX5_on_40 (lv_at hl 4 rfl) ?_
      refine va_iald hx hb hE.1 hP 6 0 rfl rfl (by rw [hx4]; exact vp_in_nI (by omega) (by omega)) dX5_on_42 ?_
      refine lv_iload_n hx hb dX5_on_43 rfl (lv_at hl 1 rfl) ?_
      refine lv_icmp_ne (tgt := 51) hx hb dX5_on_44 (by decide) (fun c44 => ?_) (fun c44 => ?_)
      · refine lv_iconst (v := 0) hx hb dX5_on_51 (by decide) ?_
        refine lv_iadd hx hb dX5_on_52 ?_
        refine lv_istore_n (lv' := [(3, .int (x3 + (0 : Int32))), (0, .ref hM), (1, .int dx), (2, .int x2), (4, .int x4)]) hx hb dX5_on_53 rfl hl (by decide) rfl (fun ls hl => ?_)
        refine lv_iinc (v := x4 + 1) (lv' := [(4, .int (x4 + 1)), (3, .int (x3 + (0 : Int32))), (0, .ref hM), (1, .int dx), (2, .int x2)]) hx hb dX5_on_54 hl (k := 4) rfl rfl (by decide) rfl (fun ls hl => ?_)
        refine lv_goto (tgt := 26) hx hb dX5_on_57 (by decide) ?_
        exact ih (i + 1) (by omega) (x3 + (0 : Int32)) (x4 + 1) (by rw [hx4]; exact nI_1 i) (lv_sub hl [2, 3, 4, 1, 0] rfl) (by rw [hcl] at c44; rw [← hfv, ctL, if_neg c44])
      · refine lv_iconst (v := 1) hx hb dX5_on_47 (by decide) ?_
        refine lv_goto (tgt := 52) hx hb dX5_on_48 (by decide) ?_
        refine lv_iadd hx hb dX5_on_52 ?_
        refine lv_istore_n (lv' := [(3, .int (x3 + (1 : Int32))), (0, .ref hM), (1, .int dx), (2, .int x2), (4, .int x4)]) hx hb dX5_on_53 rfl hl (by decide) rfl (fun ls hl => ?_)
        refine lv_iinc (v := x4 + 1) (lv' := [(4, .int (x4 + 1)), (3, .int (x3 + (1 : Int32))), (0, .ref hM), (1, .int dx), (2, .int x2)]) hx hb dX5_on_54 hl (k := 4) rfl rfl (by decide) rfl (fun ls hl => ?_)
        refine lv_goto (tgt := 26) hx hb dX5_on_57 (by decide) ?_
        exact ih (i + 1) (by omega) (x3 + (1 : Int32)) (x4 + 1) (by rw [hx4]; exact nI_1 i) (lv_sub hl [2, 3, 4, 1, 0] rfl) (by rw [hcl] at c44; rw [← hfv, ctL, if_pos c44])
-- FerryDecksModel.on
def f_X5_on_k13 (dx : Int32) (x : Int32) (u : MS) (q13 : Int32) : Int32 × MS :=
  (if q13 = 0 then ((-1 : Int32), u) else f_X5_on_26 dx x u)
def f_X5_on_k1 (dx : Int32) (x : Int32) (u : MS) (q1 : Int32) : Int32 × MS :=
  (if q1 = 0 then ((-1 : Int32), u) else (f_X5_on_k13 dx x u (f_X5_in ((x : Int32).toInt64) (0 : Int64) (2 : Int64))))
def f_X5_on (dx : Int32) (x : Int32) (u : MS) : Int32 × MS :=
  (f_X5_on_k1 dx x u (f_X5_isDeck dx))
set_option maxHeartbeats 4000000 in
set_option maxRecDepth 100000 in
theorem c_X5_on_0 {p : Program} {e : Env} {s : State} {m : MethodId} {args : Array Value} {below : List Frame} {meth : Method} {c : Code} (l : Launch) (G : gC) (A : Nat → Prop) (hM hTm hkd hsz hld hch hdk htk hme hte : Nat) (dx : Int32) (C0 : gX p s m args meth c cX5_on 5 wsX5_on RX5 (some .int)) (hE : gE G A s) (x : Int32) (u : MS) {H : Heap} {locs : List Loc} (hP : va_P (gD G) vwCl ((m_W (gI G) hM hTm hkd hsz hld hch hdk htk hme hte) u) H) (hD : va_D A ((m_W (gI G) hM hTm hkd hsz hld hch hdk htk hme hte) u)) (hok : m_ok u) (hS : va_S A s.heap H locs) {ls : Array Slot} (hl : lv_has ls 5 [(0, .ref hM), (1, .int dx), (2, .int x)]) {fv : Int32 × MS} (hfv : f_X5_on dx x u = fv) : W p l e ({ frames := 2, cells := 0, slots := 0, locals := 45 } : Room) s m args below meth c H locs 0 0 (MQ below (gQi G A (m_W (gI G) hM hTm hkd hsz hld hch hdk htk hme hte) m_ok fv) args s 0 0 A) (F0 m 0 ls []) := by
  obtain ⟨⟨hx, hb, hml, hown, hts⟩, hr, hlk⟩ := id C0
  have hok0 := hok
  have k0 := hts (.constantLong RX5 45 (2)) (by decide +kernel)
  refine lv_iload_n hx hb dX5_on_0 rfl (lv_at hl 1 rfl) ?_
  refine gSi (As := [.int dx]) (rest := []) ⟨hx, hb, hml, hown, hts⟩ (c_X5_isDeck l G A dx) (va_cwS 1 hts gX5_on_X5_isDeck rfl rfl rfl (by decide +kernel) ⟨Nat.le_of_ble_eq_true rfl, Nat.le_of_ble_eq_true rfl⟩) hE hS rfl hl.1 rfl (Nat.le_of_ble_eq_true rfl) dX5_on_1 ⟨Nat.zero_le _, Nat.zero_le _⟩ (fun q1 e1 => ?_)
  refine lv_if_eq (tgt := 19) hx hb dX5_on_4 (by decide) (fun c4 => ?_) (fun c4 => ?_)
  · refine lv_iconst (v := -1) hx hb dX5_on_19 (by decide) ?_
    exact gRi (u := u) hx hb hr hlk hP hD hok hS (by rw [← hfv, f_X5_on, ← e1, f_X5_on_k1, if_pos c4]) dX5_on_20
  · have hd : vp_in dx 3 := isD_of (by rw [← e1]; exact c4)
    refine lv_iload_n hx hb dX5_on_7 rfl (lv_at hl 2 rfl) ?_
    refine lv_i2l (v := (x : Int32).toInt64) hx hb dX5_on_8 rfl ?_
    refine lv_lconst (v := 0) hx hb dX5_on_9 (by decide) ?_
    refine lv_ldc2 hx hb hown k0 dX5_on_10 ?_
    refine gSi (As := [.long ((x : Int32).toInt64), .long (0 : Int64), .long (2 : Int64)]) (rest := []) ⟨hx, hb, hml, hown, hts⟩ (c_X5_in l G A ((x : Int32).toInt64) (0 : Int64) (2 : Int64)) (va_cwS 3 hts gX5_on_X5_in rfl rfl rfl (by decide +kernel) ⟨Nat.le_of_ble_eq_true rfl, Nat.le_of_ble_eq_true rfl⟩) hE hS rfl hl.1 rfl (Nat.le_of_ble_eq_true rfl) dX5_on_13 ⟨Nat.zero_le _, Nat.zero_le _⟩ (fun q13 e13 => ?_)
    refine lv_if_ne (tgt := 21) hx hb dX5_on_16 (by decide) (fun c16 => ?_) (fun c16 => ?_)
    · refine lv_iconst (v := 0) hx hb dX5_on_21 (by decide) ?_
      refine lv_istore_n (lv' := [(3, .int (0 : Int32)), (0, .ref hM), (1, .int dx), (2, .int x)]) hx hb dX5_on_22 rfl hl (by decide) rfl (fun ls hl => ?_)
      refine lv_iconst (v := 0) hx hb dX5_on_23 (by decide) ?_
      refine lv_istore (lv' := [(4, .int (0 : Int32)), (3, .int (0 : Int32)), (0, .ref hM), (1, .int dx), (2, .int x)]) hx hb dX5_on_24 hl (by decide) rfl (fun ls hl => ?_)
      obtain ⟨N, hN70, hN⟩ := nI_w (n := 70) (by omega) hok.1
      exact c_X5_on_26 l G A hM hTm hkd hsz hld hch hdk htk hme hte dx hd C0 hE x u hP hD hok hS hN70 hN N 0 (by omega) 0 0 nI_0.symm (lv_sub hl [2, 3, 4, 1, 0] rfl) (by rw [← hfv, f_X5_on, ← e1, f_X5_on_k1, if_neg c4, ← e13, f_X5_on_k13, if_neg c16]; rw [f_X5_on_26, hN, nI_clamp (by omega)])
    · refine lv_iconst (v := -1) hx hb dX5_on_19 (by decide) ?_
      exact gRi (u := u) hx hb hr hlk hP hD hok hS (by rw [← hfv, f_X5_on, ← e1, f_X5_on_k1, if_neg c4, ← e13, f_X5_on_k13, if_pos c16]) dX5_on_20
set_option maxHeartbeats 4000000 in
set_option maxRecDepth 100000 in
theorem c_X5_on (l : Launch) (G : gC) (A : Nat → Prop) (hM hTm hkd hsz hld hch hdk htk hme hte : Nat) (dx : Int32) (x : Int32) (u : MS) (hok : m_ok u) : CI l yX5_on wsX5_on ({ frames := 2, cells := 0, slots := 0, locals := 45 } : Room) G A (m_W (gI G) hM hTm hkd hsz hld hch hdk htk hme hte) m_ok [.ref hM, .int dx, .int x] u (f_X5_on dx x u) := by
  refine Met.ofW (cc := cX5_on) (maxL := 5) (ret := (some .int)) (by decide) rfl ?_
  intro p e s m args below meth c s₁ B hml hv
  obtain ⟨rfl, hE, hP, hD⟩ := hv
  have hl := lv_entry ([.ref hM, .int dx, .int x]) (n := 5) (Nat.le_of_ble_eq_true rfl)
  rw [lg_entry_eq]
  generalize (lg_sl ([.ref hM, .int dx, .int x]) ++ List.replicate (5 - (lg_sl ([.ref hM, .int dx, .int x])).length) Slot.unset).toArray = ls at hl ⊢
  exact c_X5_on_0 l G A hM hTm hkd hsz hld hch hdk htk hme hte dx ⟨⟨B.exec, B.bytes, hml, findClass_of_methodNamed B.named, atoms_spec (ws := wsX5_on) B.pre⟩, B.returns, B.notSynchronized⟩ hE x u hP hD hok va_S.rf hl rfl
