/-- the sum over the vehicles of a deck, as the loop makes it -/
def tkL (dk tk : Nat → Int32) (d : Int32) : Nat → Nat → Int32 → Int32
  | 0, _, a => a
  | k + 1, i, a => tkL dk tk d k (i + 1) (a + if dk i = d then tk i else 0)
def f_X5_takenOn (d : Int32) (u : MS) : Int32 × MS := (tkL (m_dk u) (m_tk u) d (m_v u).toNatClampNeg 0 0, u)
set_option maxHeartbeats 4000000 in
set_option maxRecDepth 100000 in
theorem c_X5_takenOn_4 {p : Program} {e : Env} {s : State} {m : MethodId} {args : Array Value} {below : List Frame} {meth : Method} {c : Code} (l : Launch) (G : gC) (A : Nat → Prop) (hM hTm hkd hsz hld hch hdk htk hme hte : Nat) (d : Int32) (C0 : gX p s m args meth c cX5_takenOn 4 wsX5_takenOn RX5 (some .int)) (hE : gE G A s) (u : MS) {H : Heap} {locs : List Loc} (hP : va_P (gD G) vwCl ((m_W (gI G) hM hTm hkd hsz hld hch hdk htk hme hte) u) H) (hD : va_D A ((m_W (gI G) hM hTm hkd hsz hld hch hdk htk hme hte) u)) (hok : m_ok u) (hS : va_S A s.heap H locs) {N : Nat} (hN70 : N ≤ 70) (hN : m_v u = nI N) {fv : Int32 × MS} : ∀ (k i : Nat), i + k = N → ∀ (x2 x3 : Int32), x3 = nI i → ∀ {ls : Array Slot}, lv_has ls 4 [(0, .ref hM), (1, .int d), (2, .int x2), (3, .int x3)] → (tkL (m_dk u) (m_tk u) d k i x2, u) = fv → W p l e ({ frames := 0, cells := 0, slots := 0, locals := 0 } : Room) s m args below meth c H locs 0 0 (MQ below (gQi G A (m_W (gI G) hM hTm hkd hsz hld hch hdk htk hme hte) m_ok fv) args s 0 0 A) (F0 m 4 ls []) := by
  obtain ⟨⟨hx, hb, hml, hown, hts⟩, hr, hlk⟩ := id C0
  have hok0 := hok
  have k0 := hts (.fieldLink RX5 37 "FerryDecksModel" "vehicles" "I") (by decide +kernel)
  have k1 := hts (.fieldLink RX5 25 "FerryDecksModel" "decks" "[I") (by decide +kernel)
  have k2 := hts (.fieldLink RX5 28 "FerryDecksModel" "taken" "[I") (by decide +kernel)
  have iX5 : ∀ w ∈ wsX50, w ∈ wsX5_takenOn := by decide +kernel
  intro k
  induction k with
  | zero =>
    intro i hik x2 x3 hx3 ls hl hfv
    refine lv_iload_n hx hb dX5_takenOn_4 rfl (lv_at hl 3 rfl) ?_
    refine lv_aload_n hx hb dX5_takenOn_5 rfl (lv_at hl 0 rfl) ?_
    refine va_get (D := gD G) (ci := 5) (v := .int (m_v u)) (C := RX5) (T := TX5) (N := 17) hx hb hts iX5 hown hE.1 hP 0 rfl rfl 1 (by decide) k0 (fun _ h9 => h9) rfl dX5_takenOn_6 ?_
    refine lv_icmp_ge (tgt := 41) hx hb dX5_takenOn_9 (by decide) (fun c9 => ?_) (fun c9 => ?_)
    · refine lv_iload_n hx hb dX5_takenOn_41 rfl (lv_at hl 2 rfl) ?_
      exact gRi (u := u) hx hb hr hlk hP hD hok hS (by rw [← hfv, tkL]) dX5_takenOn_42
    · exact absurd (by rw [hN, hx3]; exact nI_le (by omega) (by omega)) c9
  | succ k ih =>
    intro i hik x2 x3 hx3 ls hl hfv
    have hcl : x3.toNatClampNeg = i := by rw [hx3]; exact nI_clamp (by omega)
    refine lv_iload_n hx hb dX5_takenOn_4 rfl (lv_at hl 3 rfl) ?_
    refine lv_aload_n hx hb dX5_takenOn_5 rfl (lv_at hl 0 rfl) ?_
    refine va_get (D := gD G) (ci := 5) (v := .int (m_v u)) (C := RX5) (T := TX5) (N := 17) hx hb hts iX5 hown hE.1 hP 0 rfl rfl 1 (by decide) k0 (fun _ h9 => h9) rfl dX5_takenOn_6 ?_
    refine lv_icmp_ge (tgt := 41) hx hb dX5_takenOn_9 (by decide) (fun c9 => ?_) (fun c9 => ?_)
    · exact absurd c9 (by rw [hN, hx3]; exact nI_ge (by omega) (by omega))
    · refine lv_iload_n hx hb dX5_takenOn_12 rfl (lv_at hl 2 rfl) ?_
      refine lv_aload_n hx hb dX5_takenOn_13 rfl (lv_at hl 0 rfl) ?_
      refine va_get (D := gD G) (ci := 5) (v := .ref hdk) (C := RX5) (T := TX5) (N := 17) hx hb hts iX5 hown hE.1 hP 0 rfl rfl 6 (by decide) k1 (fun _ h9 => h9) rfl dX5_takenOn_14 ?_
      refine lv_iload_n hx hb dX5_takenOn_17 rfl (lv_at hl 3 rfl) ?_
      refine va_iald hx hb hE.1 hP 6 0 rfl rfl (by rw [hx3]; exact vp_in_nI (by omega) (by omega)) dX5_takenOn_18 ?_
      refine lv_iload_n hx hb dX5_takenOn_19 rfl (lv_at hl 1 rfl) ?_
      refine lv_icmp_ne (tgt := 32) hx hb dX5_takenOn_20 (by decide) (fun c20 => ?_) (fun c20 => ?_)
      · refine lv_iconst (v := 0) hx hb dX5_takenOn_32 (by decide) ?_
        refine lv_iadd hx hb dX5_takenOn_33 ?_
        refine lv_istore_n (lv' := [(2, .int (x2 + (0 : Int32))), (0, .ref hM), (1, .int d), (3, .int x3)]) hx hb dX5_takenOn_34 rfl hl (by decide) rfl (fun ls hl => ?_)
        refine lv_iinc (v := x3 + 1) (lv' := [(3, .int (x3 + 1)), (2, .int (x2 + (0 : Int32))), (0, .ref hM), (1, .int d)]) hx hb dX5_takenOn_35 hl (k := 3) rfl rfl (by decide) rfl (fun ls hl => ?_)
        refine lv_goto (tgt := 4) hx hb dX5_takenOn_38 (by decide) ?_
        exact ih (i + 1) (by omega) (x2 + (0 : Int32)) (x3 + 1) (by rw [hx3]; exact nI_1 i) (lv_sub hl [2, 3, 1, 0] rfl) (by rw [hcl] at c20; rw [← hfv, tkL, if_neg c20])
      · refine lv_aload_n hx hb dX5_takenOn_23 rfl (lv_at hl 0 rfl) ?_
        refine va_get (D := gD G) (ci := 5) (v := .ref htk) (C := RX5) (T := TX5) (N := 17) hx hb hts iX5 hown hE.1 hP 0 rfl rfl 7 (by decide) k2 (fun _ h9 => h9) rfl dX5_takenOn_24 ?_
        refine lv_iload_n hx hb dX5_takenOn_27 rfl (lv_at hl 3 rfl) ?_
        refine va_iald hx hb hE.1 hP 7 0 rfl rfl (by rw [hx3]; exact vp_in_nI (by omega) (by omega)) dX5_takenOn_28 ?_
        refine lv_goto (tgt := 33) hx hb dX5_takenOn_29 (by decide) ?_
        refine lv_iadd hx hb dX5_takenOn_33 ?_
        refine lv_istore_n (lv' := [(2, .int (x2 + (m_tk u (x3 : Int32).toNatClampNeg))), (0, .ref hM), (1, .int d), (3, .int x3)]) hx hb dX5_takenOn_34 rfl hl (by decide) rfl (fun ls hl => ?_)
        refine lv_iinc (v := x3 + 1) (lv' := [(3, .int (x3 + 1)), (2, .int (x2 + (m_tk u (x3 : Int32).toNatClampNeg))), (0, .ref hM), (1, .int d)]) hx hb dX5_takenOn_35 hl (k := 3) rfl rfl (by decide) rfl (fun ls hl => ?_)
        refine lv_goto (tgt := 4) hx hb dX5_takenOn_38 (by decide) ?_
        exact ih (i + 1) (by omega) (x2 + (m_tk u (x3 : Int32).toNatClampNeg)) (x3 + 1) (by rw [hx3]; exact nI_1 i) (lv_sub hl [2, 3, 1, 0] rfl) (by rw [hcl] at c20; rw [← hfv, tkL, if_pos c20, hcl])
set_option maxHeartbeats 4000000 in
set_option maxRecDepth 100000 in
theorem c_X5_takenOn (l : Launch) (G : gC) (A : Nat → Prop) (hM hTm hkd hsz hld hch hdk htk hme hte : Nat) (d : Int32) (u : MS) (hok : m_ok u) : CI l yX5_takenOn wsX5_takenOn ({ frames := 0, cells := 0, slots := 0, locals := 0 } : Room) G A (m_W (gI G) hM hTm hkd hsz hld hch hdk htk hme hte) m_ok [.ref hM, .int d] u (f_X5_takenOn d u) := by
  refine Met.ofW (cc := cX5_takenOn) (maxL := 4) (ret := (some .int)) (by decide) rfl ?_
  intro p e s m args below meth c s₁ B hml hv
  obtain ⟨rfl, hE, hP, hD⟩ := hv
  have hl := lv_entry ([.ref hM, .int d]) (n := 4) (Nat.le_of_ble_eq_true rfl)
  rw [lg_entry_eq]
  generalize (lg_sl ([.ref hM, .int d]) ++ List.replicate (4 - (lg_sl ([.ref hM, .int d])).length) Slot.unset).toArray = ls at hl ⊢
  have hl : lv_has ls 4 [(0, .ref hM), (1, .int d)] := hl
  have hx := B.exec
  have hb := B.bytes
  refine lv_iconst (v := 0) hx hb dX5_takenOn_0 (by decide) ?_
  refine lv_istore_n (lv' := [(2, .int 0), (0, .ref hM), (1, .int d)]) hx hb dX5_takenOn_1 rfl hl (by decide) rfl (fun ls hl => ?_)
  refine lv_iconst (v := 0) hx hb dX5_takenOn_2 (by decide) ?_
  refine lv_istore_n (lv' := [(3, .int 0), (2, .int 0), (0, .ref hM), (1, .int d)]) hx hb dX5_takenOn_3 rfl hl (by decide) rfl (fun ls hl => ?_)
  obtain ⟨N, hN, hv⟩ := nI_w (n := 70) (by omega) hok.1
  refine c_X5_takenOn_4 l G A hM hTm hkd hsz hld hch hdk htk hme hte d ⟨⟨B.exec, B.bytes, hml, findClass_of_methodNamed B.named, atoms_spec (ws := wsX5_takenOn) B.pre⟩, B.returns, B.notSynchronized⟩ hE u hP hD hok va_S.rf hN hv N 0 (by omega) 0 0 nI_0.symm (lv_sub hl [2, 3, 1, 0] rfl) ?_
  unfold f_X5_takenOn
  rw [hv, nI_clamp (by omega)]
