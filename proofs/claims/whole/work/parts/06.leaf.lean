-- FerryDecks.within
def f_X4_within (a0 : Int32) (a1 : Int32) (a2 : Int32) : Int32 :=
  (if a0 < a1 then (0 : Int32) else (if a2 < a0 then (0 : Int32) else (1 : Int32)))
set_option maxHeartbeats 4000000 in
set_option maxRecDepth 100000 in
theorem c_X4_within_0 {p : Program} {e : Env} {s : State} {m : MethodId} {args : Array Value} {below : List Frame} {meth : Method} {c : Code} (l : Launch) (G : gC) (A : Nat → Prop) (C0 : gX p s m args meth c cX4_within 3 wsX4_within RX4 (some .boolean)) (hE : gE G A s) (a0 : Int32) (a1 : Int32) (a2 : Int32) (hS : va_S A s.heap s.heap []) {ls : Array Slot} (hl : lv_has ls 3 [(0, .int a0), (1, .int a1), (2, .int a2)]) {fv : Int32} (hfv : f_X4_within a0 a1 a2 = fv) : W p l e ({ frames := 0, cells := 0, slots := 0, locals := 0 } : Room) s m args below meth c s.heap [] 0 0 (MQ below (vp_Si (fun r => r = fv)) args s 0 0 (fun _ => False)) (F0 m 0 ls []) := by
  obtain ⟨⟨hx, hb, hml, hown, hts⟩, hr, hlk⟩ := id C0
  refine lv_iload_n hx hb dX4_within_0 rfl (lv_at hl 0 rfl) ?_
  refine lv_iload_n hx hb dX4_within_1 rfl (lv_at hl 1 rfl) ?_
  refine lv_icmp_lt (tgt := 14) hx hb dX4_within_2 (by decide) (fun c2 => ?_) (fun c2 => ?_)
  · refine lv_iconst (v := 0) hx hb dX4_within_14 (by decide) ?_
    exact gRsz hx hb hr hlk (by decide) (by rw [← hfv, f_X4_within, if_pos c2]) dX4_within_15
  · refine lv_iload_n hx hb dX4_within_5 rfl (lv_at hl 0 rfl) ?_
    refine lv_iload_n hx hb dX4_within_6 rfl (lv_at hl 2 rfl) ?_
    refine lv_icmp_gt (tgt := 14) hx hb dX4_within_7 (by decide) (fun c7 => ?_) (fun c7 => ?_)
    · refine lv_iconst (v := 0) hx hb dX4_within_14 (by decide) ?_
      exact gRsz hx hb hr hlk (by decide) (by rw [← hfv, f_X4_within, if_neg c2, if_pos c7]) dX4_within_15
    · refine lv_iconst (v := 1) hx hb dX4_within_10 (by decide) ?_
      refine lv_goto (tgt := 15) hx hb dX4_within_11 (by decide) ?_
      exact gRsz hx hb hr hlk (by decide) (by rw [← hfv, f_X4_within, if_neg c2, if_neg c7]) dX4_within_15
set_option maxHeartbeats 4000000 in
set_option maxRecDepth 100000 in
theorem c_X4_within (l : Launch) (G : gC) (A : Nat → Prop) (a0 : Int32) (a1 : Int32) (a2 : Int32) : CS l yX4_within wsX4_within ({ frames := 0, cells := 0, slots := 0, locals := 0 } : Room) G A [.int a0, .int a1, .int a2] (f_X4_within a0 a1 a2) := by
  refine Met.ofW (cc := cX4_within) (maxL := 3) (ret := (some .boolean)) (by decide) rfl ?_
  intro p e s m args below meth c s₁ B hml hv
  obtain ⟨rfl, hE⟩ := hv
  have hl := lv_entry ([.int a0, .int a1, .int a2]) (n := 3) (Nat.le_of_ble_eq_true rfl)
  rw [lg_entry_eq]
  generalize (lg_sl ([.int a0, .int a1, .int a2]) ++ List.replicate (3 - (lg_sl ([.int a0, .int a1, .int a2])).length) Slot.unset).toArray = ls at hl ⊢
  exact c_X4_within_0 l G A ⟨⟨B.exec, B.bytes, hml, findClass_of_methodNamed B.named, atoms_spec (ws := wsX4_within) B.pre⟩, B.returns, B.notSynchronized⟩ hE a0 a1 a2 va_S.rf hl rfl

theorem within_iff (a b d : Int32) : f_X4_within a b d = if b ≤ a ∧ a ≤ d then 1 else 0 := by
  unfold f_X4_within
  by_cases h1 : a < b
  · rw [if_pos h1, if_neg (fun h => absurd h1 (Int32.not_lt.mpr h.1))]
  · rw [if_neg h1]
    by_cases h2 : d < a
    · rw [if_pos h2, if_neg (fun h => absurd h2 (Int32.not_lt.mpr h.2))]
    · rw [if_neg h2, if_pos ⟨Int32.not_lt.mp h1, Int32.not_lt.mp h2⟩]
theorem within_of {a b d : Int32} (h : ¬ f_X4_within a b d = 0) : b ≤ a ∧ a ≤ d := by
  rw [within_iff] at h
  by_cases h2 : b ≤ a ∧ a ≤ d
  · exact h2
  · rw [if_neg h2] at h; exact absurd rfl h
theorem nI_w {x : Int32} {n : Nat} (hn : n < 2 ^ 31) (h : 0 ≤ x ∧ x ≤ nI n) : ∃ j : Nat, j ≤ n ∧ x = nI j := by
  obtain ⟨j, hj, rfl⟩ := nI_of (x := x) (by rw [Int32.not_lt]; exact h.1)
  exact ⟨j, (nI_leI hj hn).mp h.2, rfl⟩
theorem ownIn {mb kd : Int32} (h1 : ¬ f_X4_within mb 0 6 = 0) (h2 : ¬ f_X4_within kd 0 9 = 0) : vp_in (10 * mb + kd) 70 := by
  obtain ⟨i, hi, rfl⟩ := nI_w (n := 6) (by omega) (within_of h1)
  obtain ⟨j, hj, rfl⟩ := nI_w (n := 9) (by omega) (within_of h2)
  rw [show (10 : Int32) = nI 10 from rfl, pk_mul, nI_add]
  exact vp_in_nI (by omega) (by omega)
theorem abvIn {kd : Int32} (h2 : ¬ f_X4_within kd 0 9 = 0) : vp_in kd 10 := by
  obtain ⟨j, hj, rfl⟩ := nI_w (n := 9) (by omega) (within_of h2)
  exact vp_in_nI (by omega) (by omega)

-- FerryDecks.ownerOf
def f_X4_ownerOf_k14 (mb : Int32) (kd : Int32) (q14 : Int32) : Int32 :=
  (if q14 = 0 then (-1 : Int32) else ownF ((((10 : Int32) * mb) + kd) : Int32).toNatClampNeg)
def f_X4_ownerOf_k4 (mb : Int32) (kd : Int32) (q4 : Int32) : Int32 :=
  (if q4 = 0 then (-1 : Int32) else (f_X4_ownerOf_k14 mb kd (f_X4_within kd (0 : Int32) (9 : Int32))))
def f_X4_ownerOf (mb : Int32) (kd : Int32) : Int32 :=
  (f_X4_ownerOf_k4 mb kd (f_X4_within mb (0 : Int32) (6 : Int32)))
set_option maxHeartbeats 4000000 in
set_option maxRecDepth 100000 in
theorem c_X4_ownerOf_0 {p : Program} {e : Env} {s : State} {m : MethodId} {args : Array Value} {below : List Frame} {meth : Method} {c : Code} (l : Launch) (G : gC) (A : Nat → Prop) (C0 : gX p s m args meth c cX4_ownerOf 2 wsX4_ownerOf RX4 (some .int)) (hE : gE G A s) (mb : Int32) (kd : Int32) (hS : va_S A s.heap s.heap []) {ls : Array Slot} (hl : lv_has ls 2 [(0, .int mb), (1, .int kd)]) {fv : Int32} (hfv : f_X4_ownerOf mb kd = fv) : W p l e ({ frames := 1, cells := 0, slots := 0, locals := 22 } : Room) s m args below meth c s.heap [] 0 0 (MQ below (vp_Si (fun r => r = fv)) args s 0 0 (fun _ => False)) (F0 m 0 ls []) := by
  obtain ⟨⟨hx, hb, hml, hown, hts⟩, hr, hlk⟩ := id C0
  have k0 := hts (.fieldLink RX4 146 "FerryDecks" "OWNERS" "[I") (by decide +kernel)
  refine lv_iload_n hx hb dX4_ownerOf_0 rfl (lv_at hl 0 rfl) ?_
  refine lv_iconst (v := 0) hx hb dX4_ownerOf_1 (by decide) ?_
  refine lv_bipush (v := 6) hx hb dX4_ownerOf_2 (by decide) ?_
  refine gSi (As := [.int mb, .int (0 : Int32), .int (6 : Int32)]) (rest := []) ⟨hx, hb, hml, hown, hts⟩ (c_X4_within l G A mb (0 : Int32) (6 : Int32)) (va_cwS 3 hts gX4_ownerOf_X4_within rfl rfl rfl (by decide +kernel) ⟨Nat.le_of_ble_eq_true rfl, Nat.le_of_ble_eq_true rfl⟩) hE hS rfl hl.1 rfl (Nat.le_of_ble_eq_true rfl) dX4_ownerOf_4 ⟨Nat.zero_le _, Nat.zero_le _⟩ (fun q4 e4 => ?_)
  refine lv_if_eq (tgt := 20) hx hb dX4_ownerOf_7 (by decide) (fun c7 => ?_) (fun c7 => ?_)
  · refine lv_iconst (v := -1) hx hb dX4_ownerOf_20 (by decide) ?_
    exact gRsi hx hb hr hlk (by rw [← hfv, f_X4_ownerOf, ← e4, f_X4_ownerOf_k4, if_pos c7]) dX4_ownerOf_21
  · refine lv_iload_n hx hb dX4_ownerOf_10 rfl (lv_at hl 1 rfl) ?_
    refine lv_iconst (v := 0) hx hb dX4_ownerOf_11 (by decide) ?_
    refine lv_bipush (v := 9) hx hb dX4_ownerOf_12 (by decide) ?_
    refine gSi (As := [.int kd, .int (0 : Int32), .int (9 : Int32)]) (rest := []) ⟨hx, hb, hml, hown, hts⟩ (c_X4_within l G A kd (0 : Int32) (9 : Int32)) (va_cwS 3 hts gX4_ownerOf_X4_within rfl rfl rfl (by decide +kernel) ⟨Nat.le_of_ble_eq_true rfl, Nat.le_of_ble_eq_true rfl⟩) hE hS rfl hl.1 rfl (Nat.le_of_ble_eq_true rfl) dX4_ownerOf_14 ⟨Nat.zero_le _, Nat.zero_le _⟩ (fun q14 e14 => ?_)
    refine lv_if_ne (tgt := 22) hx hb dX4_ownerOf_17 (by decide) (fun c17 => ?_) (fun c17 => ?_)
    · refine va_gets hx hb hE.2.2.1.1 hS hown k0 (fun _ h9 => h9) dX4_ownerOf_22 ?_
      refine lv_bipush (v := 10) hx hb dX4_ownerOf_25 (by decide) ?_
      refine lv_iload_n hx hb dX4_ownerOf_27 rfl (lv_at hl 0 rfl) ?_
      refine lv_imul hx hb dX4_ownerOf_28 ?_
      refine lv_iload_n hx hb dX4_ownerOf_29 rfl (lv_at hl 1 rfl) ?_
      refine lv_iadd hx hb dX4_ownerOf_30 ?_
      refine va_ti (v := .int (ownF ((((10 : Int32) * mb) + kd) : Int32).toNatClampNeg)) hx hb hE.2.2.1.2 hS (ownIn (by rw [← e4]; exact c7) (by rw [← e14]; exact c17)) rfl dX4_ownerOf_31 ?_
      exact gRsi hx hb hr hlk (by rw [← hfv, f_X4_ownerOf, ← e4, f_X4_ownerOf_k4, if_neg c7, ← e14, f_X4_ownerOf_k14, if_neg c17]) dX4_ownerOf_32
    · refine lv_iconst (v := -1) hx hb dX4_ownerOf_20 (by decide) ?_
      exact gRsi hx hb hr hlk (by rw [← hfv, f_X4_ownerOf, ← e4, f_X4_ownerOf_k4, if_neg c7, ← e14, f_X4_ownerOf_k14, if_pos c17]) dX4_ownerOf_21
set_option maxHeartbeats 4000000 in
set_option maxRecDepth 100000 in
theorem c_X4_ownerOf (l : Launch) (G : gC) (A : Nat → Prop) (mb : Int32) (kd : Int32) : CS l yX4_ownerOf wsX4_ownerOf ({ frames := 1, cells := 0, slots := 0, locals := 22 } : Room) G A [.int mb, .int kd] (f_X4_ownerOf mb kd) := by
  refine Met.ofW (cc := cX4_ownerOf) (maxL := 2) (ret := (some .int)) (by decide) rfl ?_
  intro p e s m args below meth c s₁ B hml hv
  obtain ⟨rfl, hE⟩ := hv
  have hl := lv_entry ([.int mb, .int kd]) (n := 2) (Nat.le_of_ble_eq_true rfl)
  rw [lg_entry_eq]
  generalize (lg_sl ([.int mb, .int kd]) ++ List.replicate (2 - (lg_sl ([.int mb, .int kd])).length) Slot.unset).toArray = ls at hl ⊢
  exact c_X4_ownerOf_0 l G A ⟨⟨B.exec, B.bytes, hml, findClass_of_methodNamed B.named, atoms_spec (ws := wsX4_ownerOf) B.pre⟩, B.returns, B.notSynchronized⟩ hE mb kd va_S.rf hl rfl
