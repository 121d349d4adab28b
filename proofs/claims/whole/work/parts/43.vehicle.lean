def c_new (u : FS) (N : Nat) (x y z : Int32) : FS := (upd (c_kd u) N x, upd (c_sz u) N y, upd (c_ld u) N z, upd (c_ch u) N 0, upd (c_dk u) N (-1), upd (c_mt u) N 0, u.2.2.2.2.2.2)
def f_X4_vehicle (N : Nat) (x y z : Int32) (u : FS) : Int32 × Nat × FS := if f_X4_within x 1 9 = 0 then (-1, N, u) else if f_X4_within y 1 100 = 0 then (-1, N, u) else if f_X4_within z 0 100000 = 0 then (-1, N, u) else if nI N < 70 then (nI N, N + 1, c_new u N x y z) else (-2, N, u)
theorem vr_new {N : Nat} {ad : Nat → Nat} {q : Nat} : vr (N + 1) (va_up ad N q) = va_up (vr N ad) N (some q) := by
  funext j
  by_cases h : j = N
  · subst h; simp [vr, va_up]
  · by_cases h2 : j < N
    · simp [vr, va_up, h, h2, Nat.lt_succ_of_lt h2]
    · simp [vr, va_up, h, h2, show ¬ j < N + 1 by omega]
theorem FV_new {u : FS} {N q : Nat} {ad : Nat → Nat} {x y z : Int32} : rl (N + 1) (va_up ad N q) (c_FV (c_new u N x y z)) = rl N ad (c_FV u) ++ [(q, .inr (3, [.int x, .int y, .int z, .int 0, .int (-1), .int 0]))] := by
  rw [rl_push]
  apply rl_congr
  intro j _
  by_cases h : j = N
  · subst h; simp [c_FV, c_new, va_up, upd, c_kd, c_sz, c_ld, c_ch, c_dk, c_mt]
  · simp [c_FV, c_new, va_up, upd, h, c_kd, c_sz, c_ld, c_ch, c_dk, c_mt]
set_option maxHeartbeats 4000000 in
set_option maxRecDepth 100000 in
theorem c_X4_vehicle (l : Launch) (G : gC) (A : Nat → Prop) (hF hVs hDs hB hT hW hEn : Nat) (dd : Nat → Nat) (N : Nat) (ad : Nat → Nat) (hN : N ≤ 70) (sz : Nat) (hA0 : ∀ q, sz ≤ q → A q) (x y z : Int32) (u : FS) (hok : c_ok u) : Met l yX4_vehicle wsX4_vehicle ({ frames := 2, cells := 1, slots := 6, locals := 42 } : Room) (gPs G A sz (c_W G hF hVs hDs hB hT hW hEn dd N ad u) (fun _ => True) [.ref hF, .int x, .int y, .int z]) (va_Qi (fun r (w : Nat × (Nat → Nat) × FS) => (r, w.1, w.2.2) = f_X4_vehicle N x y z u ∧ w.1 ≤ 70) (fun w t => va_P (gD G) vwCl (c_W G hF hVs hDs hB hT hW hEn dd w.1 w.2.1 w.2.2) t.heap ∧ va_D A (c_W G hF hVs hDs hB hT hW hEn dd w.1 w.2.1 w.2.2) ∧ c_ok w.2.2) A) 1 6 A := by
  refine Met.ofW (cc := cX4_vehicle) (maxL := 5) (ret := (some .int)) (by decide) rfl ?_
  intro p e s m args below meth c s₁ B hml hv
  obtain ⟨rfl, hsz, hE, hP, hD, -⟩ := hv
  subst hsz
  have hA : ∀ q, s.heap.size ≤ q → A q := hA0
  have hx := B.exec
  have hb := B.bytes
  have hr := B.returns
  have hlk := B.notSynchronized
  have hts := atoms_spec (ws := wsX4_vehicle) B.pre
  have hown : s.vm.findClass RX4 = some m.cls := findClass_of_methodNamed B.named
  have hS : va_S A s.heap s.heap [] := va_S.rf
  have iX4 : ∀ w ∈ wsX40, w ∈ wsX4_vehicle := by decide +kernel
  have iX3 : ∀ w ∈ wsX30, w ∈ wsX4_vehicle := by decide +kernel
  have kvc := hts (.fieldLink RX4 49 "FerryDecks" "vehicleCount" "I") (by decide +kernel)
  have hl := lv_entry ([.ref hF, .int x, .int y, .int z]) (n := 5) (Nat.le_of_ble_eq_true rfl)
  rw [lg_entry_eq]
  generalize (lg_sl ([.ref hF, .int x, .int y, .int z]) ++ List.replicate (5 - (lg_sl ([.ref hF, .int x, .int y, .int z])).length) Slot.unset).toArray = ls at hl ⊢
  have hl : lv_has ls 5 [(0, .ref hF), (1, .int x), (2, .int y), (3, .int z)] := hl
  refine lv_iload_n hx hb dX4_vehicle_0 rfl (lv_at hl 1 rfl) ?_
  refine lv_iconst (v := 1) hx hb dX4_vehicle_1 (by decide) ?_
  refine lv_bipush (v := 9) hx hb dX4_vehicle_2 (by decide) ?_
  refine gSi (As := [.int x, .int 1, .int 9]) (rest := []) ⟨hx, hb, hml, hown, hts⟩ (c_X4_within l G A x 1 9) (va_cwS 3 hts gX4_vehicle_X4_within rfl rfl rfl (by decide +kernel) ⟨Nat.le_of_ble_eq_true rfl, Nat.le_of_ble_eq_true rfl⟩) hE hS rfl hl.1 rfl (Nat.le_of_ble_eq_true rfl) dX4_vehicle_4 ⟨Nat.zero_le _, Nat.zero_le _⟩ (fun q4 e4 => ?_)
  rw [e4]
  refine lv_if_eq (tgt := 30) hx hb dX4_vehicle_7 (by decide) (fun c7 => ?_) (fun c7 => ?_)
  · refine lv_iconst (v := -1) hx hb dX4_vehicle_30 (by decide) ?_
    refine W.widen (k := 1) (n := 6) (by omega) (by omega) ?_
    exact W.iret (v := -1) hx hb hr (fun t ht _ => ⟨⟨-1, (N, ad, u), rfl, ⟨by rw [f_X4_vehicle, if_pos c7], hN⟩, by rw [ht]; exact hP, hD, hok⟩, hS.F ht⟩) hS.2.2 dX4_vehicle_31 hlk
  refine lv_iload_n hx hb dX4_vehicle_10 rfl (lv_at hl 2 rfl) ?_
  refine lv_iconst (v := 1) hx hb dX4_vehicle_11 (by decide) ?_
  refine lv_bipush (v := 100) hx hb dX4_vehicle_12 (by decide) ?_
  refine gSi (As := [.int y, .int 1, .int 100]) (rest := []) ⟨hx, hb, hml, hown, hts⟩ (c_X4_within l G A y 1 100) (va_cwS 3 hts gX4_vehicle_X4_within rfl rfl rfl (by decide +kernel) ⟨Nat.le_of_ble_eq_true rfl, Nat.le_of_ble_eq_true rfl⟩) hE hS rfl hl.1 rfl (Nat.le_of_ble_eq_true rfl) dX4_vehicle_14 ⟨Nat.zero_le _, Nat.zero_le _⟩ (fun q14 e14 => ?_)
  rw [e14]
  refine lv_if_eq (tgt := 30) hx hb dX4_vehicle_17 (by decide) (fun c17 => ?_) (fun c17 => ?_)
  · refine lv_iconst (v := -1) hx hb dX4_vehicle_30 (by decide) ?_
    refine W.widen (k := 1) (n := 6) (by omega) (by omega) ?_
    exact W.iret (v := -1) hx hb hr (fun t ht _ => ⟨⟨-1, (N, ad, u), rfl, ⟨by rw [f_X4_vehicle, if_neg c7, if_pos c17], hN⟩, by rw [ht]; exact hP, hD, hok⟩, hS.F ht⟩) hS.2.2 dX4_vehicle_31 hlk
  refine lv_iload_n hx hb dX4_vehicle_20 rfl (lv_at hl 3 rfl) ?_
  refine lv_iconst (v := 0) hx hb dX4_vehicle_21 (by decide) ?_
  refine lv_ldc hx hb hown (hts (.constant RX4 48 100000) (by decide +kernel)) dX4_vehicle_22 ?_
  refine gSi (As := [.int z, .int 0, .int 100000]) (rest := []) ⟨hx, hb, hml, hown, hts⟩ (c_X4_within l G A z 0 100000) (va_cwS 3 hts gX4_vehicle_X4_within rfl rfl rfl (by decide +kernel) ⟨Nat.le_of_ble_eq_true rfl, Nat.le_of_ble_eq_true rfl⟩) hE hS rfl hl.1 rfl (Nat.le_of_ble_eq_true rfl) dX4_vehicle_24 ⟨Nat.zero_le _, Nat.zero_le _⟩ (fun q24 e24 => ?_)
  rw [e24]
  refine lv_if_ne (tgt := 32) hx hb dX4_vehicle_27 (by decide) (fun c27 => ?_) (fun c27 => ?_)
  rotate_left
  · refine lv_iconst (v := -1) hx hb dX4_vehicle_30 (by decide) ?_
    refine W.widen (k := 1) (n := 6) (by omega) (by omega) ?_
    exact W.iret (v := -1) hx hb hr (fun t ht _ => ⟨⟨-1, (N, ad, u), rfl, ⟨by rw [f_X4_vehicle, if_neg c7, if_neg c17, if_pos c27], hN⟩, by rw [ht]; exact hP, hD, hok⟩, hS.F ht⟩) hS.2.2 dX4_vehicle_31 hlk
  refine lv_aload_n hx hb dX4_vehicle_32 rfl (lv_at hl 0 rfl) ?_
  refine va_get (D := gD G) (ci := 4) (v := .int (nI N)) (C := RX4) (T := TX4) (N := 9) hx hb hts iX4 hown hE.1 hP 0 rfl rfl 1 (by decide) kvc (fun _ h9 => h9) rfl dX4_vehicle_33 ?_
  refine lv_bipush (v := 70) hx hb dX4_vehicle_36 (by decide) ?_
  refine lv_icmp_lt (tgt := 44) hx hb dX4_vehicle_38 (by decide) (fun c38 => ?_) (fun c38 => ?_)
  rotate_left
  · refine lv_bipush (v := -2) hx hb dX4_vehicle_41 (by decide) ?_
    refine W.widen (k := 1) (n := 6) (by omega) (by omega) ?_
    exact W.iret (v := -2) hx hb hr (fun t ht _ => ⟨⟨-2, (N, ad, u), rfl, ⟨by rw [f_X4_vehicle, if_neg c7, if_neg c17, if_neg c27, if_neg c38], hN⟩, by rw [ht]; exact hP, hD, hok⟩, hS.F ht⟩) hS.2.2 dX4_vehicle_43 hlk
  have hN2 : N < 70 := by
    have h2 : nI N < nI 70 := c38
    rw [nI_ltI (by omega) (by omega)] at h2
    exact h2
  refine lv_aload_n hx hb dX4_vehicle_44 rfl (lv_at hl 0 rfl) ?_
  refine va_get (D := gD G) (ci := 4) (v := .int (nI N)) (C := RX4) (T := TX4) (N := 9) hx hb hts iX4 hown hE.1 hP 0 rfl rfl 1 (by decide) kvc (fun _ h9 => h9) rfl dX4_vehicle_45 ?_
  refine lv_istore (lv' := [(4, .int (nI N)), (0, .ref hF), (1, .int x), (2, .int y), (3, .int z)]) hx hb dX4_vehicle_48 hl (by decide) rfl (fun ls hl => ?_)
  refine lv_aload_n hx hb dX4_vehicle_50 rfl (lv_at hl 1 rfl) ?_
  refine va_get (D := gD G) (ci := 4) (v := .ref hVs) (C := RX4) (T := TX4) (N := 9) hx hb hts iX4 hown hE.1 hP 0 rfl rfl 0 (by decide) (hts (.fieldLink RX4 11 "FerryDecks" "vehicles" "[LFerryDecks$Vehicle;") (by decide +kernel)) (fun _ h9 => h9) rfl dX4_vehicle_51 ?_
  refine lv_iload hx hb dX4_vehicle_54 (lv_at hl 0 rfl) ?_
  refine va_new (ci := 3) (fs := [.int 0, .int 0, .int 0, .int 0, .int 0, .int 0]) (C := RX3) (T := TX3) (N := 6) hx hb hts iX3 tyX3 tyX3_ok hown (hts (.classLink RX4 9 RX3) (by decide +kernel)) (hts (.instantiable RX3 6) (by decide +kernel)) (hts (.initialized RX3) (by decide +kernel)) hE.1 hP hD hS hA rfl (fun j hj => by rcases (show j = 0 ∨ j = 1 ∨ j = 2 ∨ j = 3 ∨ j = 4 ∨ j = 5 by omega) with rfl | rfl | rfl | rfl | rfl | rfl <;> rfl) (Nat.le_of_ble_eq_true rfl) (Nat.le_of_ble_eq_true rfl) dX4_vehicle_56 (fun qv H hP hD hS => ?_)
  refine lv_dup hx hb dX4_vehicle_59 rfl ?_
  refine lv_iload_n hx hb dX4_vehicle_60 rfl (lv_at hl 2 rfl) ?_
  refine lv_iload_n hx hb dX4_vehicle_61 rfl (lv_at hl 3 rfl) ?_
  refine lv_iload_n hx hb dX4_vehicle_62 rfl (lv_at hl 4 rfl) ?_
  have hq : ∀ E : va_E, ((c_W G hF hVs hDs hB hT hW hEn dd N ad u) ++ [(qv, E)])[(c_W G hF hVs hDs hB hT hW hEn dd N ad u).length]? = some (qv, E) := fun E => by rw [List.getElem?_append_right (Nat.le_refl _), Nat.sub_self]; rfl
  have hPW : va_P (gD G) vwCl (c_W G hF hVs hDs hB hT hW hEn dd N ad u) H := hP.by id (fun k q hk => by show ((c_W G hF hVs hDs hB hT hW hEn dd N ad u) ++ [(qv, _)])[k]? = some q; rw [List.getElem?_append_left (List.getElem?_eq_some_iff.mp hk).1]; exact hk)
  have hne : ∀ (k : Nat) (q : Nat × va_E), (c_W G hF hVs hDs hB hT hW hEn dd N ad u)[k]? = some q → ¬ q.1 = qv := fun k q hk h => by
    have hlt := (List.getElem?_eq_some_iff.mp hk).1
    have := hD.1 k (c_W G hF hVs hDs hB hT hW hEn dd N ad u).length q _ (by rw [List.getElem?_append_left hlt]; exact hk) (hq _) h
    omega
  have hPc : va_P (gD G) vwCl [(qv, .inr (3, [.int 0, .int 0, .int 0, .int 0, .int 0, .int 0]))] H := fun k q hk => by
    match k, hk with
    | 0, hk => cases hk; exact hP _ _ (hq _)
    | k + 1, hk => simp at hk
  have hDc : va_D (fun q => q = qv) [(qv, (.inr (3, [.int 0, .int 0, .int 0, .int 0, .int 0, .int 0]) : va_E))] := ⟨fun i j a b hi hj _ => by
    have h1 := (List.getElem?_eq_some_iff.mp hi).1
    have h2 := (List.getElem?_eq_some_iff.mp hj).1
    simp at h1 h2
    omega, fun k q hk => by
    match k, hk with
    | 0, hk => cases hk; rfl
    | k + 1, hk => simp at hk⟩
  have hFc : ∀ q, q = qv → A q := fun q h => by rw [h]; exact hD.2 _ _ (hq _)
  refine va_callv (va_runI (As := [.int x, .int y, .int z]) (rest := [.ref qv, .int (nI N), .ref hVs]) ⟨hx, hb, hml, hown, hts⟩ (c_X3_init l G (fun q => q = qv) qv x y z) (cwI 3 hts gX4_vehicle_X3_init rfl rfl rfl (hts (.initialized RX3) (by decide +kernel)) (hts (.methodLink RX4 52 yX3_init) (by decide +kernel)) (hts (.instanceMethod yX3_init) (by decide +kernel)) rfl (by decide +kernel) ⟨Nat.le_of_ble_eq_true rfl, Nat.le_of_ble_eq_true rfl⟩) ⟨gP.blind, fun U hU hW => ⟨rfl, hE.to hS hFc hU hW, by rw [hU]; exact hPc, hDc⟩⟩ rfl rfl hl.1 rfl (lv_room (Nat.le_of_ble_eq_true rfl)) dX4_vehicle_63 ⟨Nat.le_of_ble_eq_true rfl, Nat.le_of_ble_eq_true rfl⟩) hS (fun q _ h => hFc q h) hFc (fun _ t H1 locs ht hvm hw hB1 hz1 hk1 hS => ?_)
  obtain ⟨hP1, -⟩ := hB1
  rw [ht] at hP1
  have hP : va_P (gD G) vwCl ((c_W G hF hVs hDs hB hT hW hEn dd N ad u) ++ [(qv, .inr (3, [.int x, .int y, .int z, .int 0, .int (-1), .int 0]))]) H1 := (hPW.kept (fun k q hk => hk1 q.1 (hPW k q hk).lt (hne k q hk))).app hP1
  have hD : va_D A ((c_W G hF hVs hDs hB hT hW hEn dd N ad u) ++ [(qv, .inr (3, [.int x, .int y, .int z, .int 0, .int (-1), .int 0]))]) := D_fst (by simp only [List.map_append]; rfl) hD
  generalize H1 = H at hP hS ⊢
  refine va_astq hx hb hE.1 hP hD hS 1 1 (c_W G hF hVs hDs hB hT hW hEn dd N ad u).length 3 (r := (RX3, TX3, 6)) rfl rfl (hq _) rfl (show vp_in (nI N) 70 from vp_in_nI hN2 (by omega)) dX4_vehicle_66 (fun H locs hP hD hS => ?_)
  refine lv_aload_n hx hb dX4_vehicle_67 rfl (lv_at hl 1 rfl) ?_
  refine lv_dup hx hb dX4_vehicle_68 rfl ?_
  refine va_get (D := gD G) (ci := 4) (v := .int (nI N)) (C := RX4) (T := TX4) (N := 9) hx hb hts iX4 hown hE.1 hP 0 rfl rfl 1 (by decide) kvc (fun _ h9 => h9) rfl dX4_vehicle_69 ?_
  refine lv_iconst (v := 1) hx hb dX4_vehicle_72 (by decide) ?_
  refine lv_iadd hx hb dX4_vehicle_73 ?_
  refine va_put (D := gD G) (ci := 4) (v := .int (nI N + 1)) (ty := .int) (C := RX4) (T := TX4) (N := 9) hx hb hts iX4 tyX4 tyX4_ok nmX4 hown hE.1 hP hD hS 0 rfl rfl 1 (by decide) kvc (fun _ h9 => h9) rfl (by decide +kernel) rfl rfl (Nat.le_of_ble_eq_true rfl) dX4_vehicle_74 (fun H locs hP hD hS => ?_)
  refine lv_iload hx hb dX4_vehicle_77 (lv_at hl 0 rfl) ?_
  have heq : c_W G hF hVs hDs hB hT hW hEn dd (N + 1) (va_up ad N qv) (c_new u N x y z) = ([(hF, .inr (4, [.ref hVs, .int (nI N + 1), .ref hDs, .ref hB, .int (c_ac u), .int (c_fa u), .int (c_lr u), .int (c_lp u), .long (c_til u)])), (hVs, .inl (gV G, 70, .inr (.inr (.inr (.inr (va_up (vr N ad) (nI N).toNatClampNeg (some qv))))))), (hDs, .inl (gQ G, 3, .inr (.inr (.inr (.inr (vr 3 dd)))))), (hB, .inr (0, [.ref hT, .ref hW, .int (c_fl u)])), (hT, .inl (gI G, 8, .inl (c_T u))), (hW, .inr (2, [.ref hEn, .int (c_z u)])), (hEn, .inl (gI G, 400, .inl (c_te u)))] ++ (rl 3 dd (c_FD u) ++ rl N ad (c_FV u))) ++ [(qv, .inr (3, [.int x, .int y, .int z, .int 0, .int (-1), .int 0]))] := by
    rw [List.append_assoc, List.append_assoc]
    show c_X G hF hVs hDs hB hT hW hEn dd (N + 1) (va_up ad N qv) (c_new u N x y z) ++ (rl 3 dd (c_FD u) ++ rl (N + 1) (va_up ad N qv) (c_FV (c_new u N x y z))) = _
    rw [FV_new]
    refine congrArg (fun w => w ++ (rl 3 dd (c_FD u) ++ (rl N ad (c_FV u) ++ [(qv, .inr (3, [.int x, .int y, .int z, .int 0, .int (-1), .int 0]))]))) ?_
    show [(hF, _), (hVs, _), _, _, _, _, _] = _
    rw [vr_new, nI_succ, nI_clamp (by omega)]
    rfl
  have hP9 : va_P (gD G) vwCl (c_W G hF hVs hDs hB hT hW hEn dd (N + 1) (va_up ad N qv) (c_new u N x y z)) H := by rw [heq]; exact hP
  have hD9 : va_D A (c_W G hF hVs hDs hB hT hW hEn dd (N + 1) (va_up ad N qv) (c_new u N x y z)) := by rw [heq]; exact hD
  refine W.widen (k := 1) (n := 6) (by omega) (by omega) ?_
  exact W.iret (v := nI N) hx hb hr (fun t ht _ => ⟨⟨nI N, (N + 1, va_up ad N qv, c_new u N x y z), rfl, ⟨by rw [f_X4_vehicle, if_neg c7, if_neg c17, if_neg c27, if_pos c38], by omega⟩, by rw [ht]; exact hP9, hD9, hok⟩, hS.F ht⟩) hS.2.2 dX4_vehicle_79 hlk
