theorem D_fst {A : Nat → Prop} {ws ws' : va_W} (h : ws'.map Prod.fst = ws.map Prod.fst) (hD : va_D A ws) : va_D A ws' := by
  have key : ∀ (k : Nat) (q : Nat × va_E), ws'[k]? = some q → ∃ q0, ws[k]? = some q0 ∧ q0.1 = q.1 := by
    intro k q hk
    have h1 : (ws'.map Prod.fst)[k]? = some q.1 := by rw [List.getElem?_map, hk]; rfl
    rw [h, List.getElem?_map] at h1
    cases h2 : ws[k]? with
    | none => rw [h2] at h1; cases h1
    | some q0 => rw [h2] at h1; exact ⟨q0, rfl, Option.some.inj h1⟩
  refine ⟨fun i j x y hi hj hxy => ?_, fun k q hk => ?_⟩
  · obtain ⟨x0, h1, h2⟩ := key i x hi
    obtain ⟨y0, h3, h4⟩ := key j y hj
    exact hD.1 i j x0 y0 h1 h3 (h2.trans (hxy.trans h4.symm))
  · obtain ⟨q0, h1, h2⟩ := key k q hk
    rw [← h2]
    exact hD.2 k q0 h1
theorem rl_fst (n : Nat) (ad : Nat → Nat) (F : Nat → va_E) : (rl n ad F).map Prod.fst = (List.range n).map ad := by
  unfold rl
  rw [List.map_map]
  rfl
/-- a vehicle and the bodies' cells out of the class's state, and back -/
def toB (u : FS) (j : Nat) : BS := (c_T u, c_fl u, c_z u, c_te u, c_kd u j, c_sz u j, c_ld u j, c_ch u j, c_dk u j, c_mt u j)
def frB (u : FS) (j : Nat) (b : BS) : FS := (upd (c_kd u) j (b_kd b), upd (c_sz u) j (b_sz b), upd (c_ld u) j (b_ld b), upd (c_ch u) j (b_ch b), upd (c_dk u) j (b_dk b), upd (c_mt u) j (b_mt b), c_dm u, c_tk u, c_vo u, b_T b, b_te b, b_fl b, b_z b, c_ac u, c_fa u, c_lr u, c_lp u, c_til u)
section CSUB
variable {G : gC} {hF hVs hDs hB hT hW hEn : Nat} {dd : Nat → Nat} {N : Nat} {ad : Nat → Nat} {A : Nat → Prop} {H H1 : Heap}
theorem c_D {u : FS} (u' : FS) (hD : va_D A (c_W G hF hVs hDs hB hT hW hEn dd N ad u)) : va_D A (c_W G hF hVs hDs hB hT hW hEn dd N ad u') := by
  refine D_fst ?_ hD
  simp only [List.map_append, rl_fst]
  rfl
def bMap (j k : Nat) : Nat := if k < 4 then k + 3 else 7 + 3 + j
theorem b_map (u : FS) {j : Nat} (hj : j < N) : ∀ (k : Nat) (q : Nat × va_E), (b_W (gI G) hB hT hW hEn (ad j) (toB u j))[k]? = some q → (c_W G hF hVs hDs hB hT hW hEn dd N ad u)[bMap j k]? = some q := by
  intro k q hk
  match k, hk with
  | 0, hk => exact hk
  | 1, hk => exact hk
  | 2, hk => exact hk
  | 3, hk => exact hk
  | 4, hk => exact (c_getV u hj).trans hk
  | k + 5, hk => simp at hk
def bA (hB hT hW hEn hV : Nat) : Nat → Prop := fun q => q = hB ∨ q = hT ∨ q = hW ∨ q = hEn ∨ q = hV
theorem b_P {u : FS} {j : Nat} (hj : j < N) (hP : va_P (gD G) vwCl (c_W G hF hVs hDs hB hT hW hEn dd N ad u) H) : va_P (gD G) vwCl (b_W (gI G) hB hT hW hEn (ad j) (toB u j)) H := hP.by (bMap j) (b_map u hj)
theorem b_D {u : FS} {j : Nat} (hj : j < N) (hD : va_D A (c_W G hF hVs hDs hB hT hW hEn dd N ad u)) : va_D (bA hB hT hW hEn (ad j)) (b_W (gI G) hB hT hW hEn (ad j) (toB u j)) := by
  have h0 : va_D A (b_W (gI G) hB hT hW hEn (ad j) (toB u j)) := by
    refine hD.by (bMap j) (b_map u hj) (fun a b ha hb h => ?_)
    have ha : a < 5 := ha
    have hb : b < 5 := hb
    unfold bMap at h
    split at h <;> split at h <;> omega
  refine h0.weaken (fun k q hk _ => ?_)
  match k, hk with
  | 0, hk => cases hk; exact Or.inl rfl
  | 1, hk => cases hk; exact Or.inr (Or.inl rfl)
  | 2, hk => cases hk; exact Or.inr (Or.inr (Or.inl rfl))
  | 3, hk => cases hk; exact Or.inr (Or.inr (Or.inr (Or.inl rfl)))
  | 4, hk => cases hk; exact Or.inr (Or.inr (Or.inr (Or.inr rfl)))
  | k + 5, hk => simp at hk
theorem b_A {u : FS} {j : Nat} (hj : j < N) (hD : va_D A (c_W G hF hVs hDs hB hT hW hEn dd N ad u)) : ∀ q, bA hB hT hW hEn (ad j) q → A q := by
  intro q h
  rcases h with h | h | h | h | h
  · rw [h]; exact hD.2 3 _ rfl
  · rw [h]; exact hD.2 4 _ rfl
  · rw [h]; exact hD.2 5 _ rfl
  · rw [h]; exact hD.2 6 _ rfl
  · rw [h]; exact hD.2 _ _ (c_getV u hj)
theorem b_nA {u : FS} {j : Nat} (hj : j < N) (hD : va_D A (c_W G hF hVs hDs hB hT hW hEn dd N ad u)) {k : Nat} {q : Nat × va_E} (hk : (c_W G hF hVs hDs hB hT hW hEn dd N ad u)[k]? = some q) (h : k < 3 ∨ (7 ≤ k ∧ k ≠ 7 + 3 + j)) : ¬ bA hB hT hW hEn (ad j) q.1 := by
  intro z
  rcases z with z | z | z | z | z
  · have := hD.1 k 3 _ _ hk rfl z; omega
  · have := hD.1 k 4 _ _ hk rfl z; omega
  · have := hD.1 k 5 _ _ hk rfl z; omega
  · have := hD.1 k 6 _ _ hk rfl z; omega
  · have := hD.1 k _ _ _ hk (c_getV u hj) z; omega
theorem c_back {u : FS} {j : Nat} {b : BS} (hj : j < N) (hP : va_P (gD G) vwCl (c_W G hF hVs hDs hB hT hW hEn dd N ad u) H) (hD : va_D A (c_W G hF hVs hDs hB hT hW hEn dd N ad u)) (hk : ∀ q : Nat, q < H.size → ¬ bA hB hT hW hEn (ad j) q → H1[q]? = H[q]?) (hB1 : va_P (gD G) vwCl (b_W (gI G) hB hT hW hEn (ad j) b) H1) : va_P (gD G) vwCl (c_W G hF hVs hDs hB hT hW hEn dd N ad (frB u j b)) H1 := by
  have old : ∀ (k : Nat) (q : Nat × va_E), (c_W G hF hVs hDs hB hT hW hEn dd N ad u)[k]? = some q → (k < 3 ∨ (7 ≤ k ∧ k ≠ 7 + 3 + j)) → va_at (gD G) vwCl q H1 := fun k q hq h => (hP k q hq).kept (hk q.1 (hP k q hq).lt (b_nA hj hD hq h))
  have h0 : va_P (gD G) vwCl (c_X G hF hVs hDs hB hT hW hEn dd N ad (frB u j b)) H1 := by
    intro k q hq
    match k, hq with
    | 0, hq => exact old 0 q hq (Or.inl (by omega))
    | 1, hq => exact old 1 q hq (Or.inl (by omega))
    | 2, hq => exact old 2 q hq (Or.inl (by omega))
    | 3, hq => exact hB1 0 q hq
    | 4, hq => exact hB1 1 q hq
    | 5, hq => exact hB1 2 q hq
    | 6, hq => exact hB1 3 q hq
    | k + 7, hq => simp at hq
  refine h0.app (va_P.app ?_ ?_)
  · intro k q hq
    obtain ⟨h3, rfl⟩ := rl_out hq
    exact old (7 + k) _ (c_getD u h3) (Or.inr (by omega))
  · intro k q hq
    obtain ⟨h3, rfl⟩ := rl_out hq
    by_cases hkj : k = j
    · subst hkj
      have := hB1 4 _ rfl
      simpa [c_FV, frB, upd, c_kd, c_sz, c_ld, c_ch, c_dk, c_mt] using this
    · have := old (7 + 3 + k) _ (c_getV u h3) (Or.inr (by omega))
      simpa [c_FV, frB, upd, hkj, c_kd, c_sz, c_ld, c_ch, c_dk, c_mt] using this
end CSUB
def CQ (l : Launch) (y : MethodName) (wy : List Cond) (rm : Room) (G : gC) (A : Nat → Prop) (ws : va_W) (av : List Value) (f : Option Nat) : Prop := Met l y wy rm (gP G A ws av) (va_Sq (fun r => r = f)) 0 0 (fun _ => False)
section CCALL
variable {p : Program} {l : Launch} {e : Env} {R : Room} {s : State} {m : MethodId} {args : Array Value} {below : List Frame} {meth : Method} {c : Code} {H : Heap} {locs : List Loc} {cells slots : Nat} {Q : State → Prop}
variable {pc : Nat} {ls : Array Slot} {rest st As : List Value} {G : gC} {A : Nat → Prop}
variable {y : MethodName} {bytes cc : ByteArray} {maxL nL n index : Nat} {ret : Option FieldType} {wy Ts : List Cond} {rm : Room} {own C : String} {b : Nat}
theorem gVq {f : Option Nat} {ws : va_W} (F : CallFix p m c cc nL s args Ts own) (hM : CQ l y wy rm G A ws (.ref b :: As) f) (cw : CallW R s args own C index y bytes maxL ret wy rm 0 0 n) (hE : gE G A s) (hP : va_P (gD G) vwCl ws H) (hD : va_D A ws) (hS : va_S A s.heap H locs) (hrec : ∃ cell : Cell, H[b]? = some cell ∧ cell.vm.isStatics = false ∧ s.vm.findClass C = some cell.cls) (hn : As.length = n) (hsz : ls.size = nL) (hst : st = As.reverse ++ .ref b :: rest) (hW : (rest.map fun v => v.category).sum ≤ 8) (hdg : decode cc pc = .ok (.invokevirtual index, 3)) (hf : cells ≤ R.cells ∧ slots ≤ R.slots)
    (kn : f = none → W p l e R s m args below meth c H locs cells slots Q (F0 m (pc + 3) ls (.null :: rest))) (ks : ∀ a : Nat, f = some a → W p l e R s m args below meth c H locs cells slots Q (F0 m (pc + 3) ls (.ref a :: rest))) : W p l e R s m args below meth c H locs cells slots Q (F0 m pc ls st) :=
  va_csq (va_Run.run (va_runV (rest := rest) F hM cw ⟨gP.blind, hrec, fun U hU hW1 => ⟨rfl, hE.to hS (fun _ h => h) hU hW1, by rw [hU]; exact hP, hD⟩⟩ rfl hn hsz hst (lv_room hW) hdg hf)) (fun r hr => by
    cases r with
    | none => exact kn hr.symm
    | some a => exact ks a hr.symm)
theorem gRq {f : Option Nat} {r : Option Nat} {C : String} {cc : ByteArray} (hx : p.tables.exec = Jvm.exec) (hb : c.code = cc) (hr : meth.sig.returnType = some (.object C)) (hlk : meth.locks = false) (he : r = f) (hdg : decode cc pc = .ok (.areturn, 1)) : W p l e R s m args below meth c s.heap [] cells slots (MQ below (va_Sq (fun r => r = f)) args s cells slots (fun _ => False)) (F0 m pc ls [va_rf r]) :=
  W.aret hx hb hr (Or.inl ⟨C, rfl⟩) (va_rf_or r) (fun t ht _ => ⟨r, rfl, he, ht⟩) (fun _ h => by cases h) hdg hlk
end CCALL
/-- the vehicle, the deck of a number -/
def f_X4_vehicleAt (N : Nat) (ad : Nat → Nat) (v : Int32) : Option Nat := if f_X4_within v 0 (nI N - 1) = 0 then none else vr N ad v.toNatClampNeg
def f_X4_deckAt (dd : Nat → Nat) (d : Int32) : Option Nat := if f_X4_within d 0 2 = 0 then none else vr 3 dd d.toNatClampNeg
theorem vAt_lt {N : Nat} (hN : N ≤ 70) {v : Int32} (h : ¬ f_X4_within v 0 (nI N - 1) = 0) : v.toNatClampNeg < N ∧ v = nI v.toNatClampNeg := by
  have h1 := within_of h
  cases N with
  | zero =>
    have h2 : v ≤ -1 := h1.2
    have h3 : (0 : Int32) ≤ -1 := Int32.le_trans h1.1 h2
    exact absurd h3 (by decide)
  | succ n =>
    rw [nI_pred] at h1
    obtain ⟨j, hj, rfl⟩ := nI_w (n := n) (by omega) h1
    rw [nI_clamp (by omega)]
    exact ⟨by omega, rfl⟩
theorem dAt_lt {d : Int32} (h : ¬ f_X4_within d 0 2 = 0) : d.toNatClampNeg < 3 ∧ d = nI d.toNatClampNeg := by
  obtain ⟨j, hj, rfl⟩ := nI_w (n := 2) (by omega) (within_of h)
  rw [nI_clamp (by omega)]
  exact ⟨by omega, rfl⟩
theorem vAt_none {N : Nat} {ad : Nat → Nat} (hN : N ≤ 70) {v : Int32} (h : f_X4_vehicleAt N ad v = none) : f_X4_within v 0 (nI N - 1) = 0 := by
  by_cases q : f_X4_within v 0 (nI N - 1) = 0
  · exact q
  · unfold f_X4_vehicleAt vr at h
    rw [if_neg q, if_pos (vAt_lt hN q).1] at h
    cases h
theorem vAt_some {N : Nat} {ad : Nat → Nat} (hN : N ≤ 70) {v : Int32} {a : Nat} (h : f_X4_vehicleAt N ad v = some a) : ¬ f_X4_within v 0 (nI N - 1) = 0 ∧ v.toNatClampNeg < N ∧ a = ad v.toNatClampNeg := by
  by_cases q : f_X4_within v 0 (nI N - 1) = 0
  · unfold f_X4_vehicleAt at h
    rw [if_pos q] at h
    cases h
  · unfold f_X4_vehicleAt vr at h
    rw [if_neg q, if_pos (vAt_lt hN q).1] at h
    exact ⟨q, (vAt_lt hN q).1, (Option.some.inj h).symm⟩
theorem dAt_none {dd : Nat → Nat} {v : Int32} (h : f_X4_deckAt dd v = none) : f_X4_within v 0 2 = 0 := by
  by_cases q : f_X4_within v 0 2 = 0
  · exact q
  · unfold f_X4_deckAt vr at h
    rw [if_neg q, if_pos (dAt_lt q).1] at h
    cases h
theorem dAt_some {dd : Nat → Nat} {v : Int32} {a : Nat} (h : f_X4_deckAt dd v = some a) : ¬ f_X4_within v 0 2 = 0 ∧ v.toNatClampNeg < 3 ∧ a = dd v.toNatClampNeg := by
  by_cases q : f_X4_within v 0 2 = 0
  · unfold f_X4_deckAt at h
    rw [if_pos q] at h
    cases h
  · unfold f_X4_deckAt vr at h
    rw [if_neg q, if_pos (dAt_lt q).1] at h
    exact ⟨q, (dAt_lt q).1, (Option.some.inj h).symm⟩
set_option maxHeartbeats 4000000 in
set_option maxRecDepth 100000 in
theorem c_X4_vehicleAt (l : Launch) (G : gC) (A : Nat → Prop) (hF hVs hDs hB hT hW hEn : Nat) (dd : Nat → Nat) (N : Nat) (ad : Nat → Nat) (hN : N ≤ 70) (v : Int32) (u : FS) : CQ l yX4_vehicleAt wsX4_vehicleAt ({ frames := 1, cells := 0, slots := 0, locals := 22 } : Room) G A (c_W G hF hVs hDs hB hT hW hEn dd N ad u) [.ref hF, .int v] (f_X4_vehicleAt N ad v) := by
  refine Met.ofW (cc := cX4_vehicleAt) (maxL := 2) (ret := (some (.object "FerryDecks$Vehicle"))) (by decide) rfl ?_
  intro p e s m args below meth c s₁ B hml hv
  obtain ⟨rfl, hE, hP, hD⟩ := hv
  have hl := lv_entry ([.ref hF, .int v]) (n := 2) (Nat.le_of_ble_eq_true rfl)
  rw [lg_entry_eq]
  generalize (lg_sl ([.ref hF, .int v]) ++ List.replicate (2 - (lg_sl ([.ref hF, .int v])).length) Slot.unset).toArray = ls at hl ⊢
  have hl : lv_has ls 2 [(0, .ref hF), (1, .int v)] := hl
  have hx := B.exec
  have hb := B.bytes
  have hr := B.returns
  have hlk := B.notSynchronized
  have hts := atoms_spec (ws := wsX4_vehicleAt) B.pre
  have hown : s.vm.findClass RX4 = some m.cls := findClass_of_methodNamed B.named
  have hS : va_S A s.heap s.heap [] := va_S.rf
  have iX4 : ∀ w ∈ wsX40, w ∈ wsX4_vehicleAt := by decide +kernel
  refine lv_iload_n hx hb dX4_vehicleAt_0 rfl (lv_at hl 1 rfl) ?_
  refine lv_iconst (v := 0) hx hb dX4_vehicleAt_1 (by decide) ?_
  refine lv_aload_n hx hb dX4_vehicleAt_2 rfl (lv_at hl 0 rfl) ?_
  refine va_get (D := gD G) (ci := 4) (v := .int (nI N)) (C := RX4) (T := TX4) (N := 9) hx hb hts iX4 hown hE.1 hP 0 rfl rfl 1 (by decide) (hts (.fieldLink RX4 49 "FerryDecks" "vehicleCount" "I") (by decide +kernel)) (fun _ h9 => h9) rfl dX4_vehicleAt_3 ?_
  refine lv_iconst (v := 1) hx hb dX4_vehicleAt_6 (by decide) ?_
  refine lv_isub hx hb dX4_vehicleAt_7 ?_
  refine gSi (As := [.int v, .int 0, .int (nI N - 1)]) (rest := []) ⟨hx, hb, hml, hown, hts⟩ (c_X4_within l G A v 0 (nI N - 1)) (va_cwS 3 hts gX4_vehicleAt_X4_within rfl rfl rfl (by decide +kernel) ⟨Nat.le_of_ble_eq_true rfl, Nat.le_of_ble_eq_true rfl⟩) hE hS rfl hl.1 rfl (Nat.le_of_ble_eq_true rfl) dX4_vehicleAt_8 ⟨Nat.zero_le _, Nat.zero_le _⟩ (fun q8 e8 => ?_)
  refine lv_if_eq (tgt := 23) hx hb dX4_vehicleAt_11 (by decide) (fun c11 => ?_) (fun c11 => ?_)
  · rw [e8] at c11
    refine lv_null hx hb dX4_vehicleAt_23 ?_
    exact gRq (r := none) hx hb hr hlk (by rw [f_X4_vehicleAt, if_pos c11]) dX4_vehicleAt_24
  · rw [e8] at c11
    refine lv_aload_n hx hb dX4_vehicleAt_14 rfl (lv_at hl 0 rfl) ?_
    refine va_get (D := gD G) (ci := 4) (v := .ref hVs) (C := RX4) (T := TX4) (N := 9) hx hb hts iX4 hown hE.1 hP 0 rfl rfl 0 (by decide) (hts (.fieldLink RX4 11 "FerryDecks" "vehicles" "[LFerryDecks$Vehicle;") (by decide +kernel)) (fun _ h9 => h9) rfl dX4_vehicleAt_15 ?_
    refine lv_iload_n hx hb dX4_vehicleAt_18 rfl (lv_at hl 1 rfl) ?_
    refine va_aldq hx hb hE.1 hP 1 1 rfl rfl (by obtain ⟨z1, z2⟩ := vAt_lt hN c11; rw [z2]; exact vp_in_nI (by omega) (by omega)) dX4_vehicleAt_19 ?_
    refine lv_goto (tgt := 24) hx hb dX4_vehicleAt_20 (by decide) ?_
    exact gRq hx hb hr hlk (by rw [f_X4_vehicleAt, if_neg c11]) dX4_vehicleAt_24
set_option maxHeartbeats 4000000 in
set_option maxRecDepth 100000 in
theorem c_X4_deckAt (l : Launch) (G : gC) (A : Nat → Prop) (hF hVs hDs hB hT hW hEn : Nat) (dd : Nat → Nat) (N : Nat) (ad : Nat → Nat) (hN : N ≤ 70) (v : Int32) (u : FS) : CQ l yX4_deckAt wsX4_deckAt ({ frames := 1, cells := 0, slots := 0, locals := 22 } : Room) G A (c_W G hF hVs hDs hB hT hW hEn dd N ad u) [.ref hF, .int v] (f_X4_deckAt dd v) := by
  refine Met.ofW (cc := cX4_deckAt) (maxL := 2) (ret := (some (.object "FerryDecks$Deck"))) (by decide) rfl ?_
  intro p e s m args below meth c s₁ B hml hv
  obtain ⟨rfl, hE, hP, hD⟩ := hv
  have hl := lv_entry ([.ref hF, .int v]) (n := 2) (Nat.le_of_ble_eq_true rfl)
  rw [lg_entry_eq]
  generalize (lg_sl ([.ref hF, .int v]) ++ List.replicate (2 - (lg_sl ([.ref hF, .int v])).length) Slot.unset).toArray = ls at hl ⊢
  have hl : lv_has ls 2 [(0, .ref hF), (1, .int v)] := hl
  have hx := B.exec
  have hb := B.bytes
  have hr := B.returns
  have hlk := B.notSynchronized
  have hts := atoms_spec (ws := wsX4_deckAt) B.pre
  have hown : s.vm.findClass RX4 = some m.cls := findClass_of_methodNamed B.named
  have hS : va_S A s.heap s.heap [] := va_S.rf
  have iX4 : ∀ w ∈ wsX40, w ∈ wsX4_deckAt := by decide +kernel
  refine lv_iload_n hx hb dX4_deckAt_0 rfl (lv_at hl 1 rfl) ?_
  refine lv_iconst (v := 0) hx hb dX4_deckAt_1 (by decide) ?_
  refine lv_iconst (v := 2) hx hb dX4_deckAt_2 (by decide) ?_
  refine gSi (As := [.int v, .int 0, .int 2]) (rest := []) ⟨hx, hb, hml, hown, hts⟩ (c_X4_within l G A v 0 2) (va_cwS 3 hts gX4_deckAt_X4_within rfl rfl rfl (by decide +kernel) ⟨Nat.le_of_ble_eq_true rfl, Nat.le_of_ble_eq_true rfl⟩) hE hS rfl hl.1 rfl (Nat.le_of_ble_eq_true rfl) dX4_deckAt_3 ⟨Nat.zero_le _, Nat.zero_le _⟩ (fun q8 e8 => ?_)
  refine lv_if_eq (tgt := 18) hx hb dX4_deckAt_6 (by decide) (fun c11 => ?_) (fun c11 => ?_)
  · rw [e8] at c11
    refine lv_null hx hb dX4_deckAt_18 ?_
    exact gRq (r := none) hx hb hr hlk (by rw [f_X4_deckAt, if_pos c11]) dX4_deckAt_19
  · rw [e8] at c11
    refine lv_aload_n hx hb dX4_deckAt_9 rfl (lv_at hl 0 rfl) ?_
    refine va_get (D := gD G) (ci := 4) (v := .ref hDs) (C := RX4) (T := TX4) (N := 9) hx hb hts iX4 hown hE.1 hP 0 rfl rfl 2 (by decide) (hts (.fieldLink RX4 17 "FerryDecks" "decks" "[LFerryDecks$Deck;") (by decide +kernel)) (fun _ h9 => h9) rfl dX4_deckAt_10 ?_
    refine lv_iload_n hx hb dX4_deckAt_13 rfl (lv_at hl 1 rfl) ?_
    refine va_aldq hx hb hE.1 hP 2 2 rfl rfl (by obtain ⟨z1, z2⟩ := dAt_lt c11; rw [z2]; exact vp_in_nI (by omega) (by omega)) dX4_deckAt_14 ?_
    refine lv_goto (tgt := 19) hx hb dX4_deckAt_15 (by decide) ?_
    exact gRq hx hb hr hlk (by rw [f_X4_deckAt, if_neg c11]) dX4_deckAt_19
