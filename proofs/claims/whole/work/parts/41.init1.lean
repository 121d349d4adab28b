/-! ===== arrays that are made; constructors ===== -/
theorem raEq {s : State} {c1 c2 : ClassId} {ty : FieldType} (h1 : va_RA s c1 ty) (h2 : va_RA s c2 ty) : c1 = c2 := by
  cases ty with
  | object C =>
    obtain ⟨_, _, _, _, _, a⟩ := h1
    obtain ⟨_, _, _, _, _, b⟩ := h2
    exact Option.some.inj (a.symm.trans b)
  | _ => exact Option.some.inj (Eq.trans (Eq.symm h1) h2)
section GNEW
variable {p : Program} {l : Launch} {e : Env} {R : Room} {s : State} {m : MethodId} {args : Array Value} {below : List Frame} {meth : Method} {c : Code} {H : Heap} {locs : List Loc} {cells slots : Nat} {Q : State → Prop}
variable {cc : ByteArray} {pc : Nat} {ls : Array Slot} {rest : List Value} {G : gC} {A : Nat → Prop} {ws : va_W}
theorem gNewI (hx : p.tables.exec = Jvm.exec) (hb : c.code = cc) (harr : (Cond.arrayClass .int).before args s = true) (hE : gE G A s) (hP : va_P (gD G) vwCl ws H) (hD : va_D A ws) (hS : va_S A s.heap H locs) (hA : ∀ q, s.heap.size ≤ q → A q) {n : Int32} {N' : Nat} (hn : ¬ n < 0) (hN : n.toNatClampNeg = N') (hbytes : N' * 4 ≤ 536870912) (hcells : cells + 1 ≤ R.cells) (hslots : slots + N' ≤ R.slots) (hdg : decode cc pc = .ok (.newarray .int, 2))
    (kk : ∀ (q : Nat) (H1 : Heap), va_P (gD G) vwCl (ws ++ [(q, .inl (gI G, N', .inl (fun _ => 0)))]) H1 → va_D A (ws ++ [(q, .inl (gI G, N', .inl (fun _ => 0)))]) → va_S A s.heap H1 locs → W p l e R s m args below meth c H1 locs (cells + 1) (slots + N') Q (F0 m (pc + 2) ls (.ref q :: rest))) : W p l e R s m args below meth c H locs cells slots Q (F0 m pc ls (.int n :: rest)) := by
  refine va_newa (atype := .int) hx hb harr (ty := .int) rfl hE.1 hP hD hS hA (a0 := (N', .inl (fun _ => 0))) (fun cA => rfl) hn hN hbytes hcells hslots hdg (fun q cA H1 hK1 hP1 hD1 hS1 => ?_)
  obtain rfl : cA = gI G := raEq (hK1.2 3 _ rfl).2 (hE.1.2 0 _ rfl).2
  exact kk q H1 hP1 hD1 hS1
theorem gNewV {own : String} {index : Nat} (hx : p.tables.exec = Jvm.exec) (hb : c.code = cc) (hown : s.vm.findClass own = some m.cls) (hcl : (Cond.classLink own index RX3).before args s = true) (hov : va_AO RX3 s) (hE : gE G A s) (hP : va_P (gD G) vwCl ws H) (hD : va_D A ws) (hS : va_S A s.heap H locs) (hA : ∀ q, s.heap.size ≤ q → A q) {n : Int32} {N' : Nat} (hn : ¬ n < 0) (hN : n.toNatClampNeg = N') (hbytes : N' * 4 ≤ 536870912) (hcells : cells + 1 ≤ R.cells) (hslots : slots + N' ≤ R.slots) (hdg : decode cc pc = .ok (.anewarray index, 3))
    (kk : ∀ (q : Nat) (H1 : Heap), va_P (gD G) vwCl (ws ++ [(q, .inl (gV G, N', .inr (.inr (.inr (.inr (fun _ => none))))))]) H1 → va_D A (ws ++ [(q, .inl (gV G, N', .inr (.inr (.inr (.inr (fun _ => none))))))]) → va_S A s.heap H1 locs → W p l e R s m args below meth c H1 locs (cells + 1) (slots + N') Q (F0 m (pc + 3) ls (.ref q :: rest))) : W p l e R s m args below meth c H locs cells slots Q (F0 m pc ls (.int n :: rest)) := by
  refine va_newq hx hb hown hcl hov hE.1 hP hD hS hA hn hN hbytes hcells hslots hdg (fun q cA H1 hK1 hP1 hD1 hS1 => ?_)
  obtain rfl : cA = gV G := raEq (hK1.2 3 _ rfl).2 (hE.1.2 1 _ rfl).2
  exact kk q H1 hP1 hD1 hS1
theorem gNewQ {own : String} {index : Nat} (hx : p.tables.exec = Jvm.exec) (hb : c.code = cc) (hown : s.vm.findClass own = some m.cls) (hcl : (Cond.classLink own index RX1).before args s = true) (hov : va_AO RX1 s) (hE : gE G A s) (hP : va_P (gD G) vwCl ws H) (hD : va_D A ws) (hS : va_S A s.heap H locs) (hA : ∀ q, s.heap.size ≤ q → A q) {n : Int32} {N' : Nat} (hn : ¬ n < 0) (hN : n.toNatClampNeg = N') (hbytes : N' * 4 ≤ 536870912) (hcells : cells + 1 ≤ R.cells) (hslots : slots + N' ≤ R.slots) (hdg : decode cc pc = .ok (.anewarray index, 3))
    (kk : ∀ (q : Nat) (H1 : Heap), va_P (gD G) vwCl (ws ++ [(q, .inl (gQ G, N', .inr (.inr (.inr (.inr (fun _ => none))))))]) H1 → va_D A (ws ++ [(q, .inl (gQ G, N', .inr (.inr (.inr (.inr (fun _ => none))))))]) → va_S A s.heap H1 locs → W p l e R s m args below meth c H1 locs (cells + 1) (slots + N') Q (F0 m (pc + 3) ls (.ref q :: rest))) : W p l e R s m args below meth c H locs cells slots Q (F0 m pc ls (.int n :: rest)) := by
  refine va_newq hx hb hown hcl hov hE.1 hP hD hS hA hn hN hbytes hcells hslots hdg (fun q cA H1 hK1 hP1 hD1 hS1 => ?_)
  obtain rfl : cA = gQ G := raEq (hK1.2 3 _ rfl).2 (hE.1.2 2 _ rfl).2
  exact kk q H1 hP1 hD1 hS1
end GNEW
/-- a constructor's start: the heap's size is known -/
def gPs (G : gC) (A : Nat → Prop) (sz : Nat) (ws : va_W) (X : State → Prop) (av : List Value) : Array Value → State → Prop := va_Pc av (fun U => U.heap.size = sz ∧ gE G A U ∧ va_P (gD G) vwCl ws U.heap ∧ va_D A ws ∧ X U)

set_option maxHeartbeats 4000000 in
set_option maxRecDepth 100000 in
theorem c_X1_init (l : Launch) (G : gC) (A : Nat → Prop) (h : Nat) : Met l yX1_init wsX1_init ({ frames := 1, cells := 0, slots := 0, locals := 12 } : Room) (va_Pc [.ref h] (fun U => gE G A U)) (va_Sv (fun _ => True)) 0 0 (fun _ => False) := by
  refine Met.ofW (cc := cX1_init) (maxL := 1) (ret := none) (by decide) rfl ?_
  intro p e s m args below meth c s₁ B hml hv
  obtain ⟨rfl, hE⟩ := hv
  have hx := B.exec
  have hb := B.bytes
  have hr := B.returns
  have hlk := B.notSynchronized
  have hts := atoms_spec (ws := wsX1_init) B.pre
  have hown : s.vm.findClass RX1 = some m.cls := findClass_of_methodNamed B.named
  have hin : meth.name = "<init>" := (name_of_methodNamed B.named B.method).1
  have hS : va_S A s.heap s.heap [] := va_S.rf
  have hl := lv_entry ([.ref h]) (n := 1) (Nat.le_of_ble_eq_true rfl)
  rw [lg_entry_eq]
  generalize (lg_sl ([.ref h]) ++ List.replicate (1 - (lg_sl ([.ref h])).length) Slot.unset).toArray = ls at hl ⊢
  have hl : lv_has ls 1 [(0, .ref h)] := hl
  refine lv_aload_n hx hb dX1_init_0 rfl (lv_at hl 0 rfl) ?_
  refine W.objInit hx hb hown (hts (.methodLink RX1 1 objectInit) (by decide +kernel)) (hts (.instanceMethod objectInit) (by decide +kernel)) (hts (.code objectInit ⟨#[0xb1]⟩ 1 none) (by decide +kernel)) rfl (by rw [hml]; exact hl.1) rfl dX1_init_1 (Nat.le_of_ble_eq_true rfl) (Nat.le_of_ble_eq_true rfl) ?_
  refine W.eq (g2 := F0 m 4 ls []) rfl ?_
  exact W.vret hx hb hr (fun t ht _ => ⟨rfl, trivial, ht⟩) (fun _ h => by cases h) dX1_init_4 hlk

set_option maxHeartbeats 4000000 in
set_option maxRecDepth 100000 in
theorem c_X3_init (l : Launch) (G : gC) (A : Nat → Prop) (h : Nat) (x y z : Int32) : Met l yX3_init wsX3_init ({ frames := 1, cells := 0, slots := 0, locals := 12 } : Room) (gP G A [(h, .inr (3, [.int 0, .int 0, .int 0, .int 0, .int 0, .int 0]))] [.ref h, .int x, .int y, .int z]) (va_Qv (fun _ : Unit => True) (fun _ t => va_P (gD G) vwCl [(h, .inr (3, [.int x, .int y, .int z, .int 0, .int (-1), .int 0]))] t.heap ∧ va_D A [(h, .inr (3, [.int x, .int y, .int z, .int 0, .int (-1), .int 0]))]) A) 0 0 A := by
  refine Met.ofW (cc := cX3_init) (maxL := 4) (ret := none) (by decide) rfl ?_
  intro p e s m args below meth c s₁ B hml hv
  obtain ⟨rfl, hE, hP, hD⟩ := hv
  have hx := B.exec
  have hb := B.bytes
  have hr := B.returns
  have hlk := B.notSynchronized
  have hts := atoms_spec (ws := wsX3_init) B.pre
  have hown : s.vm.findClass RX3 = some m.cls := findClass_of_methodNamed B.named
  have hin : meth.name = "<init>" := (name_of_methodNamed B.named B.method).1
  have hS : va_S A s.heap s.heap [] := va_S.rf
  have hl := lv_entry ([.ref h, .int x, .int y, .int z]) (n := 4) (Nat.le_of_ble_eq_true rfl)
  rw [lg_entry_eq]
  generalize (lg_sl ([.ref h, .int x, .int y, .int z]) ++ List.replicate (4 - (lg_sl ([.ref h, .int x, .int y, .int z])).length) Slot.unset).toArray = ls at hl ⊢
  have hl : lv_has ls 4 [(0, .ref h), (1, .int x), (2, .int y), (3, .int z)] := hl
  have iX3 : ∀ w ∈ wsX30, w ∈ wsX3_init := by decide +kernel
  refine lv_aload_n hx hb dX3_init_0 rfl (lv_at hl 0 rfl) ?_
  refine W.objInit hx hb hown (hts (.methodLink RX3 3 objectInit) (by decide +kernel)) (hts (.instanceMethod objectInit) (by decide +kernel)) (hts (.code objectInit ⟨#[0xb1]⟩ 1 none) (by decide +kernel)) rfl (by rw [hml]; exact hl.1) rfl dX3_init_1 (Nat.le_of_ble_eq_true rfl) (Nat.le_of_ble_eq_true rfl) ?_
  refine W.eq (g2 := F0 m 4 ls []) rfl ?_
  refine lv_aload_n hx hb dX3_init_4 rfl (lv_at hl 0 rfl) ?_
  refine lv_iload_n hx hb dX3_init_5 rfl (lv_at hl 1 rfl) ?_
  refine va_putF (D := gD G) (ci := 3) (v := .int x) (ty := .int) (C := RX3) (T := TX3) (N := 6) hx hb hts iX3 tyX3 tyX3_ok nmX3 hown hE.1 hP hD hS 0 rfl rfl 0 (by decide) (hts (.fieldLink RX3 9 "FerryDecks$Vehicle" "kind" "I") (by decide +kernel)) (fun _ h9 => h9) rfl hin rfl (by decide +kernel) rfl rfl (Nat.le_of_ble_eq_true rfl) dX3_init_6 (fun H locs hP hD hS => ?_)
  have hP : va_P (gD G) vwCl [(h, .inr (3, [.int x, .int 0, .int 0, .int 0, .int 0, .int 0]))] H := hP
  have hD : va_D A [(h, .inr (3, [.int x, .int 0, .int 0, .int 0, .int 0, .int 0]))] := hD
  refine lv_aload_n hx hb dX3_init_9 rfl (lv_at hl 0 rfl) ?_
  refine lv_iload_n hx hb dX3_init_10 rfl (lv_at hl 2 rfl) ?_
  refine va_putF (D := gD G) (ci := 3) (v := .int y) (ty := .int) (C := RX3) (T := TX3) (N := 6) hx hb hts iX3 tyX3 tyX3_ok nmX3 hown hE.1 hP hD hS 0 rfl rfl 1 (by decide) (hts (.fieldLink RX3 15 "FerryDecks$Vehicle" "size" "I") (by decide +kernel)) (fun _ h9 => h9) rfl hin rfl (by decide +kernel) rfl rfl (Nat.le_of_ble_eq_true rfl) dX3_init_11 (fun H locs hP hD hS => ?_)
  have hP : va_P (gD G) vwCl [(h, .inr (3, [.int x, .int y, .int 0, .int 0, .int 0, .int 0]))] H := hP
  have hD : va_D A [(h, .inr (3, [.int x, .int y, .int 0, .int 0, .int 0, .int 0]))] := hD
  refine lv_aload_n hx hb dX3_init_14 rfl (lv_at hl 0 rfl) ?_
  refine lv_iload_n hx hb dX3_init_15 rfl (lv_at hl 3 rfl) ?_
  refine va_putF (D := gD G) (ci := 3) (v := .int z) (ty := .int) (C := RX3) (T := TX3) (N := 6) hx hb hts iX3 tyX3 tyX3_ok nmX3 hown hE.1 hP hD hS 0 rfl rfl 2 (by decide) (hts (.fieldLink RX3 18 "FerryDecks$Vehicle" "load" "I") (by decide +kernel)) (fun _ h9 => h9) rfl hin rfl (by decide +kernel) rfl rfl (Nat.le_of_ble_eq_true rfl) dX3_init_16 (fun H locs hP hD hS => ?_)
  have hP : va_P (gD G) vwCl [(h, .inr (3, [.int x, .int y, .int z, .int 0, .int 0, .int 0]))] H := hP
  have hD : va_D A [(h, .inr (3, [.int x, .int y, .int z, .int 0, .int 0, .int 0]))] := hD
  refine lv_aload_n hx hb dX3_init_19 rfl (lv_at hl 0 rfl) ?_
  refine lv_iconst (v := -1) hx hb dX3_init_20 (by decide) ?_
  refine va_put (D := gD G) (ci := 3) (v := .int (-1)) (ty := .int) (C := RX3) (T := TX3) (N := 6) hx hb hts iX3 tyX3 tyX3_ok nmX3 hown hE.1 hP hD hS 0 rfl rfl 4 (by decide) (hts (.fieldLink RX3 21 "FerryDecks$Vehicle" "deckNumber" "I") (by decide +kernel)) (fun _ h9 => h9) rfl (by decide +kernel) rfl rfl (Nat.le_of_ble_eq_true rfl) dX3_init_21 (fun H locs hP hD hS => ?_)
  have hP : va_P (gD G) vwCl [(h, .inr (3, [.int x, .int y, .int z, .int 0, .int (-1), .int 0]))] H := hP
  have hD : va_D A [(h, .inr (3, [.int x, .int y, .int z, .int 0, .int (-1), .int 0]))] := hD
  exact W.vret hx hb hr (fun t ht _ => ⟨⟨(), rfl, trivial, by rw [ht]; exact hP, hD⟩, hS.F ht⟩) hS.2.2 dX3_init_24 hlk

set_option maxHeartbeats 4000000 in
set_option maxRecDepth 100000 in
theorem c_X2_init (l : Launch) (G : gC) (A : Nat → Prop) (h sz : Nat) (hA0 : ∀ q, sz ≤ q → A q) : Met l yX2_init wsX2_init ({ frames := 1, cells := 1, slots := 400, locals := 12 } : Room) (gPs G A sz [(h, .inr (2, [.null, .int 0]))] (fun _ => True) [.ref h]) (va_Qv (fun _ : Nat => True) (fun q t => va_P (gD G) vwCl [(h, .inr (2, [.ref q, .int 0])), (q, (.inl (gI G, 400, .inl (fun _ => 0))))] t.heap ∧ va_D A [(h, .inr (2, [.ref q, .int 0])), (q, (.inl (gI G, 400, .inl (fun _ => 0))))]) A) 1 400 A := by
  refine Met.ofW (cc := cX2_init) (maxL := 1) (ret := none) (by decide) rfl ?_
  intro p e s m args below meth c s₁ B hml hv
  obtain ⟨rfl, hsz, hE, hP, hD, -⟩ := hv
  have hx := B.exec
  have hb := B.bytes
  have hr := B.returns
  have hlk := B.notSynchronized
  have hts := atoms_spec (ws := wsX2_init) B.pre
  have hown : s.vm.findClass RX2 = some m.cls := findClass_of_methodNamed B.named
  have hin : meth.name = "<init>" := (name_of_methodNamed B.named B.method).1
  have hS : va_S A s.heap s.heap [] := va_S.rf
  have hl := lv_entry ([.ref h]) (n := 1) (Nat.le_of_ble_eq_true rfl)
  rw [lg_entry_eq]
  generalize (lg_sl ([.ref h]) ++ List.replicate (1 - (lg_sl ([.ref h])).length) Slot.unset).toArray = ls at hl ⊢
  have hl : lv_has ls 1 [(0, .ref h)] := hl
  subst hsz
  have hA : ∀ q, s.heap.size ≤ q → A q := hA0
  have iX2 : ∀ w ∈ wsX20, w ∈ wsX2_init := by decide +kernel
  refine lv_aload_n hx hb dX2_init_0 rfl (lv_at hl 0 rfl) ?_
  refine W.objInit hx hb hown (hts (.methodLink RX2 3 objectInit) (by decide +kernel)) (hts (.instanceMethod objectInit) (by decide +kernel)) (hts (.code objectInit ⟨#[0xb1]⟩ 1 none) (by decide +kernel)) rfl (by rw [hml]; exact hl.1) rfl dX2_init_1 (Nat.le_of_ble_eq_true rfl) (Nat.le_of_ble_eq_true rfl) ?_
  refine W.eq (g2 := F0 m 4 ls []) rfl ?_
  refine lv_aload_n hx hb dX2_init_4 rfl (lv_at hl 0 rfl) ?_
  refine lv_sipush (v := 400) hx hb dX2_init_5 (by decide) ?_
  refine gNewI (N' := 400) hx hb (hts (.arrayClass .int) (by decide +kernel)) hE hP hD hS hA (by decide) (by decide) (by decide) (Nat.le_of_ble_eq_true rfl) (Nat.le_of_ble_eq_true rfl) dX2_init_8 (fun q H hP hD hS => ?_)
  have hP : va_P (gD G) vwCl [(h, .inr (2, [.null, .int 0])), (q, (.inl (gI G, 400, .inl (fun _ => 0))))] H := hP
  have hD : va_D A [(h, .inr (2, [.null, .int 0])), (q, (.inl (gI G, 400, .inl (fun _ => 0))))] := hD
  refine va_putF (D := gD G) (ci := 2) (v := .ref q) (ty := .array .int) (C := RX2) (T := TX2) (N := 2) hx hb hts iX2 tyX2 tyX2_ok nmX2 hown hE.1 hP hD hS 0 rfl rfl 0 (by decide) (hts (.fieldLink RX2 9 "FerryDecks$Trace" "entries" "[I") (by decide +kernel)) (fun _ h9 => h9) rfl hin rfl (by decide +kernel) rfl rfl (Nat.le_of_ble_eq_true rfl) dX2_init_10 (fun H locs hP hD hS => ?_)
  refine W.widen (k := 1) (n := 400) (by omega) (by omega) ?_
  exact W.vret hx hb hr (fun t ht _ => ⟨⟨q, rfl, trivial, by rw [ht]; exact hP, hD⟩, hS.F ht⟩) hS.2.2 dX2_init_13 hlk

set_option maxHeartbeats 4000000 in
set_option maxRecDepth 100000 in
theorem c_X0_init (l : Launch) (G : gC) (A : Nat → Prop) (h sz : Nat) (hA0 : ∀ q, sz ≤ q → A q) : Met l yX0_init wsX0_init ({ frames := 2, cells := 3, slots := 410, locals := 32 } : Room) (gPs G A sz [(h, .inr (0, [.null, .null, .int 0]))] (fun U => va_Nw (.methodLinkNest RX0 17 yX2_init RX4) U) [.ref h]) (va_Qv (fun _ : Nat × Nat × Nat => True) (fun q t => va_P (gD G) vwCl [(h, .inr (0, [.ref q.1, .ref q.2.1, .int 0])), (q.1, (.inl (gI G, 8, .inl (fun _ => 0)))), (q.2.1, .inr (2, [.ref q.2.2, .int 0])), (q.2.2, (.inl (gI G, 400, .inl (fun _ => 0))))] t.heap ∧ va_D A [(h, .inr (0, [.ref q.1, .ref q.2.1, .int 0])), (q.1, (.inl (gI G, 8, .inl (fun _ => 0)))), (q.2.1, .inr (2, [.ref q.2.2, .int 0])), (q.2.2, (.inl (gI G, 400, .inl (fun _ => 0))))]) A) 3 410 A := by
  refine Met.ofW (cc := cX0_init) (maxL := 1) (ret := none) (by decide) rfl ?_
  intro p e s m args below meth c s₁ B hml hv
  obtain ⟨rfl, hsz, hE, hP, hD, hnw⟩ := hv
  have hx := B.exec
  have hb := B.bytes
  have hr := B.returns
  have hlk := B.notSynchronized
  have hts := atoms_spec (ws := wsX0_init) B.pre
  have hown : s.vm.findClass RX0 = some m.cls := findClass_of_methodNamed B.named
  have hin : meth.name = "<init>" := (name_of_methodNamed B.named B.method).1
  have hS : va_S A s.heap s.heap [] := va_S.rf
  have hl := lv_entry ([.ref h]) (n := 1) (Nat.le_of_ble_eq_true rfl)
  rw [lg_entry_eq]
  generalize (lg_sl ([.ref h]) ++ List.replicate (1 - (lg_sl ([.ref h])).length) Slot.unset).toArray = ls at hl ⊢
  have hl : lv_has ls 1 [(0, .ref h)] := hl
  subst hsz
  have hA : ∀ q, s.heap.size ≤ q → A q := hA0
  have iX0 : ∀ w ∈ wsX00, w ∈ wsX0_init := by decide +kernel
  have iX2 : ∀ w ∈ wsX20, w ∈ wsX0_init := by decide +kernel
  refine lv_aload_n hx hb dX0_init_0 rfl (lv_at hl 0 rfl) ?_
  refine W.objInit hx hb hown (hts (.methodLink RX0 3 objectInit) (by decide +kernel)) (hts (.instanceMethod objectInit) (by decide +kernel)) (hts (.code objectInit ⟨#[0xb1]⟩ 1 none) (by decide +kernel)) rfl (by rw [hml]; exact hl.1) rfl dX0_init_1 (Nat.le_of_ble_eq_true rfl) (Nat.le_of_ble_eq_true rfl) ?_
  refine W.eq (g2 := F0 m 4 ls []) rfl ?_
  refine lv_aload_n hx hb dX0_init_4 rfl (lv_at hl 0 rfl) ?_
  refine lv_bipush (v := 8) hx hb dX0_init_5 (by decide) ?_
  refine gNewI (N' := 8) hx hb (hts (.arrayClass .int) (by decide +kernel)) hE hP hD hS hA (by decide) (by decide) (by decide) (Nat.le_of_ble_eq_true rfl) (Nat.le_of_ble_eq_true rfl) dX0_init_7 (fun q1 H hP hD hS => ?_)
  have hP : va_P (gD G) vwCl [(h, .inr (0, [.null, .null, .int 0])), (q1, (.inl (gI G, 8, .inl (fun _ => 0))))] H := hP
  have hD : va_D A [(h, .inr (0, [.null, .null, .int 0])), (q1, (.inl (gI G, 8, .inl (fun _ => 0))))] := hD
  refine va_putF (D := gD G) (ci := 0) (v := .ref q1) (ty := .array .int) (C := RX0) (T := TX0) (N := 3) hx hb hts iX0 tyX0 tyX0_ok nmX0 hown hE.1 hP hD hS 0 rfl rfl 0 (by decide) (hts (.fieldLink RX0 9 "FerryDecks$Bodies" "terms" "[I") (by decide +kernel)) (fun _ h9 => h9) rfl hin rfl (by decide +kernel) rfl rfl (Nat.le_of_ble_eq_true rfl) dX0_init_9 (fun H locs hP hD hS => ?_)
  have hP : va_P (gD G) vwCl [(h, .inr (0, [.ref q1, .null, .int 0])), (q1, (.inl (gI G, 8, .inl (fun _ => 0))))] H := hP
  have hD : va_D A [(h, .inr (0, [.ref q1, .null, .int 0])), (q1, (.inl (gI G, 8, .inl (fun _ => 0))))] := hD
  refine lv_aload_n hx hb dX0_init_12 rfl (lv_at hl 0 rfl) ?_
  refine va_new (ci := 2) (fs := [.null, .int 0]) (C := RX2) (T := TX2) (N := 2) hx hb hts iX2 tyX2 tyX2_ok hown (hts (.classLink RX0 15 RX2) (by decide +kernel)) (hts (.instantiable RX2 2) (by decide +kernel)) (hts (.initialized RX2) (by decide +kernel)) hE.1 hP hD hS hA rfl (fun j hj => by rcases (show j = 0 ∨ j = 1 by omega) with rfl | rfl <;> rfl) (Nat.le_of_ble_eq_true rfl) (Nat.le_of_ble_eq_true rfl) dX0_init_13 (fun q2 H hP hD hS => ?_)
  have hP : va_P (gD G) vwCl [(h, .inr (0, [.ref q1, .null, .int 0])), (q1, (.inl (gI G, 8, .inl (fun _ => 0)))), (q2, .inr (2, [.null, .int 0]))] H := hP
  have hD : va_D A [(h, .inr (0, [.ref q1, .null, .int 0])), (q1, (.inl (gI G, 8, .inl (fun _ => 0)))), (q2, .inr (2, [.null, .int 0]))] := hD
  refine lv_dup hx hb dX0_init_16 rfl ?_
  have hPc := hP.sub (ws' := [(q2, .inr (2, [.null, .int 0]))]) [2] rfl
  have hDc := hD.sub (ws' := [(q2, .inr (2, [.null, .int 0]))]) [2] (by decide) rfl
  have hFc := va_free (wc := [(q2, .inr (2, [.null, .int 0]))]) hD hS hA [2] rfl
  refine va_callv (va_runIN (As := []) (rest := [.ref q2, .ref h]) ⟨hx, hb, hml, hown, hts⟩ (c_X2_init l G (va_A [(q2, .inr (2, [.null, .int 0]))] H.size) q2 H.size (fun q h => Or.inr h)) ⟨va_cnB 0 hts gX0_init_X2_init_n17 rfl rfl rfl hnw (hts (.initialized RX2) (by decide +kernel)) (by decide +kernel) ⟨Nat.le_of_ble_eq_true rfl, Nat.le_of_ble_eq_true rfl⟩, rfl, hts (.instanceMethod yX2_init) (by decide +kernel)⟩ ⟨fun a U g mk q => ⟨q.1, q.2.1, q.2.2.1.calling g mk a, q.2.2.2⟩, fun U hU hW => ⟨rfl, by rw [hU], hE.to hS hFc hU hW, by rw [hU]; exact hPc, hDc.self, trivial⟩⟩ rfl rfl hl.1 rfl (lv_room (Nat.le_of_ble_eq_true rfl)) dX0_init_17 ⟨Nat.le_of_ble_eq_true rfl, Nat.le_of_ble_eq_true rfl⟩) hS (fun q _ h => hFc q h) hFc (fun q3 t H1 locs ht hvm hw hB hz1 hk1 hS => ?_)
  obtain ⟨hP1, hD1⟩ := hB
  rw [ht] at hP1
  obtain ⟨hP, hD⟩ := va_join (wr := [(h, .inr (0, [.ref q1, .null, .int 0])), (q1, (.inl (gI G, 8, .inl (fun _ => 0))))]) (w1 := [(q2, .inr (2, [.ref q3, .int 0])), (q3, (.inl (gI G, 400, .inl (fun _ => 0))))]) hP hD [2] [0, 1] rfl rfl (by decide) (by decide) hk1 hFc hP1 hD1
  generalize H1 = H at hP hS ⊢
  have hP : va_P (gD G) vwCl [(h, .inr (0, [.ref q1, .null, .int 0])), (q1, (.inl (gI G, 8, .inl (fun _ => 0)))), (q2, .inr (2, [.ref q3, .int 0])), (q3, (.inl (gI G, 400, .inl (fun _ => 0))))] H := hP
  have hD : va_D A [(h, .inr (0, [.ref q1, .null, .int 0])), (q1, (.inl (gI G, 8, .inl (fun _ => 0)))), (q2, .inr (2, [.ref q3, .int 0])), (q3, (.inl (gI G, 400, .inl (fun _ => 0))))] := hD
  refine va_putF (D := gD G) (ci := 0) (v := .ref q2) (ty := .object "FerryDecks$Trace") (C := RX0) (T := TX0) (N := 3) hx hb hts iX0 tyX0 tyX0_ok nmX0 hown hE.1 hP hD hS 0 rfl rfl 1 (by decide) (hts (.fieldLink RX0 18 "FerryDecks$Bodies" "written" "LFerryDecks$Trace;") (by decide +kernel)) (fun _ h9 => h9) rfl hin rfl (by decide +kernel) rfl rfl (Nat.le_of_ble_eq_true rfl) dX0_init_20 (fun H locs hP hD hS => ?_)
  refine W.widen (k := 3) (n := 410) (by omega) (by omega) ?_
  exact W.vret hx hb hr (fun t ht _ => ⟨⟨(q1, q2, q3), rfl, trivial, by rw [ht]; exact hP, hD⟩, hS.F ht⟩) hS.2.2 dX0_init_23 hlk
