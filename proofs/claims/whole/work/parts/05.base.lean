/-! ===== the constants of a run, the environment that no method changes, contracts over a state, calls by them ===== -/
/-- class numbers, slots, the classes of int[], Vehicle[], Deck[], the places of the two tables -/
abbrev gC : Type := (Nat → ClassId) × (Nat → Nat → Nat) × ClassId × ClassId × ClassId × Nat × Nat
abbrev gD (G : gC) : va_G := (G.1, G.2.1)
abbrev gI (G : gC) : ClassId := G.2.2.1
abbrev gV (G : gC) : ClassId := G.2.2.2.1
abbrev gQ (G : gC) : ClassId := G.2.2.2.2.1
abbrev gO (G : gC) : Nat := G.2.2.2.2.2.1
abbrev gA (G : gC) : Nat := G.2.2.2.2.2.2
def ownL : List Int32 := [0, 0, 2, 2, 4, 4, 6, 6, 6, 9, 0, 1, 1, 3, 3, 5, 0, 7, 7, 9, 0, 0, 2, 2, 4, 4, 6, 6, 8, 9, 0, 0, 2, 2, 4, 4, 0, 7, 8, 9, 0, 0, 0, 3, 3, 5, 0, 0, 8, 8, -1, -1, -1, 0, 0, 5, -1, 0, 0, 0, -1, -1, -1, 3, 3, 5, -1, 7, 7, 9]
def abvL : List Int32 := [-1, 0, 1, 2, 3, 4, 0, 6, 7, 8]
def ownF (j : Nat) : Int32 := ownL.getD j 0
def abvF (j : Nat) : Int32 := abvL.getD j 0
abbrev gTy (G : gC) : List (ClassId × FieldType) := [(gI G, .int), (gV G, .object RX3), (gQ G, .object RX1)]
def gE (G : gC) (A : Nat → Prop) (U : State) : Prop :=
  va_K (gD G) vwCl (gTy G) U ∧
  (va_Nw (.fieldLinkNest RX0 77 RX4 "ABOVE" "[I" RX4) U ∧ va_Nw (.methodLinkNest RX0 38 yX4_ownerOf RX4) U ∧ va_Nw (.methodLinkNest RX0 73 yX4_within RX4) U ∧ va_Nw (.methodLinkNest RX2 19 yX4_within RX4) U) ∧
  (va_Z RX4 "OWNERS" "[I" (.ref (gO G)) A U U.heap ∧ va_T .int (gO G) 70 (fun j => .int (ownF j)) A U U.heap) ∧
  va_Z RX4 "ABOVE" "[I" (.ref (gA G)) A U U.heap ∧ va_T .int (gA G) 10 (fun j => .int (abvF j)) A U U.heap
theorem gE.calling {G : gC} {A : Nat → Prop} {U : State} (h : gE G A U) (g : JFrame) (mk : MethodId) (a : Array Value) : gE G A (U.calling g mk a) := by
  obtain ⟨h1, ⟨n1, n2, n3, n4⟩, ⟨z1, t1⟩, z2, t2⟩ := h
  exact ⟨va_K.moved (u := U) (U := U.calling g mk a) (Vm.Alike.refl U.vm) h1, ⟨va_Nw.same rfl rfl n1, va_Nw.same rfl rfl n2, va_Nw.same rfl rfl n3, va_Nw.same rfl rfl n4⟩,
    ⟨va_Z.moved (u := U) (U := U.calling g mk a) (Vm.Alike.refl U.vm) z1, va_T.moved (u := U) (U := U.calling g mk a) (Vm.Alike.refl U.vm) t1⟩,
    va_Z.moved (u := U) (U := U.calling g mk a) (Vm.Alike.refl U.vm) z2, va_T.moved (u := U) (U := U.calling g mk a) (Vm.Alike.refl U.vm) t2⟩
theorem gE.to {G : gC} {A B : Nat → Prop} {s U : State} {H : Heap} {locs : List Loc} (h : gE G A s) (hS : va_S A s.heap H locs) (hAB : ∀ q, B q → A q) (hU : U.heap = H) (hW : s.WarmedH U.vm) : gE G B U := by
  obtain ⟨h1, ⟨n1, n2, n3, n4⟩, ⟨z1, t1⟩, z2, t2⟩ := h
  subst hU
  exact ⟨va_K.moved hW.alike h1, ⟨va_Nw.warmF hW n1, va_Nw.warmM hW n2, va_Nw.warmM hW n3, va_Nw.warmM hW n4⟩,
    ⟨((va_Z.moved hW.alike z1).kept hS.2.1).narrow hAB, ((va_T.moved hW.alike t1).kept hS.2.1).narrow hAB⟩,
    ((va_Z.moved hW.alike z2).kept hS.2.1).narrow hAB, ((va_T.moved hW.alike t2).kept hS.2.1).narrow hAB⟩
/-- a method's start over a world, its ends -/
def gP (G : gC) (A : Nat → Prop) (ws : va_W) (av : List Value) : Array Value → State → Prop := va_Pc av (fun U => gE G A U ∧ va_P (gD G) vwCl ws U.heap ∧ va_D A ws)
def gB (G : gC) (A : Nat → Prop) {S : Type} (Wd : S → va_W) (ok : S → Prop) (u : S) (t : State) : Prop := va_P (gD G) vwCl (Wd u) t.heap ∧ va_D A (Wd u) ∧ ok u
abbrev gQi (G : gC) (A : Nat → Prop) {S : Type} (Wd : S → va_W) (ok : S → Prop) (f : Int32 × S) := va_Qi (fun r u => (r, u) = f) (gB G A Wd ok) A
abbrev gQl (G : gC) (A : Nat → Prop) {S : Type} (Wd : S → va_W) (ok : S → Prop) (f : Int64 × S) := va_Ql (fun r u => (r, u) = f) (gB G A Wd ok) A
abbrev gQv (G : gC) (A : Nat → Prop) {S : Type} (Wd : S → va_W) (ok : S → Prop) (f : S) := va_Qv (fun u => u = f) (gB G A Wd ok) A
/-- contracts: int, long, void over a world; int of a static method that changes nothing -/
def CI (l : Launch) (y : MethodName) (wy : List Cond) (rm : Room) (G : gC) (A : Nat → Prop) {S : Type} (Wd : S → va_W) (ok : S → Prop) (av : List Value) (u : S) (f : Int32 × S) : Prop := Met l y wy rm (gP G A (Wd u) av) (gQi G A Wd ok f) 0 0 A
def CL (l : Launch) (y : MethodName) (wy : List Cond) (rm : Room) (G : gC) (A : Nat → Prop) {S : Type} (Wd : S → va_W) (ok : S → Prop) (av : List Value) (u : S) (f : Int64 × S) : Prop := Met l y wy rm (gP G A (Wd u) av) (gQl G A Wd ok f) 0 0 A
def CV (l : Launch) (y : MethodName) (wy : List Cond) (rm : Room) (G : gC) (A : Nat → Prop) {S : Type} (Wd : S → va_W) (ok : S → Prop) (av : List Value) (u f : S) : Prop := Met l y wy rm (gP G A (Wd u) av) (gQv G A Wd ok f) 0 0 A
def CS (l : Launch) (y : MethodName) (wy : List Cond) (rm : Room) (G : gC) (A : Nat → Prop) (av : List Value) (f : Int32) : Prop := Met l y wy rm (va_Pc av (fun U => gE G A U)) (vp_Si (fun r => r = f)) 0 0 (fun _ => False)
theorem gP.blind {G : gC} {A : Nat → Prop} {ws : va_W} {av : List Value} : FrameBlind (gP G A ws av) := fun a U g mk q => ⟨q.1, q.2.1.calling g mk a, q.2.2⟩
/-- what a body's walk stands on -/
abbrev gX (p : Program) (s : State) (m : MethodId) (args : Array Value) (meth : Method) (c : Code) (cc : ByteArray) (nL : Nat) (Ts : List Cond) (own : String) (ret : Option FieldType) : Prop :=
  CallFix p m c cc nL s args Ts own ∧ meth.sig.returnType = ret ∧ meth.locks = false
section GCALL
variable {p : Program} {l : Launch} {e : Env} {R : Room} {s : State} {m : MethodId} {args : Array Value} {below : List Frame} {meth : Method} {c : Code} {H : Heap} {locs : List Loc} {cells slots : Nat} {Q : State → Prop}
variable {pc : Nat} {ls : Array Slot} {rest st As : List Value} {G : gC} {A : Nat → Prop} {S : Type} {Wd : S → va_W} {ok : S → Prop} {u : S}
variable {y : MethodName} {bytes cc : ByteArray} {maxL nL n index : Nat} {ret : Option FieldType} {wy Ts : List Cond} {rm : Room} {own C : String} {b : Nat}
theorem gVi {f : Int32 × S} (F : CallFix p m c cc nL s args Ts own) (hM : CI l y wy rm G A Wd ok (.ref b :: As) u f) (cw : CallW R s args own C index y bytes maxL ret wy rm 0 0 n) (hE : gE G A s) (hP : va_P (gD G) vwCl (Wd u) H) (hD : va_D A (Wd u)) (hS : va_S A s.heap H locs) (hrec : ∃ cell : Cell, H[b]? = some cell ∧ cell.vm.isStatics = false ∧ s.vm.findClass C = some cell.cls) (hn : As.length = n) (hsz : ls.size = nL) (hst : st = As.reverse ++ .ref b :: rest) (hW : (rest.map fun v => v.category).sum ≤ 8) (hdg : decode cc pc = .ok (.invokevirtual index, 3)) (hf : cells ≤ R.cells ∧ slots ≤ R.slots)
    (kk : ∀ (q : Int32 × S) (H1 : Heap) (locs1 : List Loc), q = f → va_P (gD G) vwCl (Wd q.2) H1 → va_D A (Wd q.2) → ok q.2 → va_S A s.heap H1 locs1 → W p l e R s m args below meth c H1 locs1 cells slots Q (F0 m (pc + 3) ls (.int q.1 :: rest))) : W p l e R s m args below meth c H locs cells slots Q (F0 m pc ls st) :=
  va_calli (va_runV (rest := rest) F hM cw ⟨gP.blind, hrec, fun U hU hW1 => ⟨rfl, hE.to hS (fun _ h => h) hU hW1, by rw [hU]; exact hP, hD⟩⟩ rfl hn hsz hst (lv_room hW) hdg hf) hS (fun _ _ h => h) (fun _ h => h) (fun r u' t H1 locs1 ht _ hp hB _ _ hS1 => kk (r, u') H1 locs1 hp (by rw [← ht]; exact hB.1) hB.2.1 hB.2.2 hS1)
theorem gVl {f : Int64 × S} (F : CallFix p m c cc nL s args Ts own) (hM : CL l y wy rm G A Wd ok (.ref b :: As) u f) (cw : CallW R s args own C index y bytes maxL ret wy rm 0 0 n) (hE : gE G A s) (hP : va_P (gD G) vwCl (Wd u) H) (hD : va_D A (Wd u)) (hS : va_S A s.heap H locs) (hrec : ∃ cell : Cell, H[b]? = some cell ∧ cell.vm.isStatics = false ∧ s.vm.findClass C = some cell.cls) (hn : As.length = n) (hsz : ls.size = nL) (hst : st = As.reverse ++ .ref b :: rest) (hW : (rest.map fun v => v.category).sum ≤ 8) (hdg : decode cc pc = .ok (.invokevirtual index, 3)) (hf : cells ≤ R.cells ∧ slots ≤ R.slots)
    (kk : ∀ (q : Int64 × S) (H1 : Heap) (locs1 : List Loc), q = f → va_P (gD G) vwCl (Wd q.2) H1 → va_D A (Wd q.2) → ok q.2 → va_S A s.heap H1 locs1 → W p l e R s m args below meth c H1 locs1 cells slots Q (F0 m (pc + 3) ls (.long q.1 :: rest))) : W p l e R s m args below meth c H locs cells slots Q (F0 m pc ls st) :=
  va_calll (va_runV (rest := rest) F hM cw ⟨gP.blind, hrec, fun U hU hW1 => ⟨rfl, hE.to hS (fun _ h => h) hU hW1, by rw [hU]; exact hP, hD⟩⟩ rfl hn hsz hst (lv_room hW) hdg hf) hS (fun _ _ h => h) (fun _ h => h) (fun r u' t H1 locs1 ht _ hp hB _ _ hS1 => kk (r, u') H1 locs1 hp (by rw [← ht]; exact hB.1) hB.2.1 hB.2.2 hS1)
theorem gVv {f : S} (F : CallFix p m c cc nL s args Ts own) (hM : CV l y wy rm G A Wd ok (.ref b :: As) u f) (cw : CallW R s args own C index y bytes maxL ret wy rm 0 0 n) (hE : gE G A s) (hP : va_P (gD G) vwCl (Wd u) H) (hD : va_D A (Wd u)) (hS : va_S A s.heap H locs) (hrec : ∃ cell : Cell, H[b]? = some cell ∧ cell.vm.isStatics = false ∧ s.vm.findClass C = some cell.cls) (hn : As.length = n) (hsz : ls.size = nL) (hst : st = As.reverse ++ .ref b :: rest) (hW : (rest.map fun v => v.category).sum ≤ 8) (hdg : decode cc pc = .ok (.invokevirtual index, 3)) (hf : cells ≤ R.cells ∧ slots ≤ R.slots)
    (kk : ∀ (q : S) (H1 : Heap) (locs1 : List Loc), q = f → va_P (gD G) vwCl (Wd q) H1 → va_D A (Wd q) → ok q → va_S A s.heap H1 locs1 → W p l e R s m args below meth c H1 locs1 cells slots Q (F0 m (pc + 3) ls rest)) : W p l e R s m args below meth c H locs cells slots Q (F0 m pc ls st) :=
  va_callv (va_runV (rest := rest) F hM cw ⟨gP.blind, hrec, fun U hU hW1 => ⟨rfl, hE.to hS (fun _ h => h) hU hW1, by rw [hU]; exact hP, hD⟩⟩ rfl hn hsz hst (lv_room hW) hdg hf) hS (fun _ _ h => h) (fun _ h => h) (fun u' t H1 locs1 ht _ hp hB _ _ hS1 => kk u' H1 locs1 hp (by rw [← ht]; exact hB.1) hB.2.1 hB.2.2 hS1)
/-- a static method that changes nothing -/
theorem gSi {f : Int32} (F : CallFix p m c cc nL s args Ts own) (hM : CS l y wy rm G A As f) (cw : CallB R s args own index y bytes maxL ret wy rm 0 0 n ∧ (Cond.static y).before args s = true) (hE : gE G A s) (hS : va_S A s.heap H locs) (hn : As.length = n) (hsz : ls.size = nL) (hst : st = As.reverse ++ rest) (hW : (rest.map fun v => v.category).sum ≤ 8) (hdg : decode cc pc = .ok (.invokestatic index, 3)) (hf : cells ≤ R.cells ∧ slots ≤ R.slots)
    (kk : ∀ q : Int32, q = f → W p l e R s m args below meth c H locs cells slots Q (F0 m (pc + 3) ls (.int q :: rest))) : W p l e R s m args below meth c H locs cells slots Q (F0 m pc ls st) :=
  vp_callSi (va_Run.run (va_runS (rest := rest) F hM cw ⟨fun a U g mk q => ⟨q.1, gE.calling q.2 g mk a⟩, fun U hU hW1 => ⟨rfl, hE.to hS (fun _ h => h) hU hW1⟩⟩ rfl hn hsz hst (lv_room hW) hdg hf)) (fun r hr => kk r hr)
theorem gNi {f : Int32} {host : String} (F : CallFix p m c cc nL s args Ts own) (hM : CS l y wy rm G A As f) (cw : va_CN R s args own index y host bytes maxL ret wy rm 0 0 n ∧ (Cond.static y).before args s = true ∧ True) (hE : gE G A s) (hS : va_S A s.heap H locs) (hn : As.length = n) (hsz : ls.size = nL) (hst : st = As.reverse ++ rest) (hW : (rest.map fun v => v.category).sum ≤ 8) (hdg : decode cc pc = .ok (.invokestatic index, 3)) (hf : cells ≤ R.cells ∧ slots ≤ R.slots)
    (kk : ∀ q : Int32, q = f → W p l e R s m args below meth c H locs cells slots Q (F0 m (pc + 3) ls (.int q :: rest))) : W p l e R s m args below meth c H locs cells slots Q (F0 m pc ls st) :=
  vp_callSi (va_Run.run (va_runSN (rest := rest) F hM cw ⟨fun a U g mk q => ⟨q.1, gE.calling q.2 g mk a⟩, fun U hU hW1 => ⟨rfl, hE.to hS (fun _ h => h) hU hW1⟩⟩ rfl hn hsz hst (lv_room hW) hdg hf)) (fun r hr => kk r hr)
/-- ends -/
theorem gRi {f : Int32 × S} {v : Int32} {cc : ByteArray} (hx : p.tables.exec = Jvm.exec) (hb : c.code = cc) (hr : meth.sig.returnType = some .int) (hlk : meth.locks = false) (hP : va_P (gD G) vwCl (Wd u) H) (hD : va_D A (Wd u)) (ho : ok u) (hS : va_S A s.heap H locs) (he : (v, u) = f) (hdg : decode cc pc = .ok (.ireturn, 1)) : W p l e R s m args below meth c H locs cells slots (MQ below (gQi G A Wd ok f) args s cells slots A) (F0 m pc ls [.int v]) :=
  W.iret (v := v) hx hb hr (fun t ht _ => ⟨⟨v, u, rfl, he, by rw [ht]; exact hP, hD, ho⟩, hS.F ht⟩) hS.2.2 hdg hlk
theorem gRz {f : Int32 × S} {v : Int32} {cc : ByteArray} (hx : p.tables.exec = Jvm.exec) (hb : c.code = cc) (hr : meth.sig.returnType = some .boolean) (hlk : meth.locks = false) (hn : narrow .boolean (.int v) = .int v) (hP : va_P (gD G) vwCl (Wd u) H) (hD : va_D A (Wd u)) (ho : ok u) (hS : va_S A s.heap H locs) (he : (v, u) = f) (hdg : decode cc pc = .ok (.ireturn, 1)) : W p l e R s m args below meth c H locs cells slots (MQ below (gQi G A Wd ok f) args s cells slots A) (F0 m pc ls [.int v]) :=
  W.zret (v := v) (ty := .boolean) hx hb hr hn (fun t ht _ => ⟨⟨v, u, rfl, he, by rw [ht]; exact hP, hD, ho⟩, hS.F ht⟩) hS.2.2 hdg hlk
theorem gRl {f : Int64 × S} {v : Int64} {cc : ByteArray} (hx : p.tables.exec = Jvm.exec) (hb : c.code = cc) (hr : meth.sig.returnType = some .long) (hlk : meth.locks = false) (hP : va_P (gD G) vwCl (Wd u) H) (hD : va_D A (Wd u)) (ho : ok u) (hS : va_S A s.heap H locs) (he : (v, u) = f) (hdg : decode cc pc = .ok (.lreturn, 1)) : W p l e R s m args below meth c H locs cells slots (MQ below (gQl G A Wd ok f) args s cells slots A) (F0 m pc ls [.long v]) :=
  W.lret (v := v) hx hb hr (fun t ht _ => ⟨⟨v, u, rfl, he, by rw [ht]; exact hP, hD, ho⟩, hS.F ht⟩) hS.2.2 hdg hlk
theorem gRv {f : S} {cc : ByteArray} (hx : p.tables.exec = Jvm.exec) (hb : c.code = cc) (hr : meth.sig.returnType = none) (hlk : meth.locks = false) (hP : va_P (gD G) vwCl (Wd u) H) (hD : va_D A (Wd u)) (ho : ok u) (hS : va_S A s.heap H locs) (he : u = f) (hdg : decode cc pc = .ok (.return_, 1)) : W p l e R s m args below meth c H locs cells slots (MQ below (gQv G A Wd ok f) args s cells slots A) (F0 m pc ls []) :=
  W.vret hx hb hr (fun t ht _ => ⟨⟨u, rfl, he, by rw [ht]; exact hP, hD, ho⟩, hS.F ht⟩) hS.2.2 hdg hlk
theorem gRsi {f v : Int32} {cc : ByteArray} (hx : p.tables.exec = Jvm.exec) (hb : c.code = cc) (hr : meth.sig.returnType = some .int) (hlk : meth.locks = false) (he : v = f) (hdg : decode cc pc = .ok (.ireturn, 1)) : W p l e R s m args below meth c s.heap [] cells slots (MQ below (vp_Si (fun r => r = f)) args s cells slots (fun _ => False)) (F0 m pc ls [.int v]) :=
  W.iret (v := v) hx hb hr (fun t ht _ => ⟨v, rfl, he, ht⟩) (fun _ h => by cases h) hdg hlk
theorem gRsz {f v : Int32} {cc : ByteArray} (hx : p.tables.exec = Jvm.exec) (hb : c.code = cc) (hr : meth.sig.returnType = some .boolean) (hlk : meth.locks = false) (hn : narrow .boolean (.int v) = .int v) (he : v = f) (hdg : decode cc pc = .ok (.ireturn, 1)) : W p l e R s m args below meth c s.heap [] cells slots (MQ below (vp_Si (fun r => r = f)) args s cells slots (fun _ => False)) (F0 m pc ls [.int v]) :=
  W.zret (v := v) (ty := .boolean) hx hb hr hn (fun t ht _ => ⟨v, rfl, he, ht⟩) (fun _ h => by cases h) hdg hlk
end GCALL
/-- a table switch by one number -/
def tsO (d lo hi : Int) (offs : Array Int) (t : Int) : Int := if t < lo ∨ hi < t then d else offs.getD (t - lo).toNat d
theorem gTs {p : Program} {l : Launch} {e : Env} {R : Room} {s : State} {m : MethodId} {args : Array Value} {below : List Frame} {meth : Method} {c : Code} {H : Heap} {locs : List Loc} {cells slots : Nat} {Q : State → Prop} {cc : ByteArray} {pc : Nat} {ls : Array Slot} {rest : List Value} (hexec : p.tables.exec = Jvm.exec) (hb : c.code = cc) {dflt lo hi : Int} {offs : Array Int} {len : Nat} {x : Int32} {off : Int} {tgt : Nat} (hdg : decode cc pc = .ok (.tableswitch dflt lo hi offs, len)) (hs : hi - lo + 1 = (offs.size : Int)) (ho : tsO dflt lo hi offs x.toInt = off) (ht : (pc : Int) + off = (tgt : Int))
    (k : W p l e R s m args below meth c H locs cells slots Q (F0 m tgt ls rest)) : W p l e R s m args below meth c H locs cells slots Q (F0 m pc ls (.int x :: rest)) := by
  unfold tsO at ho
  by_cases h : x.toInt < lo ∨ hi < x.toInt
  · rw [if_pos h] at ho
    subst ho
    exact lv_tableOut hexec hb hdg h ht k
  · rw [if_neg h] at ho
    have h1 : ¬ x.toInt < lo := fun z => h (Or.inl z)
    have h2 : ¬ hi < x.toInt := fun z => h (Or.inr z)
    have h3 : (x.toInt - lo).toNat < offs.size := by omega
    refine lv_tableIn hexec hb hdg h1 h2 (off := off) ?_ ht k
    rw [← ho, Array.getD_eq_getD_getElem?, Array.getElem?_eq_getElem h3]
    rfl
theorem gIn {i : Int32} {n : Nat} (hn : n < 2 ^ 31) (h0 : 0 ≤ i) (h1 : i < Int32.ofNat n) : vp_in i n := by
  rw [vp_in_iff]
  have a1 : (0 : Int32).toInt ≤ i.toInt := Int32.le_iff_toInt_le.mp h0
  have a2 : i.toInt < (Int32.ofNat n).toInt := Int32.lt_iff_toInt_lt.mp h1
  have a3 : (Int32.ofNat n).toInt = (n : Int) := nI_toInt hn
  have a0 : (0 : Int32).toInt = 0 := by decide
  omega
