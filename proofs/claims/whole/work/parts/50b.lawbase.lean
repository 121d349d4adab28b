/-! ===== the law: two worlds side by side ===== -/
/-- what is free for the law: all that was not there at its start -/
abbrev lA (s : State) : Nat → Prop := fun q => s.heap.size ≤ q
def lDis (w1 w2 : va_W) : Prop := ∀ (i j : Nat) (p q : Nat × va_E), w1[i]? = some p → w2[j]? = some q → p.1 ≠ q.1
theorem lDis.symm {w1 w2 : va_W} (h : lDis w1 w2) : lDis w2 w1 := fun i j p q h1 h2 e => h j i q p h2 h1 e.symm
def lT (G : gC) (s : State) (w1 w2 : va_W) (H : Heap) : Prop := va_P (gD G) vwCl w1 H ∧ va_P (gD G) vwCl w2 H ∧ va_D (lA s) w1 ∧ va_D (lA s) w2 ∧ lDis w1 w2
theorem lT.symm {G : gC} {s : State} {w1 w2 : va_W} {H : Heap} (h : lT G s w1 w2 H) : lT G s w2 w1 H := ⟨h.2.1, h.1, h.2.2.2.1, h.2.2.1, h.2.2.2.2.symm⟩
theorem lT.fr {G : gC} {s : State} {w1 w2 : va_W} {H : Heap} {locs : List Loc} (h : lT G s w1 w2 H) (hS : va_S (lA s) s.heap H locs) : ∀ q, va_A w1 H.size q → lA s q := by
  intro q hq
  rcases hq with ⟨k, e, hk⟩ | hz
  · exact h.2.2.1.2 k (q, e) hk
  · exact Nat.le_trans hS.1 hz
theorem lT.next {G : gC} {s : State} {w1 w1' w2 : va_W} {H H1 : Heap} {locs : List Loc} (h : lT G s w1 w2 H) (hk : ∀ q : Nat, q < H.size → ¬ va_A w1 H.size q → H1[q]? = H[q]?) (hS : va_S (lA s) s.heap H locs) (hP1 : va_P (gD G) vwCl w1' H1) (hD1 : va_D (va_A w1 H.size) w1') : lT G s w1' w2 H1 := by
  refine ⟨hP1, h.2.1.kept (fun k q hq => hk q.1 (h.2.1 k q hq).lt ?_), hD1.weaken (fun k q hq => h.fr hS q.1), h.2.2.2.1, ?_⟩
  · intro z
    rcases z with ⟨i, e, hi⟩ | hz
    · exact h.2.2.2.2 i k (q.1, e) q hi hq rfl
    · exact absurd (h.2.1 k q hq).lt (Nat.not_lt.mpr hz)
  · intro i j a b ha hb e
    rcases hD1.2 i a ha with ⟨k, e1, hk1⟩ | hz
    · exact h.2.2.2.2 k j (a.1, e1) b hk1 hb e
    · exact absurd (h.2.1 j b hb).lt (by rw [← e]; exact Nat.not_lt.mpr hz)
section LCALL
variable {p : Program} {l : Launch} {e : Env} {R : Room} {s : State} {m : MethodId} {args : Array Value} {below : List Frame} {meth : Method} {c : Code} {H : Heap} {locs : List Loc} {cells slots : Nat} {Q : State → Prop}
variable {pc : Nat} {ls : Array Slot} {rest st As : List Value} {G : gC} {S : Type} {Wd : S → va_W} {ok : S → Prop} {u : S} {w2 : va_W}
variable {y : MethodName} {bytes cc : ByteArray} {maxL nL n index : Nat} {ret : Option FieldType} {wy Ts : List Cond} {rm : Room} {own C : String} {b : Nat}
theorem lVi {f : Int32 × S} (F : CallFix p m c cc nL s args Ts own) (hM : CI l y wy rm G (va_A (Wd u) H.size) Wd ok (.ref b :: As) u f) (cw : CallW R s args own C index y bytes maxL ret wy rm 0 0 n) (hE : gE G (lA s) s) (hT : lT G s (Wd u) w2 H) (hS : va_S (lA s) s.heap H locs) (hrec : ∃ cell : Cell, H[b]? = some cell ∧ cell.vm.isStatics = false ∧ s.vm.findClass C = some cell.cls) (hn : As.length = n) (hsz : ls.size = nL) (hst : st = As.reverse ++ .ref b :: rest) (hW : (rest.map fun v => v.category).sum ≤ 8) (hdg : decode cc pc = .ok (.invokevirtual index, 3)) (hf : cells ≤ R.cells ∧ slots ≤ R.slots)
    (kk : ∀ (q : Int32 × S) (H1 : Heap) (locs1 : List Loc), q = f → lT G s (Wd q.2) w2 H1 → ok q.2 → va_S (lA s) s.heap H1 locs1 → W p l e R s m args below meth c H1 locs1 cells slots Q (F0 m (pc + 3) ls (.int q.1 :: rest))) : W p l e R s m args below meth c H locs cells slots Q (F0 m pc ls st) :=
  va_calli (va_runV (rest := rest) F hM cw ⟨gP.blind, hrec, fun U hU hW1 => ⟨rfl, hE.to hS (hT.fr hS) hU hW1, by rw [hU]; exact hT.1, hT.2.2.1.self⟩⟩ rfl hn hsz hst (lv_room hW) hdg hf) hS (fun q _ h => hT.fr hS q h) (hT.fr hS) (fun r u' t H1 locs1 ht _ hp hB _ hk hS1 => kk (r, u') H1 locs1 hp (hT.next hk hS (by rw [← ht]; exact hB.1) hB.2.1) hB.2.2 hS1)
theorem lVl {f : Int64 × S} (F : CallFix p m c cc nL s args Ts own) (hM : CL l y wy rm G (va_A (Wd u) H.size) Wd ok (.ref b :: As) u f) (cw : CallW R s args own C index y bytes maxL ret wy rm 0 0 n) (hE : gE G (lA s) s) (hT : lT G s (Wd u) w2 H) (hS : va_S (lA s) s.heap H locs) (hrec : ∃ cell : Cell, H[b]? = some cell ∧ cell.vm.isStatics = false ∧ s.vm.findClass C = some cell.cls) (hn : As.length = n) (hsz : ls.size = nL) (hst : st = As.reverse ++ .ref b :: rest) (hW : (rest.map fun v => v.category).sum ≤ 8) (hdg : decode cc pc = .ok (.invokevirtual index, 3)) (hf : cells ≤ R.cells ∧ slots ≤ R.slots)
    (kk : ∀ (q : Int64 × S) (H1 : Heap) (locs1 : List Loc), q = f → lT G s (Wd q.2) w2 H1 → ok q.2 → va_S (lA s) s.heap H1 locs1 → W p l e R s m args below meth c H1 locs1 cells slots Q (F0 m (pc + 3) ls (.long q.1 :: rest))) : W p l e R s m args below meth c H locs cells slots Q (F0 m pc ls st) :=
  va_calll (va_runV (rest := rest) F hM cw ⟨gP.blind, hrec, fun U hU hW1 => ⟨rfl, hE.to hS (hT.fr hS) hU hW1, by rw [hU]; exact hT.1, hT.2.2.1.self⟩⟩ rfl hn hsz hst (lv_room hW) hdg hf) hS (fun q _ h => hT.fr hS q h) (hT.fr hS) (fun r u' t H1 locs1 ht _ hp hB _ hk hS1 => kk (r, u') H1 locs1 hp (hT.next hk hS (by rw [← ht]; exact hB.1) hB.2.1) hB.2.2 hS1)
end LCALL
/-- the script's number behind the place 5 t by j -/
def lx (xs : Nat → Int32) (t j : Nat) : Int32 := xs (nI (5 * t) + nI j).toNatClampNeg
section LARG
variable {p : Program} {l : Launch} {e : Env} {R : Room} {s : State} {m : MethodId} {args : Array Value} {below : List Frame} {meth : Method} {c : Code} {H : Heap} {locs : List Loc} {cells slots : Nat} {Q : State → Prop}
variable {pc : Nat} {ls : Array Slot} {rest : List Value} {cc : ByteArray} {b L t j : Nat} {xs : Nat → Int32} {hF hM : Nat} {k : Int}
theorem lArg (hx : p.tables.exec = Jvm.exec) (hb : c.code = cc) (hX : va_X b L xs s s.heap) (hbl : b < s.heap.size) (hS : va_S (lA s) s.heap H locs) (hL : L ≤ 2560) (ht : 5 * t + 5 ≤ L) (hj : j < 5) (hl : lv_has ls 4 [(0, .ref b), (1, .ref hF), (2, .ref hM), (3, .int (nI (5 * t)))]) (hk : Int32.ofInt k = nI j)
    (d0 : decode cc pc = .ok (.aload_n 0, 1)) (d1 : decode cc (pc + 1) = .ok (.iload_n 3, 1)) (d2 : decode cc (pc + 2) = .ok (.iconst k, 1)) (d3 : decode cc (pc + 3) = .ok (.iadd, 1)) (d4 : decode cc (pc + 4) = .ok (.iaload, 1))
    (kk : W p l e R s m args below meth c H locs cells slots Q (F0 m (pc + 5) ls (.int (lx xs t j) :: rest))) : W p l e R s m args below meth c H locs cells slots Q (F0 m pc ls rest) := by
  have hbA : ¬ lA s b := Nat.not_le.mpr hbl
  have hin : vp_in (nI (5 * t) + nI j) L := by rw [nI_add]; exact vp_in_nI (by omega) (by omega)
  refine lv_aload_n hx hb d0 rfl (lv_at hl 0 rfl) ?_
  refine lv_iload_n hx hb d1 rfl (lv_at hl 3 rfl) ?_
  refine lv_iconst (v := nI j) hx hb d2 hk ?_
  refine lv_iadd hx hb d3 ?_
  exact va_sld hx hb hX hbl hbA hS hin d4 kk
end LARG
theorem lcmp_self (a : Int64) : lg_cmp a a = 0 := by
  unfold lg_cmp
  simp
theorem lSw (v : Int32) : ∃ k : Nat, k < 16 ∧ v &&& 15 = nI k := by
  refine ⟨(v.toBitVec &&& 15#32).toNat, ?_, ?_⟩
  · rw [BitVec.toNat_and]
    exact Nat.lt_of_le_of_lt Nat.and_le_right (by decide)
  · apply Int32.toBitVec_inj.mp
    rw [Int32.toBitVec_and]
    show v.toBitVec &&& 15#32 = BitVec.ofNat 32 (v.toBitVec &&& 15#32).toNat
    simp
theorem lEnd {L t : Nat} (hL : L ≤ 2560) (ht : t ≤ 512) (h : ¬ Int32.ofNat L - nI 5 < nI (5 * t)) : 5 * t + 5 ≤ L := by
  rcases Nat.lt_or_ge L 5 with q | q
  · refine absurd (Int32.lt_of_lt_of_le (b := 0) ?_ (nI_pos' (by omega))) h
    rcases (show L = 0 ∨ L = 1 ∨ L = 2 ∨ L = 3 ∨ L = 4 by omega) with rfl | rfl | rfl | rfl | rfl <;> decide
  · rw [show Int32.ofNat L - nI 5 = nI (L - 5) from pk_sub q, nI_ltI (by omega) (by omega)] at h
    omega
