/-! ===== what the Statement gives of the start ===== -/
theorem lw_own : ∀ j, j < 70 → Cond.eq (.elem (.static RX4 "OWNERS" "[I") (.int (Int32.ofNat j))) (.int (ownF j)) ∈ flatC (Jvm.Cond.and given_1 narrow_1) := by decide +kernel
theorem lw_abv : ∀ j, j < 10 → Cond.eq (.elem (.static RX4 "ABOVE" "[I") (.int (Int32.ofNat j))) (.int (abvF j)) ∈ flatC (Jvm.Cond.and given_1 narrow_1) := by decide +kernel
theorem lw_oa : Cond.arrayOf (.static RX4 "OWNERS" "[I") .int ∈ flatC (Jvm.Cond.and given_1 narrow_1) := by decide +kernel
theorem lw_aa : Cond.arrayOf (.static RX4 "ABOVE" "[I") .int ∈ flatC (Jvm.Cond.and given_1 narrow_1) := by decide +kernel
theorem lw_ol : Cond.eq (.length (.static RX4 "OWNERS" "[I")) (.int (Int32.ofNat 70)) ∈ flatC (Jvm.Cond.and given_1 narrow_1) := by decide +kernel
theorem lw_al : Cond.eq (.length (.static RX4 "ABOVE" "[I")) (.int (Int32.ofNat 10)) ∈ flatC (Jvm.Cond.and given_1 narrow_1) := by decide +kernel
set_option maxHeartbeats 4000000 in
set_option maxRecDepth 100000 in
theorem law_env {p : Program} {s : State} {m : MethodId} {meth : Method} {c : Code} {b L : Nat} {xs : Nat → Int32} (C0 : lw_At p s m meth c b L xs) : ∃ G : gC, gE G (lA s) s := by
  obtain ⟨hx, hb, hr, hml, hown, hts, hX, hbl, hlocks, hgv⟩ := id C0
  have hA : ∀ a : Nat, a < s.heap.size → ¬ lA s a := fun a h => Nat.not_le.mpr h
  obtain ⟨c0, i0, k0⟩ := u_known (C := RX0) (T := TX0) (N := 3) (n := 3) hts inX0 (hts (.instantiable RX0 3) (by decide +kernel))
  obtain ⟨c1, i1, k1⟩ := u_known (C := RX1) (T := TX1) (N := 3) (n := 3) hts inX1 (hts (.instantiable RX1 3) (by decide +kernel))
  obtain ⟨c2, i2, k2⟩ := u_known (C := RX2) (T := TX2) (N := 2) (n := 2) hts inX2 (hts (.instantiable RX2 2) (by decide +kernel))
  obtain ⟨c3, i3, k3⟩ := u_known (C := RX3) (T := TX3) (N := 6) (n := 6) hts inX3 (hts (.instantiable RX3 6) (by decide +kernel))
  obtain ⟨c4, i4, k4⟩ := u_known (C := RX4) (T := TX4) (N := 9) (n := 9) hts inX4 (hts (.instantiable RX4 9) (by decide +kernel))
  obtain ⟨c5, i5, k5⟩ := u_known (C := RX5) (T := TX5) (N := 17) (n := 17) hts inX5 (hts (.instantiable RX5 17) (by decide +kernel))
  obtain ⟨cI, kI, pI, n1, n2, n3⟩ := Cond.arrayClass_spec (hts (.arrayClass .int) (by decide +kernel))
  obtain ⟨pV, cV, kV, v1, -, v3, v4, v5⟩ := Cond.arrayOver_spec (hts (.arrayOver (.object RX3)) (by decide +kernel))
  obtain ⟨pQ, cQ, kQ, q1, -, q3, q4, q5⟩ := Cond.arrayOver_spec (hts (.arrayOver (.object RX1)) (by decide +kernel))
  have hs := flat_of_before _ hgv
  obtain ⟨tO, eO, TO⟩ := va_Tof (tm := .static RX4 "OWNERS" "[I") (ty := .int) (N := 70) (f := fun j => .int (ownF j)) (A := lA s) (by decide) (hs _ lw_oa) (va_eqt (hs _ lw_ol)) (fun j hj => va_eqt (hs _ (lw_own j hj))) hA
  obtain ⟨tA, eA, TA⟩ := va_Tof (tm := .static RX4 "ABOVE" "[I") (ty := .int) (N := 10) (f := fun j => .int (abvF j)) (A := lA s) (by decide) (hs _ lw_aa) (va_eqt (hs _ lw_al)) (fun j hj => va_eqt (hs _ (lw_abv j hj))) hA
  have hin : (Cond.initialized RX4).before #[Value.ref b] s = true := hts (.initialized RX4) (by decide +kernel)
  refine ⟨(fun k => match k with | 0 => c0 | 1 => c1 | 2 => c2 | 3 => c3 | 4 => c4 | _ => c5, fun k => match k with | 0 => i0 | 1 => i1 | 2 => i2 | 3 => i3 | 4 => i4 | _ => i5, cI, cV, cQ, tO, tA), ⟨?_, ?_⟩, ⟨va_Nw.of rfl (hts (.fieldLinkNest RX0 77 RX4 "ABOVE" "[I" RX4) (by decide +kernel)), va_Nw.of rfl (hts (.methodLinkNest RX0 38 yX4_ownerOf RX4) (by decide +kernel)), va_Nw.of rfl (hts (.methodLinkNest RX0 73 yX4_within RX4) (by decide +kernel)), va_Nw.of rfl (hts (.methodLinkNest RX2 19 yX4_within RX4) (by decide +kernel))⟩, ⟨va_Zref (hts (.laysStatic RX4 "OWNERS" "[I") (by decide +kernel)) hin eO hA, TO⟩, va_Zref (hts (.laysStatic RX4 "ABOVE" "[I") (by decide +kernel)) hin eA hA, TA⟩
  · intro k q hq
    match k, hq with
    | 0, hq => cases hq; exact k0
    | 1, hq => cases hq; exact k1
    | 2, hq => cases hq; exact k2
    | 3, hq => cases hq; exact k3
    | 4, hq => cases hq; exact k4
    | 5, hq => cases hq; exact k5
    | k + 6, hq => simp [vwCl] at hq
  · intro k q hq
    match k, hq with
    | 0, hq => cases hq; exact ⟨fun n z => ⟨fun k h => (by cases h), kI, n2, pI, n3⟩, n1⟩
    | 1, hq => cases hq; exact ⟨fun n z => ⟨fun k h => (by cases h), kV, v3, pV, v4⟩, kV, pV, v3, v4, v1, v5⟩
    | 2, hq => cases hq; exact ⟨fun n z => ⟨fun k h => (by cases h), kQ, q3, pQ, q4⟩, kQ, pQ, q3, q4, q1, q5⟩
    | k + 3, hq => simp [gTy] at hq
/-- two worlds out of one -/
theorem lT.of {G : gC} {s : State} {w1 w2 : va_W} {H : Heap} (hP : va_P (gD G) vwCl (w1 ++ w2) H) (hD : va_D (lA s) (w1 ++ w2)) : lT G s w1 w2 H := by
  have g1 : ∀ {k : Nat} {q : Nat × va_E}, w1[k]? = some q → (w1 ++ w2)[k]? = some q := fun {k q} h => by
    rw [List.getElem?_append_left (List.getElem?_eq_some_iff.mp h).1]; exact h
  have g2 : ∀ {k : Nat} {q : Nat × va_E}, w2[k]? = some q → (w1 ++ w2)[w1.length + k]? = some q := fun {k q} h => by
    rw [List.getElem?_append_right (by omega), Nat.add_sub_cancel_left]; exact h
  refine ⟨fun k q h => hP k q (g1 h), fun k q h => hP _ q (g2 h), ⟨fun i j p q h1 h2 e => hD.1 i j p q (g1 h1) (g1 h2) e, fun k q h => hD.2 k q (g1 h)⟩, ⟨fun i j p q h1 h2 e => ?_, fun k q h => hD.2 _ q (g2 h)⟩, fun i j p q h1 h2 e => ?_⟩
  · have := hD.1 _ _ p q (g2 h1) (g2 h2) e
    omega
  · have h3 := hD.1 _ _ p q (g1 h1) (g2 h2) e
    have h4 := (List.getElem?_eq_some_iff.mp h1).1
    omega
theorem abs0 : absC m_0 0 = c_0 := by
  have e1 : sT (m_dk m_0) (m_tk m_0) 0 = fun _ => 0 := by
    funext d
    show (if d < 3 then (0 : Int32) else 0) = 0
    rw [ite_self]
  have e2 : cT (m_dk m_0) 0 = fun _ => 0 := by
    funext d
    show (if d < 3 then (0 : Int32) else 0) = 0
    rw [ite_self]
  unfold absC
  rw [e1, e2]
  rfl
theorem Iv0 : Iv m_0 0 := ⟨rfl, by omega, fun j h => absurd h (Nat.not_lt_zero j), fun _ _ => ⟨rfl, rfl⟩⟩
theorem ok0' : m_ok m_0 := ⟨⟨by decide, by decide⟩, ⟨by decide, by decide⟩, fun _ _ => (by decide : (0 : Int32) ≤ 2)⟩
