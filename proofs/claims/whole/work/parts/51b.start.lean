set_option maxHeartbeats 4000000 in
set_option maxRecDepth 100000 in
/-- THE LAW, from its entry -/
theorem whole_start {p : Program} {e : Env} {s : State} {m : MethodId} {below : List Frame} {meth : Method} {c : Code} (l : Launch) {b L : Nat} {xs : Nat → Int32} (hL : L ≤ 2560) (C0 : lw_At p s m meth c b L xs) : W p l e room_1 s m #[Value.ref b] below meth c s.heap [] 0 0 (lw_Z below #[Value.ref b] s) (entryFrame m ([Value.ref b] : List Value).toArray 4) := by
  obtain ⟨G, hE⟩ := law_env C0
  obtain ⟨hx, hb, hr, hml, hown, hts0, hX, hbl, hlocks, hgv⟩ := id C0
  have hts : ∀ w ∈ wsL_law, w.before #[Value.ref b] s = true := fun w h => hts0 w (wsL_law_in w h)
  have hown : s.vm.findClass RL = some m.cls := hown
  have hA : ∀ q : Nat, s.heap.size ≤ q → lA s q := fun _ h => h
  have hS : va_S (lA s) s.heap s.heap [] := va_S.rf
  have hP : va_P (gD G) vwCl [] s.heap := fun k q h => by simp at h
  have hD : va_D (lA s) [] := ⟨fun i j p q h => by simp at h, fun k q h => by simp at h⟩
  have hl := lv_entry ([.ref b]) (n := 4) (Nat.le_of_ble_eq_true rfl)
  rw [lg_entry_eq]
  generalize (lg_sl ([.ref b]) ++ List.replicate (4 - (lg_sl ([.ref b])).length) Slot.unset).toArray = ls at hl ⊢
  have hl : lv_has ls 4 [(0, .ref b)] := hl
  refine va_new (ci := 4) (fs := [.null, .int 0, .null, .null, .int 0, .int 0, .int 0, .int 0, .long 0]) (C := RX4) (T := TX4) (N := 9) hx hb hts inlX4 tyX4 tyX4_ok hown (hts0 (.classLink RL 7 RX4) (by decide +kernel)) (hts0 (.instantiable RX4 9) (by decide +kernel)) (hts0 (.initialized RX4) (by decide +kernel)) hE.1 hP hD hS hA rfl (fun j hj => by rcases (show j = 0 ∨ j = 1 ∨ j = 2 ∨ j = 3 ∨ j = 4 ∨ j = 5 ∨ j = 6 ∨ j = 7 ∨ j = 8 by omega) with rfl | rfl | rfl | rfl | rfl | rfl | rfl | rfl | rfl <;> rfl) (Nat.le_of_ble_eq_true rfl) (Nat.le_of_ble_eq_true rfl) dL_law_0 (fun hF H hP hD hS => ?_)
  have hP : va_P (gD G) vwCl [(hF, .inr (4, [.null, .int 0, .null, .null, .int 0, .int 0, .int 0, .int 0, .long 0]))] H := hP
  have hD : va_D (lA s) [(hF, .inr (4, [.null, .int 0, .null, .null, .int 0, .int 0, .int 0, .int 0, .long 0]))] := hD
  refine lv_dup hx hb dL_law_3 rfl ?_
  have hFc := va_free (wc := [(hF, .inr (4, [.null, .int 0, .null, .null, .int 0, .int 0, .int 0, .int 0, .long 0]))]) hD hS hA [0] rfl
  refine va_callv (va_runI (As := []) (rest := [.ref hF]) ⟨hx, hb, hml, hown, hts⟩ (c_X4_init l G (va_A [(hF, .inr (4, [.null, .int 0, .null, .null, .int 0, .int 0, .int 0, .int 0, .long 0]))] H.size) hF H.size (fun q h => Or.inr h)) (cwI 0 hts gL_law_X4_init rfl rfl rfl (hts0 (.initialized RX4) (by decide +kernel)) (hts0 (.methodLink RL 9 yX4_init) (by decide +kernel)) (hts0 (.instanceMethod yX4_init) (by decide +kernel)) rfl (by decide +kernel) ⟨Nat.le_of_ble_eq_true rfl, Nat.le_of_ble_eq_true rfl⟩) ⟨fun a U g mk q => ⟨q.1, q.2.1, q.2.2.1.calling g mk a, q.2.2.2.1, q.2.2.2.2.1, va_Nw.same rfl rfl q.2.2.2.2.2.1, va_Nw.same rfl rfl q.2.2.2.2.2.2.1, va_Nw.same rfl rfl q.2.2.2.2.2.2.2.1, va_AO.moved (u := U) (U := U.calling g mk a) (Vm.Alike.refl U.vm) q.2.2.2.2.2.2.2.2.1, va_AO.moved (u := U) (U := U.calling g mk a) (Vm.Alike.refl U.vm) q.2.2.2.2.2.2.2.2.2⟩, fun U hU hW => ⟨rfl, by rw [hU], hE.to hS hFc hU hW, by rw [hU]; exact hP, hD.self, va_Nw.warmM hW (va_Nw.of rfl (hts0 (.methodLinkNest RX4 21 yX1_init RX4) (by decide +kernel))), va_Nw.warmM hW (va_Nw.of rfl (hts0 (.methodLinkNest RX4 24 yX0_init RX4) (by decide +kernel))), va_Nw.warmM hW (va_Nw.of rfl (hts0 (.methodLinkNest RX0 17 yX2_init RX4) (by decide +kernel))), va_AO.moved hW.alike (va_AO.of (hts0 (.arrayOver (.object RX3)) (by decide +kernel))), va_AO.moved hW.alike (va_AO.of (hts0 (.arrayOver (.object RX1)) (by decide +kernel)))⟩⟩ rfl rfl hl.1 rfl (lv_room (Nat.le_of_ble_eq_true rfl)) dL_law_4 ⟨Nat.le_of_ble_eq_true rfl, Nat.le_of_ble_eq_true rfl⟩) hS (fun q _ h => hFc q h) hFc (fun q T1 H1 locs ht _ _ hB1 _ _ hS => ?_)
  obtain ⟨hVs, hDs, hB, hT, hW, hEn, dd⟩ := q
  obtain ⟨hP, hD⟩ := hB1
  rw [ht] at hP
  have hP : va_P (gD G) vwCl (c_W G hF hVs hDs hB hT hW hEn dd 0 (fun _ => 0) c_0) H1 := hP
  have hD : va_D (lA s) (c_W G hF hVs hDs hB hT hW hEn dd 0 (fun _ => 0) c_0) := hD.weaken (fun _ x _ z => hFc x.1 z)
  generalize hw0 : c_W G hF hVs hDs hB hT hW hEn dd 0 (fun _ => 0) c_0 = w0 at hP hD
  refine W.widen (k := 10) (n := 504) (by omega) (by omega) ?_
  refine lv_astore_n (lv' := [(1, .ref hF), (0, .ref b)]) hx hb dL_law_7 rfl hl (by decide) rfl (fun ls hl => ?_)
  refine va_new (ci := 5) (fs := [.null, .int 0, .null, .null, .null, .null, .null, .null, .null, .long 0, .int 0, .int 0, .null, .int 0, .int 0, .int 0, .int 0]) (C := RX5) (T := TX5) (N := 17) hx hb hts inlX5 tyX5 tyX5_ok hown (hts0 (.classLink RL 10 RX5) (by decide +kernel)) (hts0 (.instantiable RX5 17) (by decide +kernel)) (hts0 (.initialized RX5) (by decide +kernel)) hE.1 hP hD hS hA rfl (fun j hj => by rcases (show j = 0 ∨ j = 1 ∨ j = 2 ∨ j = 3 ∨ j = 4 ∨ j = 5 ∨ j = 6 ∨ j = 7 ∨ j = 8 ∨ j = 9 ∨ j = 10 ∨ j = 11 ∨ j = 12 ∨ j = 13 ∨ j = 14 ∨ j = 15 ∨ j = 16 by omega) with rfl | rfl | rfl | rfl | rfl | rfl | rfl | rfl | rfl | rfl | rfl | rfl | rfl | rfl | rfl | rfl | rfl <;> rfl) (Nat.le_of_ble_eq_true rfl) (Nat.le_of_ble_eq_true rfl) dL_law_8 (fun hM H hP hD hS => ?_)
  have hTT := (lT.of hP hD).symm
  refine lv_dup hx hb dL_law_11 rfl ?_
  have hFr := hTT.fr hS
  have hS0 := hS
  refine va_callv (va_runI (As := []) (rest := [.ref hM]) ⟨hx, hb, hml, hown, hts⟩ (c_X5_init l G (va_A [(hM, .inr (5, [.null, .int 0, .null, .null, .null, .null, .null, .null, .null, .long 0, .int 0, .int 0, .null, .int 0, .int 0, .int 0, .int 0]))] H.size) hM H.size (fun q h => Or.inr h)) (cwI 0 hts gL_law_X5_init rfl rfl rfl (hts0 (.initialized RX5) (by decide +kernel)) (hts0 (.methodLink RL 12 yX5_init) (by decide +kernel)) (hts0 (.instanceMethod yX5_init) (by decide +kernel)) rfl (by decide +kernel) ⟨Nat.le_of_ble_eq_true rfl, Nat.le_of_ble_eq_true rfl⟩) ⟨fun a U g mk q => ⟨q.1, q.2.1, q.2.2.1.calling g mk a, q.2.2.2⟩, fun U hU hW => ⟨rfl, by rw [hU], hE.to hS hFr hU hW, by rw [hU]; exact hTT.1, hTT.2.2.1.self, trivial⟩⟩ rfl rfl hl.1 rfl (lv_room (Nat.le_of_ble_eq_true rfl)) dL_law_12 ⟨Nat.le_of_ble_eq_true rfl, Nat.le_of_ble_eq_true rfl⟩) hS (fun q _ h => hFr q h) hFr (fun q T2 H2 locs2 ht2 _ _ hB2 _ hk2 hS => ?_)
  obtain ⟨hTm, hkd, hsz, hld, hch, hdk, htk, hme, hte⟩ := q
  have hTT := (hTT.next hk2 hS0 (by rw [← ht2]; exact hB2.1) hB2.2).symm
  have hTT : lT G s w0 (m_W (gI G) hM hTm hkd hsz hld hch hdk htk hme hte m_0) H2 := hTT
  rw [← hw0, ← abs0] at hTT
  refine W.widen (k := 20) (n := 1352) (by omega) (by omega) ?_
  refine lv_astore_n (lv' := [(2, .ref hM), (1, .ref hF), (0, .ref b)]) hx hb dL_law_15 rfl hl (by decide) rfl (fun ls hl => ?_)
  refine lv_iconst (v := 0) hx hb dL_law_16 (by decide) ?_
  refine lv_istore_n (lv' := [(3, .int 0), (2, .ref hM), (1, .ref hF), (0, .ref b)]) hx hb dL_law_17 rfl hl (by decide) rfl (fun ls hl => ?_)
  exact law_loop l G hF hVs hDs hB hT hW hEn dd hM hTm hkd hsz hld hch hdk htk hme hte hL C0 hE 513 0 (by omega) (by omega) m_0 0 (fun _ => 0) H2 locs2 20 1352 ⟨Iv0, ok0', hTT⟩ hS (by omega) (by omega) ls (lv_sub hl [3, 2, 1, 0] rfl)
