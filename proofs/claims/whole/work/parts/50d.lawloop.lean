set_option maxHeartbeats 4000000 in
set_option maxRecDepth 100000 in
theorem law_loop {p : Program} (l : Launch) {e : Env} {s : State} {m : MethodId} {below : List Frame} {meth : Method} {c : Code} {b L : Nat} {xs : Nat → Int32} (G : gC) (hF hVs hDs hB hT hW hEn : Nat) (dd : Nat → Nat) (hM hTm hkd hsz hld hch hdk htk hme hte : Nat) (hL : L ≤ 2560) (C0 : lw_At p s m meth c b L xs) (hE : gE G (lA s) s) : ∀ (n t : Nat), 512 < t + n → t ≤ 512 → ∀ (u : MS) (N : Nat) (ad : Nat → Nat) (H : Heap) (locs : List Loc) (cells slots : Nat), lI G hF hVs hDs hB hT hW hEn dd hM hTm hkd hsz hld hch hdk htk hme hte s u N ad H → va_S (lA s) s.heap H locs → cells ≤ 20 + t → slots ≤ 1400 + 6 * t → ∀ ls : Array Slot, lv_has ls 4 [(0, .ref b), (1, .ref hF), (2, .ref hM), (3, .int (nI (5 * t)))] → W p l e room_1 s m #[Value.ref b] below meth c H locs cells slots (lw_Z below #[Value.ref b] s) (F0 m 18 ls []) := by
  obtain ⟨hx, hb, hr, hml, hown, hts0, hX, hbl, hlocks, hgv⟩ := id C0
  have hbA : ¬ lA s b := Nat.not_le.mpr hbl
  intro n
  induction n with
  | zero => intro t h1 h2; exact absurd h1 (by omega)
  | succ n ih =>
    intro t h1 h2 u N ad H locs cells slots I hS hc hs ls hl
    refine lv_iload_n hx hb dL_law_18 rfl (lv_at hl 3 rfl) ?_
    refine lv_aload_n hx hb dL_law_19 rfl (lv_at hl 0 rfl) ?_
    refine va_slen hx hb hX hbl hbA hS dL_law_20 ?_
    refine lv_iconst (v := nI 5) hx hb dL_law_21 (by decide) ?_
    refine lv_isub hx hb dL_law_22 ?_
    refine lv_icmp_gt (tgt := 525) hx hb dL_law_23 (by decide) (fun c1 => ?_) (fun c1 => ?_)
    · refine lv_iconst (v := 1) hx hb dL_law_525 (by decide) ?_
      refine va_forget (fun q hq => hS.2.2 q hq) ?_
      refine W.widen (k := 600000) (n := 7302250) (by omega) (by omega) ?_
      exact lw_ret hx hb hr hlocks dL_law_526
    · have ht5 := lEnd hL h2 c1
      have h_in : vp_in (nI (5 * t)) L := vp_in_nI (by omega) (by omega)
      refine lv_aload_n hx hb dL_law_26 rfl (lv_at hl 0 rfl) ?_
      refine lv_iload_n hx hb dL_law_27 rfl (lv_at hl 3 rfl) ?_
      refine va_sld hx hb hX hbl hbA hS h_in dL_law_28 ?_
      refine lv_bipush (v := 15) hx hb dL_law_29 (by decide) ?_
      refine lv_iand hx hb dL_law_31 ?_
      obtain ⟨k, hk, ek⟩ := lSw (xs (nI (5 * t)).toNatClampNeg)
      rw [ek]
      have K : lK l G hF hVs hDs hB hT hW hEn dd hM hTm hkd hsz hld hch hdk htk hme hte p e s m b below meth c ls cells slots (lw_Z below #[Value.ref b] s) := by
        intro u N ad H locs cells' slots' I hS hc' hs'
        refine lv_iinc (v := nI (5 * (t + 1))) (lv' := [(3, .int (nI (5 * (t + 1)))), (0, .ref b), (1, .ref hF), (2, .ref hM)]) hx hb dL_law_519 hl (k := 3) rfl (nI_add (5 * t) 5) (by decide) rfl (fun ls hl => ?_)
        refine lv_goto (tgt := 18) hx hb dL_law_522 (by decide) ?_
        exact ih (t + 1) (by omega) (by omega) u N ad H locs cells' slots' I hS (by omega) (by omega) ls (lv_sub hl [1, 2, 3, 0] rfl)
      have hc1 : cells < 600000 := by omega
      have hs1 : slots + 6 ≤ 7302250 := by omega
      rcases (show k = 0 ∨ k = 1 ∨ k = 2 ∨ k = 3 ∨ k = 4 ∨ k = 5 ∨ k = 6 ∨ k = 7 ∨ k = 8 ∨ k = 9 ∨ k = 10 ∨ k = 11 ∨ k = 12 ∨ k = 13 ∨ k = 14 ∨ k = 15 by omega) with rfl | rfl | rfl | rfl | rfl | rfl | rfl | rfl | rfl | rfl | rfl | rfl | rfl | rfl | rfl | rfl
      · exact gTs (tgt := 104) (off := 72) hx hb dL_law_32 rfl (by decide) (by decide) (lo_term l G hF hVs hDs hB hT hW hEn dd hM hTm hkd hsz hld hch hdk htk hme hte hL C0 hE ht5 I hS hl hc1 hs1 K)
      · exact gTs (tgt := 137) (off := 105) hx hb dL_law_32 rfl (by decide) (by decide) (lo_deck l G hF hVs hDs hB hT hW hEn dd hM hTm hkd hsz hld hch hdk htk hme hte hL C0 hE ht5 I hS hl hc1 hs1 K)
      · exact gTs (tgt := 170) (off := 138) hx hb dL_law_32 rfl (by decide) (by decide) (lo_vehicle l G hF hVs hDs hB hT hW hEn dd hM hTm hkd hsz hld hch hdk htk hme hte hL C0 hE ht5 I hS hl hc1 hs1 K)
      · exact gTs (tgt := 213) (off := 181) hx hb dL_law_32 rfl (by decide) (by decide) (lo_ask l G hF hVs hDs hB hT hW hEn dd hM hTm hkd hsz hld hch hdk htk hme hte hL C0 hE ht5 I hS hl hc1 hs1 K)
      · exact gTs (tgt := 257) (off := 225) hx hb dL_law_32 rfl (by decide) (by decide) (lo_trace l G hF hVs hDs hB hT hW hEn dd hM hTm hkd hsz hld hch hdk htk hme hte hL C0 hE ht5 I hS hl hc1 hs1 K)
      · exact gTs (tgt := 280) (off := 248) hx hb dL_law_32 rfl (by decide) (by decide) (lo_board l G hF hVs hDs hB hT hW hEn dd hM hTm hkd hsz hld hch hdk htk hme hte hL C0 hE ht5 I hS hl hc1 hs1 K)
      · exact gTs (tgt := 333) (off := 301) hx hb dL_law_32 rfl (by decide) (by decide) (lo_leave l G hF hVs hDs hB hT hW hEn dd hM hTm hkd hsz hld hch hdk htk hme hte hL C0 hE ht5 I hS hl hc1 hs1 K)
      · exact gTs (tgt := 356) (off := 324) hx hb dL_law_32 rfl (by decide) (by decide) (lo_risk l G hF hVs hDs hB hT hW hEn dd hM hTm hkd hsz hld hch hdk htk hme hte hL C0 hE ht5 I hS hl hc1 hs1 K)
      · exact gTs (tgt := 369) (off := 337) hx hb dL_law_32 rfl (by decide) (by decide) (lo_pull l G hF hVs hDs hB hT hW hEn dd hM hTm hkd hsz hld hch hdk htk hme hte hL C0 hE ht5 I hS hl hc1 hs1 K)
      · exact gTs (tgt := 402) (off := 370) hx hb dL_law_32 rfl (by decide) (by decide) (lo_pulled l G hF hVs hDs hB hT hW hEn dd hM hTm hkd hsz hld hch hdk htk hme hte hL C0 hE ht5 I hS hl hc1 hs1 K)
      · exact gTs (tgt := 415) (off := 383) hx hb dL_law_32 rfl (by decide) (by decide) (lo_told l G hF hVs hDs hB hT hW hEn dd hM hTm hkd hsz hld hch hdk htk hme hte hL C0 hE ht5 I hS hl hc1 hs1 K)
      · exact gTs (tgt := 449) (off := 417) hx hb dL_law_32 rfl (by decide) (by decide) (lo_on l G hF hVs hDs hB hT hW hEn dd hM hTm hkd hsz hld hch hdk htk hme hte hL C0 hE ht5 I hS hl hc1 hs1 K)
      · exact gTs (tgt := 482) (off := 450) hx hb dL_law_32 rfl (by decide) (by decide) (lo_till l G hF hVs hDs hB hT hW hEn dd hM hTm hkd hsz hld hch hdk htk hme hte hL C0 hE ht5 I hS hl hc1 hs1 K)
      · exact gTs (tgt := 496) (off := 464) hx hb dL_law_32 rfl (by decide) (by decide) (lo_count l G hF hVs hDs hB hT hW hEn dd hM hTm hkd hsz hld hch hdk htk hme hte hL C0 hE ht5 I hS hl hc1 hs1 K)
      · exact gTs (tgt := 519) (off := 487) hx hb dL_law_32 rfl (by decide) (by decide) (K u N ad H locs cells slots I hS (Nat.le_succ _) (by omega))
      · exact gTs (tgt := 519) (off := 487) hx hb dL_law_32 rfl (by decide) (by decide) (K u N ad H locs cells slots I hS (Nat.le_succ _) (by omega))
