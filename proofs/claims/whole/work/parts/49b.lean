/-! vehicle -/
def m5 (m : MS) (a b c d : Nat → Int32) (e : Int32) : MS := (m_T m, e, a, b, c, m_ch m, d, m_tk m, m_me m, m_til m, m_rk m, m_pl m, m_te m, m_z m, m_ac m, m_fa m, m_fl m)
theorem s5 (m : MS) (a b c d : Nat → Int32) (e : Int32) : m_s_v (m_s_dk (m_s_ld (m_s_sz (m_s_kd m a) b) c) d) e = m5 m a b c d e := rfl
theorem v1 (m : MS) (a : Nat → Int32) : m_v (m_s_kd m a) = m_v m := rfl
theorem v2 (m : MS) (a b : Nat → Int32) : m_v (m_s_sz (m_s_kd m a) b) = m_v m := rfl
theorem v3 (m : MS) (a b c : Nat → Int32) : m_v (m_s_ld (m_s_sz (m_s_kd m a) b) c) = m_v m := rfl
theorem v4 (m : MS) (a b c d : Nat → Int32) : m_v (m_s_dk (m_s_ld (m_s_sz (m_s_kd m a) b) c) d) = m_v m := rfl
theorem v5 (m : MS) (a b c d : Nat → Int32) (e : Int32) : m_v (m5 m a b c d e) = e := rfl
theorem z1 (m : MS) (a : Nat → Int32) : m_sz (m_s_kd m a) = m_sz m := rfl
theorem z2 (m : MS) (a b : Nat → Int32) : m_ld (m_s_sz (m_s_kd m a) b) = m_ld m := rfl
theorem z3 (m : MS) (a b c : Nat → Int32) : m_dk (m_s_ld (m_s_sz (m_s_kd m a) b) c) = m_dk m := rfl
theorem upd_0 {f : Nat → Int32} {j : Nat} {x : Int32} (h : f j = x) : upd f j x = f := by rw [← h]; exact upd_id f j
theorem R_vehicle {m : MS} {N : Nat} (h : Iv m N) (x y z : Int32) : ∃ N' : Nat, f_X4_vehicle N x y z (absC m N) = ((f_X5_vehicle x y z m).1, N', absC (f_X5_vehicle x y z m).2 N') ∧ Iv (f_X5_vehicle x y z m).2 N' := by
  unfold f_X4_vehicle f_X5_vehicle f_X5_vehicle_k6
  rw [in_w (b := 1) (d := 9) (by decide) (by decide)]
  by_cases c1 : f_X4_within x 1 9 = 0
  · simp only [if_pos c1]; first | exact ⟨N, rfl, h⟩ | exact ⟨N, trivial, h⟩
  · simp only [if_neg c1]
    unfold f_X5_vehicle_k18
    rw [in_w (b := 1) (d := 100) (by decide) (by decide)]
    by_cases c2 : f_X4_within y 1 100 = 0
    · simp only [if_pos c2]; first | exact ⟨N, rfl, h⟩ | exact ⟨N, trivial, h⟩
    · simp only [if_neg c2]
      unfold f_X5_vehicle_k30
      rw [in_w (b := 0) (d := 100000) (by decide) (by decide)]
      by_cases c3 : f_X4_within z 0 100000 = 0
      · simp only [if_pos c3]; first | exact ⟨N, rfl, h⟩ | exact ⟨N, trivial, h⟩
      · simp only [if_neg c3, v1, v2, v3, v4, z1, z2, z3, s5, v5, N_cl h]
        have hN := h.2.1
        by_cases hN2 : N = 70
        · have c4 : m_v m = 70 := by rw [h.1, hN2]; rfl
          have c5 : ¬ nI N < 70 := by rw [hN2]; decide
          simp only [if_pos c4, if_neg c5]; first | exact ⟨N, rfl, h⟩ | exact ⟨N, trivial, h⟩
        · have c5 : nI N < 70 := (nI_ltI (a := N) (b := 70) (by omega) (by omega)).mpr (by omega)
          have c4 : ¬ m_v m = 70 := by rw [h.1]; exact fun q => absurd ((nI_eq (a := N) (b := 70) (by omega) (by omega)).mp q) hN2
          simp only [if_neg c4, if_pos c5]
          have e1 : m_v m + 1 - 1 = nI N := by rw [h.1, nI_1, nI_pred]
          have ech : upd (m_ch m) N 0 = m_ch m := upd_0 (h.2.2.2 N (Nat.le_refl _)).1
          have etk : upd (m_tk m) N 0 = m_tk m := upd_0 (h.2.2.2 N (Nat.le_refl _)).2
          refine ⟨N + 1, ?_, ?_⟩
          · rw [e1]
            show (nI N, N + 1, ((upd (m_kd m) N x, upd (m_sz m) N y, upd (m_ld m) N z, upd (m_ch m) N 0, upd (m_dk m) N (-1), upd (m_tk m) N 0, m_me m, sT (m_dk m) (m_tk m) N, cT (m_dk m) N, m_T m, m_te m, m_fl m, m_z m, m_ac m, m_fa m, m_rk m, m_pl m, m_til m) : FS)) = (nI N, N + 1, ((upd (m_kd m) N x, upd (m_sz m) N y, upd (m_ld m) N z, m_ch m, upd (m_dk m) N (-1), m_tk m, m_me m, sT (upd (m_dk m) N (-1)) (m_tk m) (N + 1), cT (upd (m_dk m) N (-1)) (N + 1), m_T m, m_te m, m_fl m, m_z m, m_ac m, m_fa m, m_rk m, m_pl m, m_til m) : FS))
            rw [ech, etk, sT_new, cT_new]
          · refine ⟨?_, by omega, fun i hi => ?_, fun i hi => h.2.2.2 i (by omega)⟩
            · show m_v m + 1 = nI (N + 1)
              rw [h.1, nI_1]
            · show (1 ≤ upd (m_kd m) N x i ∧ upd (m_kd m) N x i ≤ 9) ∧ (1 ≤ upd (m_sz m) N y i ∧ upd (m_sz m) N y i ≤ 100) ∧ (upd (m_dk m) N (-1) i = -1 ∨ ∃ d : Nat, d < 3 ∧ upd (m_dk m) N (-1) i = nI d)
              by_cases hiN : i = N
              · rw [hiN, pk_us, pk_us, pk_us]
                exact ⟨within_of c1, within_of c2, Or.inl rfl⟩
              · rw [pk_un hiN, pk_un hiN, pk_un hiN]
                exact h.2.2.1 i (by omega)
/-! acts -/
theorem act_eq (m : MS) : f_X5_act m = (m_T m, m_v m, m_kd m, m_sz m, m_ld m, m_ch m, m_dk m, m_tk m, m_me m, m_til m, m_rk m, m_pl m, m_te m, 0, m_ac m + 1, m_fa m, 0) := rfl
theorem act_w (m : MS) (N : Nat) : f_X4_beginAct N (absC m N) = absC (f_X5_act m) N := by
  unfold f_X4_beginAct f_X4_beginAct_w7 f_X4_beginAct_k14 f_X0_begin f_X0_begin_w5 f_X0_begin_w10
  rw [act_eq]
  rfl
theorem Iv_act {m : MS} {N : Nat} (h : Iv m N) : Iv (f_X5_act m) N := by rw [act_eq]; exact h
theorem fl_act (m : MS) : m_fl (f_X5_act m) = 0 := by rw [act_eq]
theorem toB_abs (m : MS) (N j : Nat) : toB (absC m N) j = pB m j := rfl
theorem frB_mB {m : MS} {N j : Nat} {b : BS} (hb : fx b = fx (pB m j)) : frB (absC m N) j b = absC (mB m j b) N := by
  simp only [fx, Prod.mk.injEq] at hb
  obtain ⟨hT, hkd, hsz, hld, hdk, hmt⟩ := hb
  show (upd (m_kd m) j (b_kd b), upd (m_sz m) j (b_sz b), upd (m_ld m) j (b_ld b), upd (m_ch m) j (b_ch b), upd (m_dk m) j (b_dk b), upd (m_tk m) j (b_mt b), m_me m, sT (m_dk m) (m_tk m) N, cT (m_dk m) N, b_T b, b_te b, b_fl b, b_z b, m_ac m, m_fa m, m_rk m, m_pl m, m_til m) = (m_kd m, m_sz m, m_ld m, upd (m_ch m) j (b_ch b), m_dk m, m_tk m, m_me m, sT (m_dk m) (m_tk m) N, cT (m_dk m) N, m_T m, b_te b, b_fl b, b_z b, m_ac m, m_fa m, m_rk m, m_pl m, m_til m)
  rw [hT, upd_0 hkd.symm, upd_0 hsz.symm, upd_0 hld.symm, upd_0 hdk.symm, upd_0 hmt.symm]
  rfl
theorem Iv_mB {m : MS} {N j : Nat} {b : BS} (h : Iv m N) (hj : j < N) : Iv (mB m j b) N := by
  refine ⟨h.1, h.2.1, h.2.2.1, fun i hi => ⟨?_, (h.2.2.2 i hi).2⟩⟩
  show upd (m_ch m) j (b_ch b) i = 0
  rw [pk_un (by omega)]
  exact (h.2.2.2 i hi).1
theorem kd_cases {x : Int32} (h : 1 ≤ x ∧ x ≤ 9) : x = 1 ∨ x = 2 ∨ x = 3 ∨ x = 4 ∨ x = 5 ∨ x = 6 ∨ x = 7 ∨ x = 8 ∨ x = 9 := by
  obtain ⟨j, hj, rfl⟩ := nI_w (n := 9) (by omega) ⟨Int32.le_trans (by decide) h.1, h.2⟩
  have h1 : nI 1 ≤ nI j := h.1
  rw [nI_leI (by omega) (by omega)] at h1
  rcases (show j = 1 ∨ j = 2 ∨ j = 3 ∨ j = 4 ∨ j = 5 ∨ j = 6 ∨ j = 7 ∨ j = 8 ∨ j = 9 by omega) with rfl | rfl | rfl | rfl | rfl | rfl | rfl | rfl | rfl
  · exact Or.inl rfl
  · exact Or.inr (Or.inl rfl)
  · exact Or.inr (Or.inr (Or.inl rfl))
  · exact Or.inr (Or.inr (Or.inr (Or.inl rfl)))
  · exact Or.inr (Or.inr (Or.inr (Or.inr (Or.inl rfl))))
  · exact Or.inr (Or.inr (Or.inr (Or.inr (Or.inr (Or.inl rfl)))))
  · exact Or.inr (Or.inr (Or.inr (Or.inr (Or.inr (Or.inr (Or.inl rfl))))))
  · exact Or.inr (Or.inr (Or.inr (Or.inr (Or.inr (Or.inr (Or.inr (Or.inl rfl)))))))
  · exact Or.inr (Or.inr (Or.inr (Or.inr (Or.inr (Or.inr (Or.inr (Or.inr rfl)))))))
theorem sz_1 {x : Int32} (h : 1 ≤ x ∧ x ≤ 100) : ¬ x + 2 - 1 < 1 ∧ (2 : Int32) ≤ x + 2 := by
  obtain ⟨j, hj, rfl⟩ := nI_w (n := 100) (by omega) ⟨Int32.le_trans (by decide) h.1, h.2⟩
  rw [show (2 : Int32) = nI 2 from rfl, show (1 : Int32) = nI 1 from rfl, nI_add, pk_sub (by omega)]
  exact ⟨nI_nlt (by omega) (by omega), nI_le (by omega) (by omega)⟩
theorem hooked_of {x : Int32} (h : 1 ≤ x ∧ x ≤ 9) (hh : ¬ f_X5_isHooked x = 0) : x = 3 ∨ x = 4 ∨ x = 5 ∨ x = 7 ∨ x = 8 ∨ x = 9 := by
  rcases kd_cases h with rfl | rfl | rfl | rfl | rfl | rfl | rfl | rfl | rfl
  · exact absurd (by decide +kernel) hh
  · exact absurd (by decide +kernel) hh
  · exact Or.inl rfl
  · exact Or.inr (Or.inl rfl)
  · exact Or.inr (Or.inr (Or.inl rfl))
  · exact absurd (by decide +kernel) hh
  · exact Or.inr (Or.inr (Or.inr (Or.inl rfl)))
  · exact Or.inr (Or.inr (Or.inr (Or.inr (Or.inl rfl))))
  · exact Or.inr (Or.inr (Or.inr (Or.inr (Or.inr rfl))))
theorem own_cast : ∀ a, a < 10 → ∀ b, b < 7 → 1 ≤ a → (f_X4_ownerOf (nI b) (nI a) = -1 ↔ (4 < b ∧ f_X5_isHooked (nI a) = 0)) := by decide +kernel
/-- asked, all members -/
theorem A_all {m : MS} {N : Nat} (h : Iv m N) {v : Int32} (hj : v.toNatClampNeg < N) (hfl : m_fl m = 0) {b : Nat} (hb : b < 7) (hc : ¬ (4 < b ∧ f_X5_isHooked (m_kd m v.toNatClampNeg) = 0)) (n : Int32) : f_X5_asked v (nI b) n m = ((stK 21 (m_kd m v.toNatClampNeg) (nI b) n (pB m v.toNatClampNeg)).1, mB m v.toNatClampNeg (stK 21 (m_kd m v.toNatClampNeg) (nI b) n (pB m v.toNatClampNeg)).2) := by
  obtain ⟨hk, hs, -⟩ := h.2.2.1 _ hj
  obtain ⟨q1, q2⟩ := sz_1 hs
  rcases (show b = 0 ∨ b = 1 ∨ b = 2 ∨ b = 3 ∨ b = 4 ∨ b = 5 ∨ b = 6 by omega) with rfl | rfl | rfl | rfl | rfl | rfl | rfl
  · exact A_len m v n (kd_cases hk) hfl q1 q2
  · exact A_fee m v n (kd_cases hk) hfl q1 q2
  · exact A_risk m v n (kd_cases hk) hfl
  · exact A_lash m v n (kd_cases hk) hfl
  · exact A_mark m v n (kd_cases hk) hfl
  · exact A_pull m v n (hooked_of hk (fun z => hc ⟨by omega, z⟩)) hfl
  · exact A_hook m v n (hooked_of hk (fun z => hc ⟨by omega, z⟩)) hfl
