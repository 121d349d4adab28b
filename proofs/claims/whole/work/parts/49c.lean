theorem kd_nI {m : MS} {N : Nat} (h : Iv m N) {j : Nat} (hj : j < N) : ∃ a : Nat, 1 ≤ a ∧ a < 10 ∧ m_kd m j = nI a := by
  obtain ⟨hk, -, -⟩ := h.2.2.1 _ hj
  obtain ⟨a, ha, e⟩ := nI_w (n := 9) (by omega) ⟨Int32.le_trans (by decide) hk.1, hk.2⟩
  refine ⟨a, ?_, by omega, e⟩
  have h1 : nI 1 ≤ nI a := by rw [← e]; exact hk.1
  rw [nI_leI (by omega) (by omega)] at h1
  exact h1
theorem ans_eq (m : MS) (N j : Nat) (mb n : Int32) : f_X0_answer mb n (toB (absC m N) j) = stK 21 (m_kd m j) mb n (pB m j) := rfl
theorem ask_tail {m : MS} {N : Nat} {v : Int32} {q : Int32 × BS} (hq : fx q.2 = fx (pB m v.toNatClampNeg)) : f_X4_ask_k55 N v (absC m N) q = if m_fl (mB m v.toNatClampNeg q.2) = 0 then (q.1.toInt64, absC (mB m v.toNatClampNeg q.2) N) else (-9223372036854775798 + (m_fl (mB m v.toNatClampNeg q.2)).toInt64, absC (m_s_fa (mB m v.toNatClampNeg q.2) (m_fa (mB m v.toNatClampNeg q.2) + 1)) N) := by
  unfold f_X4_ask_k55 f_X4_ask_w55
  rw [frB_mB hq]
  generalize mB m v.toNatClampNeg q.2 = m2
  unfold f_X4_ask_k64 f_X0_failedC f_X4_ask_k74 f_X4_endByFailure f_X4_endByFailure_w7
  have e : c_fl (absC m2 N) = m_fl m2 := rfl
  rw [e]
  by_cases c : m_fl m2 = 0
  · simp only [if_pos c, ↓reduceIte]
  · simp only [if_neg c]
    rw [if_neg (by decide)]
    rfl
theorem Iv_sfa {m : MS} {N : Nat} {x : Int32} (h : Iv m N) : Iv (m_s_fa m x) N := h
theorem fl_sfa (m : MS) (x : Int32) : m_fl (m_s_fa m x) = m_fl m := rfl
theorem k53_p {v a : Int32} {m : MS} (c : m_fl m = 0) : f_X5_ask_k53 v (a, m) = (a.toInt64, m) := if_pos c
theorem k53_n {v a : Int32} {m : MS} (c : ¬ m_fl m = 0) : f_X5_ask_k53 v (a, m) = (-9223372036854775798 + (m_fl m).toInt64, m_s_fa m (m_fa m + 1)) := if_neg c
theorem ask_core {m : MS} {N : Nat} {v mb n : Int32} {q : Int32 × BS} (h : Iv m N) (hj : v.toNatClampNeg < N) (hq : fx q.2 = fx (pB m v.toNatClampNeg)) (hA : f_X5_asked v mb n m = (q.1, mB m v.toNatClampNeg q.2)) : f_X4_ask_k55 N v (absC m N) q = ((f_X5_ask_k53 v (f_X5_asked v mb n m)).1, absC (f_X5_ask_k53 v (f_X5_asked v mb n m)).2 N) ∧ Iv (f_X5_ask_k53 v (f_X5_asked v mb n m)).2 N := by
  rw [ask_tail hq, hA]
  have h2 : Iv (mB m v.toNatClampNeg q.2) N := Iv_mB h hj
  generalize mB m v.toNatClampNeg q.2 = m2 at h2 ⊢
  by_cases c6 : m_fl m2 = 0
  · rw [if_pos c6, k53_p c6]; exact ⟨rfl, h2⟩
  · rw [if_neg c6, k53_n c6]; exact ⟨rfl, Iv_sfa h2⟩
theorem ask_mid {m1 : MS} {N : Nat} {v n : Int32} (h1 : Iv m1 N) (f1 : m_fl m1 = 0) (hj : v.toNatClampNeg < N) {b : Nat} (hb : b ≤ 6) : f_X4_ask_k27 N v (nI b) n (absC m1 N) = ((f_X5_ask_k25 v (nI b) n m1).1, absC (f_X5_ask_k25 v (nI b) n m1).2 N) ∧ Iv (f_X5_ask_k25 v (nI b) n m1).2 N := by
  obtain ⟨a, ha1, ha2, ha⟩ := kd_nI h1 hj
  have ho := own_cast a ha2 b (by omega) ha1
  unfold f_X4_ask_k27 f_X4_ask_k36 f_X5_ask_k25 f_X5_ask_k39
  have ekd : c_kd (absC m1 N) v.toNatClampNeg = m_kd m1 v.toNatClampNeg := rfl
  rw [ekd]
  by_cases c3 : 4 < b ∧ f_X5_isHooked (m_kd m1 v.toNatClampNeg) = 0
  · have c4 : f_X4_ownerOf (nI b) (m_kd m1 v.toNatClampNeg) = -1 := by rw [ha] at c3 ⊢; exact ho.mpr c3
    have c5 : ¬ nI b ≤ 4 := fun z => absurd ((nI_leI (a := b) (b := 4) (by omega) (by omega)).mp z) (by omega)
    rw [if_pos c4, if_neg c5, if_pos c3.2]; exact ⟨rfl, h1⟩
  · have c4 : ¬ f_X4_ownerOf (nI b) (m_kd m1 v.toNatClampNeg) = -1 := by rw [ha] at c3 ⊢; exact fun z => c3 (ho.mp z)
    have hA := A_all h1 hj f1 (b := b) (by omega) c3 n
    have hq := fx_st 21 (m_kd m1 v.toNatClampNeg) (nI b) n (pB m1 v.toNatClampNeg)
    rw [if_neg c4, ans_eq]
    by_cases c5 : nI b ≤ 4
    · rw [if_pos c5]; exact ask_core h1 hj hq hA
    · have c7 : ¬ f_X5_isHooked (m_kd m1 v.toNatClampNeg) = 0 := fun z => c3 ⟨Nat.not_le.mp (fun w => c5 (nI_le (a := b) (b := 4) w (by omega))), z⟩
      rw [if_neg c5, if_neg c7]; exact ask_core h1 hj hq hA
theorem R_ask {m : MS} {N : Nat} (h : Iv m N) (v mb n : Int32) : f_X4_ask N v mb n (absC m N) = ((f_X5_ask v mb n m).1, absC (f_X5_ask v mb n m).2 N) ∧ Iv (f_X5_ask v mb n m).2 N := by
  unfold f_X4_ask f_X5_ask f_X5_ask_k2
  rw [isV_w h]
  by_cases c1 : f_X4_within v 0 (nI N - 1) = 0
  · rw [if_pos c1, if_pos c1]; exact ⟨rfl, h⟩
  · rw [if_neg c1, if_neg c1]
    obtain ⟨hj, -⟩ := vAt_lt h.2.1 c1
    unfold f_X4_ask_k16 f_X5_ask_k14
    rw [in_w (b := 0) (d := 6) (by decide) (by decide)]
    by_cases c2 : f_X4_within mb 0 6 = 0
    · rw [if_pos c2, if_pos c2]; exact ⟨rfl, h⟩
    · rw [if_neg c2, if_neg c2, act_w]
      obtain ⟨b, hb, rfl⟩ := w_lit (n := 6) (by omega) c2
      exact ask_mid (Iv_act h) (fl_act m) hj hb
theorem Iv_spl {m : MS} {N : Nat} {x : Int32} (h : Iv m N) : Iv (m_s_pl m x) N := h
theorem pull_core {m : MS} {N : Nat} {v n : Int32} {q : Int32 × BS} (h : Iv m N) (hj : v.toNatClampNeg < N) (hq : fx q.2 = fx (pB m v.toNatClampNeg)) (hA : f_X5_pulls v n m = (q.1, mB m v.toNatClampNeg q.2)) : f_X4_pull_k39 N v (absC m N) q = ((f_X5_pull_k33 v (f_X5_pulls v n m)).1, absC (f_X5_pull_k33 v (f_X5_pulls v n m)).2 N) ∧ Iv (f_X5_pull_k33 v (f_X5_pulls v n m)).2 N := by
  unfold f_X4_pull_k39
  rw [frB_mB hq, hA]
  have h2 : Iv (mB m v.toNatClampNeg q.2) N := Iv_mB h hj
  generalize mB m v.toNatClampNeg q.2 = m2 at h2 ⊢
  exact ⟨rfl, Iv_spl h2⟩
theorem R_pull {m : MS} {N : Nat} (h : Iv m N) (v n : Int32) : f_X4_pull N v n (absC m N) = ((f_X5_pull v n m).1, absC (f_X5_pull v n m).2 N) ∧ Iv (f_X5_pull v n m).2 N := by
  unfold f_X4_pull f_X5_pull f_X5_pull_k2
  rw [isV_w h]
  by_cases c1 : f_X4_within v 0 (nI N - 1) = 0
  · rw [if_pos c1, if_pos c1]; exact ⟨rfl, h⟩
  · rw [if_neg c1, if_neg c1]
    obtain ⟨hj, -⟩ := vAt_lt h.2.1 c1
    rw [act_w]
    have h1 := Iv_act h
    have f1 := fl_act m
    show f_X4_pull_k13 N v n (absC (f_X5_act m) N) = ((f_X5_pull_k11 v n (f_X5_act m)).1, absC (f_X5_pull_k11 v n (f_X5_act m)).2 N) ∧ Iv (f_X5_pull_k11 v n (f_X5_act m)).2 N
    generalize f_X5_act m = m1 at h1 f1 ⊢
    obtain ⟨a, ha1, ha2, ha⟩ := kd_nI h1 hj
    have ho := own_cast a ha2 5 (by omega) ha1
    unfold f_X4_pull_k13 f_X4_pull_k21 f_X5_pull_k11 f_X5_pull_k20
    have ekd : c_kd (absC m1 N) v.toNatClampNeg = m_kd m1 v.toNatClampNeg := rfl
    rw [ekd]
    by_cases c3 : f_X5_isHooked (m_kd m1 v.toNatClampNeg) = 0
    · have c4 : f_X4_ownerOf 5 (m_kd m1 v.toNatClampNeg) = -1 := by rw [ha] at c3 ⊢; exact ho.mpr ⟨by omega, c3⟩
      rw [if_pos c4, if_pos c3]; exact ⟨rfl, h1⟩
    · have c4 : ¬ f_X4_ownerOf 5 (m_kd m1 v.toNatClampNeg) = -1 := by rw [ha] at c3 ⊢; exact fun z => c3 (ho.mp z).2
      have hA := A_pull m1 v n (hooked_of (h1.2.2.1 _ hj).1 c3) f1
      have hq := fx_st 21 (m_kd m1 v.toNatClampNeg) 5 n (pB m1 v.toNatClampNeg)
      rw [if_neg c4, if_neg c3, ans_eq]
      exact pull_core h1 hj hq hA
