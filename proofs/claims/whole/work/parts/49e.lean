theorem bk116_p {v d l a : Int32} {mm m2 : MS} (c : m_fl m2 = 0) : f_X5_board_k116 v d (l, mm) (a, m2) = (m_me m2 d.toNatClampNeg - (f_X5_takenOn d (mbd m2 (m_til m2 + a.toInt64) (upd (m_dk m2) v.toNatClampNeg d) (upd (m_tk m2) v.toNatClampNeg l))).1, (f_X5_takenOn d (mbd m2 (m_til m2 + a.toInt64) (upd (m_dk m2) v.toNatClampNeg d) (upd (m_tk m2) v.toNatClampNeg l))).2) := by
  unfold f_X5_board_k116 f_X5_board_k181
  rw [if_pos c]
  simp only [dk_til, tk_til, sbd, me_bd]
theorem bk116_n {v d l a : Int32} {mm m2 : MS} (c : ¬ m_fl m2 = 0) : f_X5_board_k116 v d (l, mm) (a, m2) = (-10 - m_fl m2, m_s_fa m2 (m_fa m2 + 1)) := by
  unfold f_X5_board_k116
  rw [if_neg c]
  rfl
theorem bd3 {m : MS} {N : Nat} {v d y x : Int32} {q98 q : Int32 × BS} {mm : MS} (h : Iv m N) (hj : v.toNatClampNeg < N) (cd : ¬ f_X4_within d 0 2 = 0) (hdk : m_dk m v.toNatClampNeg = -1) (hq : fx q.2 = fx (pB m v.toNatClampNeg)) (hA : f_X5_fee v y m = (q.1, mB m v.toNatClampNeg q.2)) : f_X4_board_k125 N v d q98 (x, absC m N) q = ((f_X5_board_k116 v d (q98.1, mm) (f_X5_fee v y m)).1, absC (f_X5_board_k116 v d (q98.1, mm) (f_X5_fee v y m)).2 N) ∧ Iv (f_X5_board_k116 v d (q98.1, mm) (f_X5_fee v y m)).2 N := by
  unfold f_X4_board_k125
  rw [frB_mB hq, hA]
  have h2 : Iv (mB m v.toNatClampNeg q.2) N := Iv_mB h hj
  have hdk2 : m_dk (mB m v.toNatClampNeg q.2) v.toNatClampNeg = -1 := hdk
  generalize mB m v.toNatClampNeg q.2 = m2 at h2 hdk2 ⊢
  unfold f_X4_board_w125 f_X4_board_k134
  by_cases c6 : m_fl m2 = 0
  · rw [failed_p c6, if_pos rfl, bk116_p c6]
    exact board_end h2 hj cd hdk2 q98 (m_til m2 + q.1.toInt64)
  · rw [failed_n c6, if_neg (show ¬ (1 : Int32) = 0 by decide), bk116_n c6]
    unfold f_X4_board_k143
    rw [fail_w]
    exact ⟨rfl, Iv_sfa h2⟩
theorem left_w {m : MS} {N : Nat} {d : Nat} : f_X1_left N d (absC m N) = (m_me m d - sT (m_dk m) (m_tk m) N d, absC m N) := rfl
theorem bd2 {m : MS} {N : Nat} {v d y : Int32} {q98 : Int32 × BS} (h : Iv m N) (hj : v.toNatClampNeg < N) (cd : ¬ f_X4_within d 0 2 = 0) (hdk : m_dk m v.toNatClampNeg = -1) (hfl : m_fl m = 0) (hq : fx q98.2 = fx (pB m v.toNatClampNeg)) (hA : f_X5_length v m = (q98.1, mB m v.toNatClampNeg q98.2)) : f_X4_board_k98 N v d y (absC m N) q98 = ((f_X5_board_k87 v d y (f_X5_length v m)).1, absC (f_X5_board_k87 v d y (f_X5_length v m)).2 N) ∧ Iv (f_X5_board_k87 v d y (f_X5_length v m)).2 N := by
  have hf := fl_len v m
  rw [hfl] at hf
  unfold f_X4_board_k98
  rw [hA] at hf
  rw [frB_mB hq, hA]
  have h2 : Iv (mB m v.toNatClampNeg q98.2) N := Iv_mB h hj
  have hdk2 : m_dk (mB m v.toNatClampNeg q98.2) v.toNatClampNeg = -1 := hdk
  have hf2 : m_fl (mB m v.toNatClampNeg q98.2) = 0 := hf
  generalize mB m v.toNatClampNeg q98.2 = m2 at h2 hdk2 hf2 ⊢
  unfold f_X4_board_w98 f_X5_board_k87
  rw [left_w, tk_w h2 cd]
  unfold f_X4_board_k107 f_X5_board_k102
  by_cases c : q98.1 ≤ m_me m2 d.toNatClampNeg - sT (m_dk m2) (m_tk m2) N d.toNatClampNeg
  · rw [if_pos c, if_pos c]
    show f_X4_board_k125 N v d q98 (m_me m2 d.toNatClampNeg - sT (m_dk m2) (m_tk m2) N d.toNatClampNeg, absC m2 N) (f_X0_answer 1 y (toB (absC m2 N) v.toNatClampNeg)) = ((f_X5_board_k116 v d (q98.1, m2) (f_X5_fee v y m2)).1, absC (f_X5_board_k116 v d (q98.1, m2) (f_X5_fee v y m2)).2 N) ∧ Iv (f_X5_board_k116 v d (q98.1, m2) (f_X5_fee v y m2)).2 N
    rw [ans_eq]
    obtain ⟨hk, hs, -⟩ := h2.2.2.1 _ hj
    obtain ⟨z1, z2⟩ := sz_1 hs
    exact bd3 h2 hj cd hdk2 (fx_st 21 (m_kd m2 v.toNatClampNeg) 1 y (pB m2 v.toNatClampNeg)) (A_fee m2 v y (kd_cases hk) hf2 z1 z2)
  · rw [if_neg c, if_neg c]
    exact ⟨rfl, h2⟩
theorem bd1 {m : MS} {N : Nat} {v d w y : Int32} {q61 : Int32 × BS} (h : Iv m N) (hj : v.toNatClampNeg < N) (cd : ¬ f_X4_within d 0 2 = 0) (hdk : m_dk m v.toNatClampNeg = -1) (hq : fx q61.2 = fx (pB m v.toNatClampNeg)) (hA : f_X5_riskOf v w m = (q61.1, mB m v.toNatClampNeg q61.2)) : f_X4_board_k61 N v d y (absC m N) q61 = ((f_X5_board_k49 v d y (f_X5_riskOf v w m)).1, absC (f_X5_board_k49 v d y (f_X5_riskOf v w m)).2 N) ∧ Iv (f_X5_board_k49 v d y (f_X5_riskOf v w m)).2 N := by
  unfold f_X4_board_k61
  rw [frB_mB hq, hA]
  have h2 : Iv (mB m v.toNatClampNeg q61.2) N := Iv_mB h hj
  have hdk2 : m_dk (mB m v.toNatClampNeg q61.2) v.toNatClampNeg = -1 := hdk
  generalize mB m v.toNatClampNeg q61.2 = m2 at h2 hdk2 ⊢
  unfold f_X4_board_w61 f_X4_board_k70 f_X5_board_k49
  by_cases c6 : m_fl m2 = 0
  · rw [failed_p c6, if_pos rfl, if_pos c6]
    have h3 : Iv (m_s_rk m2 q61.1) N := h2
    have hdk3 : m_dk (m_s_rk m2 q61.1) v.toNatClampNeg = -1 := hdk2
    have hf3 : m_fl (m_s_rk m2 q61.1) = 0 := c6
    show f_X4_board_w87 N v d y (absC (m_s_rk m2 q61.1) N) = ((f_X5_board_k87 v d y (f_X5_length v (m_s_rk m2 q61.1))).1, absC (f_X5_board_k87 v d y (f_X5_length v (m_s_rk m2 q61.1))).2 N) ∧ Iv (f_X5_board_k87 v d y (f_X5_length v (m_s_rk m2 q61.1))).2 N
    generalize m_s_rk m2 q61.1 = m3' at h3 hdk3 hf3 ⊢
    unfold f_X4_board_w87
    rw [ans_eq]
    obtain ⟨hk, hs, -⟩ := h3.2.2.1 _ hj
    obtain ⟨z1, z2⟩ := sz_1 hs
    exact bd2 h3 hj cd hdk3 hf3 (fx_st 21 (m_kd m3' v.toNatClampNeg) 0 0 (pB m3' v.toNatClampNeg)) (A_len m3' v 0 (kd_cases hk) hf3 z1 z2)
  · rw [failed_n c6, if_neg (show ¬ (1 : Int32) = 0 by decide), if_neg c6]
    unfold f_X4_board_k79
    rw [fail_w]
    exact ⟨rfl, Iv_sfa h2⟩
theorem R_board {m : MS} {N : Nat} (h : Iv m N) (v d w y : Int32) : f_X4_board N v d w y (absC m N) = ((f_X5_board v d w y m).1, absC (f_X5_board v d w y m).2 N) ∧ Iv (f_X5_board v d w y m).2 N := by
  unfold f_X4_board f_X5_board f_X5_board_k2
  rw [isV_w h]
  by_cases c1 : f_X4_within v 0 (nI N - 1) = 0
  · rw [if_pos c1, if_pos c1, ite_self]; exact ⟨rfl, h⟩
  · rw [if_neg c1, if_neg c1]
    obtain ⟨hj, -⟩ := vAt_lt h.2.1 c1
    unfold f_X5_board_k9
    rw [isD_w]
    by_cases c2 : f_X4_within d 0 2 = 0
    · rw [if_pos c2, if_pos c2]; exact ⟨rfl, h⟩
    · rw [if_neg c2, if_neg c2]
      unfold f_X4_board_k29 f_X5_board_k22
      rw [in_w (b := 0) (d := 9) (by decide) (by decide)]
      by_cases c3 : f_X4_within y 0 9 = 0
      · rw [if_pos c3, if_pos c3]; exact ⟨rfl, h⟩
      · rw [if_neg c3, if_neg c3]
        have e : c_dk (absC m N) v.toNatClampNeg = m_dk m v.toNatClampNeg := rfl
        rw [e]
        rcases (h.2.2.1 _ hj).2.2 with hd | ⟨dd, hd3, hd⟩
        · have c4 : m_dk m v.toNatClampNeg < 0 := by rw [hd]; decide
          rw [if_pos hd, if_pos c4, act_w]
          have h1 := Iv_act h
          have f1 := fl_act m
          have d1 : m_dk (f_X5_act m) v.toNatClampNeg = -1 := by rw [act_eq]; exact hd
          show f_X4_board_k50 N v d w y (absC (f_X5_act m) N) = ((f_X5_board_k43 v d w y (f_X5_act m)).1, absC (f_X5_board_k43 v d w y (f_X5_act m)).2 N) ∧ Iv (f_X5_board_k43 v d w y (f_X5_act m)).2 N
          generalize f_X5_act m = m1 at h1 f1 d1 ⊢
          unfold f_X4_board_k50 f_X5_board_k43
          rw [ans_eq]
          obtain ⟨hk, -, -⟩ := h1.2.2.1 _ hj
          exact bd1 h1 hj c2 d1 (fx_st 21 (m_kd m1 v.toNatClampNeg) 2 w (pB m1 v.toNatClampNeg)) (A_risk m1 v w (kd_cases hk) f1)
        · have c4 : ¬ m_dk m v.toNatClampNeg = -1 := by rw [hd]; rcases (show dd = 0 ∨ dd = 1 ∨ dd = 2 by omega) with rfl | rfl | rfl <;> decide
          have c5 : ¬ m_dk m v.toNatClampNeg < 0 := by rw [hd]; rcases (show dd = 0 ∨ dd = 1 ∨ dd = 2 by omega) with rfl | rfl | rfl <;> decide
          rw [if_neg c4, if_neg c5]; exact ⟨rfl, h⟩
