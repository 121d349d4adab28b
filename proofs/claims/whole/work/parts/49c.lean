theorem kd_nI {m : MS} {N : Nat} (h : Iv m N) {j : Nat} (hj : j < N) : ∃ a : Nat, 1 ≤ a ∧ a < 10 ∧ m_kd m j = nI a := by
  obtain ⟨hk, -, -⟩ := h.2.2.1 _ hj
  obtain ⟨a, ha, e⟩ := nI_w (n := 9) (by omega) ⟨Int32.le_trans (by decide) hk.1, hk.2⟩
  refine ⟨a, ?_, by omega, e⟩
  have h1 : nI 1 ≤ nI a := by rw [← e]; exact hk.1
  rw [nI_leI (by omega) (by omega)] at h1
  exact h1
theorem ans_eq (m : MS) (N j : Nat) (mb n : Int32) : f_X0_answer mb n (toB (absC m N) j) = stK 21 (m_kd m j) mb n (pB m j) := rfl
theorem ask_tail {m : MS} {N : Nat} {v : Int32} {q : Int32 × BS} (hq : fx q.2 = fx (pB m v.toNatClampNeg)) : f_X4_ask_k55 N v (absC m N) q = if m_fl (mB m v.toNatClampNeg q.2) = 0 then (q.1.toInt64, absC (mB m v.toNatClampNeg q.2) N) else (-9223372036854775798 + (m_fl (mB m v.toNatClampNeg q.2)).toInt64, absC (m_s_fa (mB m v.toNatClampNeg q.2) (m_fa (mB m v.toNatClampNeg q.2) + 1)) N) := by
  unfold f_X4_ask_k55 f_X4_ask_w55
  rw [frB_mB hq]
  generalize mB m v.toNatClampNeg q.2 = m2
  unfold f_X4_ask_k64 f_X0_failedC f_X4_ask_k74 f_X4_endByFailure f_X4_endByFailure_w7
  have e : c_fl (absC m2 N) = m_fl m2 := rfl
  rw [e]
  by_cases c : m_fl m2 = 0
  · simp only [if_pos c, ↓reduceIte]
  · simp only [if_neg c]
    rw [if_neg (by decide)]
    rfl
