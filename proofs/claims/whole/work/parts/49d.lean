/-! board -/
theorem fl_began (x y : Int32) (m : MS) : m_fl (f_X5_began x y m) = m_fl m := by unfold f_X5_began; split <;> rfl
theorem fl_length_92 (v : Int32) (x2 : Int32) (s0 : Int32) (u : MS) : m_fl (f_X5_length_92 v x2 s0 u).2 = m_fl u := by
  unfold f_X5_length_92
  repeat' split
  all_goals first | rfl | simp only [fl_began]
theorem fl_length_k63 (v : Int32) (x2 : Int32) (x3 : Int32) (q63 : MS) : m_fl (f_X5_length_k63 v x2 x3 q63).2 = m_fl q63 := by
  unfold f_X5_length_k63
  repeat' split
  all_goals first | rfl | simp only [fl_length_92, fl_began]
theorem fl_length_60 (v : Int32) (x2 : Int32) (x3 : Int32) (u : MS) : m_fl (f_X5_length_60 v x2 x3 u).2 = m_fl u := by
  unfold f_X5_length_60
  repeat' split
  all_goals first | rfl | simp only [fl_length_92, fl_length_k63, fl_began]
theorem fl_length_k57 (v : Int32) (x2 : Int32) (x3 : Int32) (q57 : MS) : m_fl (f_X5_length_k57 v x2 x3 q57).2 = m_fl q57 := by
  unfold f_X5_length_k57
  repeat' split
  all_goals first | rfl | simp only [fl_length_92, fl_length_k63, fl_length_60, fl_began]
theorem fl_length_56 (v : Int32) (x2 : Int32) (x3 : Int32) (s0 : Int32) (u : MS) : m_fl (f_X5_length_56 v x2 x3 s0 u).2 = m_fl u := by
  unfold f_X5_length_56
  repeat' split
  all_goals first | rfl | simp only [fl_length_92, fl_length_k63, fl_length_60, fl_length_k57, fl_began]
theorem fl_length_40 (v : Int32) (x2 : Int32) (x3 : Int32) (u : MS) : m_fl (f_X5_length_40 v x2 x3 u).2 = m_fl u := by
  unfold f_X5_length_40
  repeat' split
  all_goals first | rfl | simp only [fl_length_92, fl_length_k63, fl_length_60, fl_length_k57, fl_length_56, fl_began]
theorem fl_length_k37 (v : Int32) (x2 : Int32) (x3 : Int32) (q37 : MS) : m_fl (f_X5_length_k37 v x2 x3 q37).2 = m_fl q37 := by
  unfold f_X5_length_k37
  repeat' split
  all_goals first | rfl | simp only [fl_length_92, fl_length_k63, fl_length_60, fl_length_k57, fl_length_56, fl_length_40, fl_began]
theorem fl_length_25 (v : Int32) (x2 : Int32) (x3 : Int32) (u : MS) : m_fl (f_X5_length_25 v x2 x3 u).2 = m_fl u := by
  unfold f_X5_length_25
  repeat' split
  all_goals first | rfl | simp only [fl_length_92, fl_length_k63, fl_length_60, fl_length_k57, fl_length_56, fl_length_40, fl_length_k37, fl_began]
theorem fl_length_k22 (v : Int32) (u : MS) (q8 : Int32) (q22 : MS) : m_fl (f_X5_length_k22 v u q8 q22).2 = m_fl q22 := by
  unfold f_X5_length_k22
  repeat' split
  all_goals first | rfl | simp only [fl_length_92, fl_length_k63, fl_length_60, fl_length_k57, fl_length_56, fl_length_40, fl_length_k37, fl_length_25, fl_began]
theorem fl_length_k8 (v : Int32) (u : MS) (q8 : Int32) : m_fl (f_X5_length_k8 v u q8).2 = m_fl u := by
  unfold f_X5_length_k8
  repeat' split
  all_goals first | rfl | simp only [fl_length_92, fl_length_k63, fl_length_60, fl_length_k57, fl_length_56, fl_length_40, fl_length_k37, fl_length_25, fl_length_k22, fl_began]
theorem fl_length (v : Int32) (u : MS) : m_fl (f_X5_length v u).2 = m_fl u := by
  unfold f_X5_length
  repeat' split
  all_goals first | rfl | simp only [fl_length_92, fl_length_k63, fl_length_60, fl_length_k57, fl_length_56, fl_length_40, fl_length_k37, fl_length_25, fl_length_k22, fl_length_k8, fl_began]
theorem fl_len (v : Int32) (m : MS) : m_fl (f_X5_length v m).2 = m_fl m := fl_length v m
theorem Iv_srk {m : MS} {N : Nat} {x : Int32} (h : Iv m N) : Iv (m_s_rk m x) N := h
theorem fl_srk (m : MS) (x : Int32) : m_fl (m_s_rk m x) = m_fl m := rfl
def mbd (m : MS) (x : Int64) (a b : Nat → Int32) : MS := (m_T m, m_v m, m_kd m, m_sz m, m_ld m, m_ch m, a, b, m_me m, x, m_rk m, m_pl m, m_te m, m_z m, m_ac m, m_fa m, m_fl m)
theorem sbd (m : MS) (x : Int64) (a b : Nat → Int32) : m_s_tk (m_s_dk (m_s_til m x) a) b = mbd m x a b := rfl
theorem dk_til (m : MS) (x : Int64) : m_dk (m_s_til m x) = m_dk m := rfl
theorem tk_til (m : MS) (x : Int64) (a : Nat → Int32) : m_tk (m_s_dk (m_s_til m x) a) = m_tk m := rfl
theorem me_bd (m : MS) (x : Int64) (a b : Nat → Int32) : m_me (mbd m x a b) = m_me m := rfl
/-- the class's end of board, when the vehicle comes -/
theorem board_end {m : MS} {N : Nat} (h : Iv m N) {v d : Int32} (hj : v.toNatClampNeg < N) (cd : ¬ f_X4_within d 0 2 = 0) (hdk : m_dk m v.toNatClampNeg = -1) (q98 : Int32 × BS) (x : Int64) : f_X4_board_w157 N v d q98 (c_s_til (absC m N) x) = (m_me m d.toNatClampNeg - (f_X5_takenOn d (mbd m x (upd (m_dk m) v.toNatClampNeg d) (upd (m_tk m) v.toNatClampNeg q98.1))).1, absC (f_X5_takenOn d (mbd m x (upd (m_dk m) v.toNatClampNeg d) (upd (m_tk m) v.toNatClampNeg q98.1))).2 N) ∧ Iv (f_X5_takenOn d (mbd m x (upd (m_dk m) v.toNatClampNeg d) (upd (m_tk m) v.toNatClampNeg q98.1))).2 N := by
  obtain ⟨hd3, hd⟩ := dAt_lt cd
  have hI : Iv (mbd m x (upd (m_dk m) v.toNatClampNeg d) (upd (m_tk m) v.toNatClampNeg q98.1)) N := by
    refine ⟨h.1, h.2.1, fun i hi => ⟨(h.2.2.1 i hi).1, (h.2.2.1 i hi).2.1, ?_⟩, fun i hi => ⟨(h.2.2.2 i hi).1, ?_⟩⟩
    · show upd (m_dk m) v.toNatClampNeg d i = -1 ∨ ∃ e : Nat, e < 3 ∧ upd (m_dk m) v.toNatClampNeg d i = nI e
      by_cases hij : i = v.toNatClampNeg
      · rw [hij, pk_us]; exact Or.inr ⟨_, hd3, hd⟩
      · rw [pk_un hij]; exact (h.2.2.1 i hi).2.2
    · show upd (m_tk m) v.toNatClampNeg q98.1 i = 0
      rw [pk_un (by omega)]; exact (h.2.2.2 i hi).2
  rw [tk_w hI cd]
  refine ⟨?_, hI⟩
  unfold f_X4_board_w157 f_X4_board_w163 f_X4_board_w170 f_X4_board_k177 f_X4_board_k182 f_X1_receive f_X1_receive_w7 f_X1_receive_w17 f_X1_left
  generalize hjj : v.toNatClampNeg = j at hj hdk ⊢
  generalize hdd : d.toNatClampNeg = e at hd3 hd ⊢
  subst hd
  show (m_me m e - upd (sT (m_dk m) (m_tk m) N) e (sT (m_dk m) (m_tk m) N e + q98.1) e, ((m_kd m, m_sz m, m_ld m, m_ch m, upd (m_dk m) j (nI e), upd (m_tk m) j q98.1, m_me m, upd (sT (m_dk m) (m_tk m) N) e (sT (m_dk m) (m_tk m) N e + q98.1), upd (cT (m_dk m) N) e (cT (m_dk m) N e + 1), m_T m, m_te m, m_fl m, m_z m, m_ac m, m_fa m, m_rk m, m_pl m, x) : FS)) = (m_me m e - sT (upd (m_dk m) j (nI e)) (upd (m_tk m) j q98.1) N e, ((m_kd m, m_sz m, m_ld m, m_ch m, upd (m_dk m) j (nI e), upd (m_tk m) j q98.1, m_me m, sT (upd (m_dk m) j (nI e)) (upd (m_tk m) j q98.1) N, cT (upd (m_dk m) j (nI e)) N, m_T m, m_te m, m_fl m, m_z m, m_ac m, m_fa m, m_rk m, m_pl m, x) : FS))
  rw [sT_board hj hd3 hdk, cT_board hj hd3 hdk]
theorem fail_w {m : MS} {N : Nat} : f_X4_endByFailure N (absC m N) = (m_fl m, absC (m_s_fa m (m_fa m + 1)) N) := rfl
theorem failed_p {m : MS} {N : Nat} (c : m_fl m = 0) : f_X0_failedC N (absC m N) = (0, absC m N) := by
  unfold f_X0_failedC
  have e : c_fl (absC m N) = m_fl m := rfl
  rw [e, if_pos c]
theorem failed_n {m : MS} {N : Nat} (c : ¬ m_fl m = 0) : f_X0_failedC N (absC m N) = (1, absC m N) := by
  unfold f_X0_failedC
  have e : c_fl (absC m N) = m_fl m := rfl
  rw [e, if_neg c]
