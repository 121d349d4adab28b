/-! ===== pure: what the bodies do to one vehicle, class and reference alike ===== -/
theorem parity (r : Int32) : (r &&& 1 = 1) ↔ ¬ (r - r / 2 * 2 = 0) := by
  rw [irem_eq_mod, pk_and r (m := 1) 1 (by decide)]
  have h1 : r % 2 = 0 ↔ (2 : Int) ∣ r.toInt := by
    rw [← Int32.toInt_inj, Int32.toInt_mod, show (2 : Int32).toInt = 2 by decide, show (0 : Int32).toInt = 0 by decide]
    exact (Int.dvd_iff_tmod_eq_zero).symm
  have h2 : r.toInt = if 2 * r.toBitVec.toNat < 2 ^ 32 then (r.toBitVec.toNat : Int) else (r.toBitVec.toNat : Int) - ((2 ^ 32 : Nat) : Int) := by
    rw [← Int32.toInt_toBitVec]; exact BitVec.toInt_eq_toNat_cond _
  have h3 : nI (r.toBitVec.toNat % 2 ^ 1) = 1 ↔ r.toBitVec.toNat % 2 = 1 := nI_eq (b := 1) (by omega) (by omega)
  rw [h1, h3]
  split at h2 <;> omega
/-- the vehicle j of the reference with what the bodies see, and back -/
def pB (m : MS) (j : Nat) : BS := (m_T m, m_fl m, m_z m, m_te m, m_kd m j, m_sz m j, m_ld m j, m_ch m j, m_dk m j, m_tk m j)
def mB (m : MS) (j : Nat) (b : BS) : MS := (m_T m, m_v m, m_kd m, m_sz m, m_ld m, upd (m_ch m) j (b_ch b), m_dk m, m_tk m, m_me m, m_til m, m_rk m, m_pl m, b_te b, b_z b, m_ac m, m_fa m, b_fl b)
theorem upd_id (f : Nat → Int32) (j : Nat) : upd f j (f j) = f := by
  funext i
  unfold upd
  split
  · rename_i h; rw [h]
  · rfl
theorem upd_upd (f : Nat → Int32) (j : Nat) (x y : Int32) : upd (upd f j x) j y = upd f j y := by
  funext i
  unfold upd
  split <;> rfl
theorem mB_pB (m : MS) (j : Nat) : mB m j (pB m j) = m := by
  show (m_T m, m_v m, m_kd m, m_sz m, m_ld m, upd (m_ch m) j (m_ch m j), m_dk m, m_tk m, m_me m, m_til m, m_rk m, m_pl m, m_te m, m_z m, m_ac m, m_fa m, m_fl m) = m
  rw [upd_id]
section MB
variable (m : MS) (j : Nat) (b : BS) (x y : Int32)
theorem kd_mB : m_kd (mB m j b) = m_kd m := rfl
theorem sz_mB : m_sz (mB m j b) = m_sz m := rfl
theorem ld_mB : m_ld (mB m j b) = m_ld m := rfl
theorem T_mB : m_T (mB m j b) = m_T m := rfl
theorem fl_mB : m_fl (mB m j b) = b_fl b := rfl
theorem ch_mB : m_ch (mB m j b) j = b_ch b := by show upd (m_ch m) j (b_ch b) j = _; exact pk_us
theorem sfl_mB : m_s_fl (mB m j b) x = mB m j (b_sFl b x) := rfl
theorem sch_mB : m_s_ch (mB m j b) (upd (m_ch (mB m j b)) j x) = mB m j (b_sCh b x) := by
  show (m_T m, m_v m, m_kd m, m_sz m, m_ld m, upd (upd (m_ch m) j (b_ch b)) j x, m_dk m, m_tk m, m_me m, m_til m, m_rk m, m_pl m, b_te b, b_z b, m_ac m, m_fa m, b_fl b) = mB m j (b_sCh b x)
  rw [upd_upd]
  rfl
theorem began_mB : f_X5_began x y (mB m j b) = mB m j (f_X2_write (10 * x + y) b) := by
  unfold f_X5_began f_X2_write
  by_cases h : (400 : Int32) ≤ b_z b
  · rw [if_pos h, if_pos (show (400 : Int32) ≤ m_z (mB m j b) from h)]
  · rw [if_neg h, if_neg (show ¬ (400 : Int32) ≤ m_z (mB m j b) from h)]
    rfl
theorem began_m : f_X5_began x y m = mB m j (f_X2_write (10 * x + y) (pB m j)) := by
  have h := began_mB m j (pB m j) x y
  rw [mB_pB] at h
  exact h
theorem sfl_m : m_s_fl m x = mB m j (b_sFl (pB m j) x) := by
  have h := sfl_mB m j (pB m j) x
  rw [mB_pB] at h
  exact h
theorem sch_m : m_s_ch m (upd (m_ch m) j x) = mB m j (b_sCh (pB m j) x) := by
  have h := sch_mB m j (pB m j) x
  rw [mB_pB] at h
  exact h
theorem w_T : b_T (f_X2_write x b) = b_T b := by unfold f_X2_write; split <;> rfl
theorem w_fl : b_fl (f_X2_write x b) = b_fl b := by unfold f_X2_write; split <;> rfl
theorem w_kd : b_kd (f_X2_write x b) = b_kd b := by unfold f_X2_write; split <;> rfl
theorem w_sz : b_sz (f_X2_write x b) = b_sz b := by unfold f_X2_write; split <;> rfl
theorem w_ld : b_ld (f_X2_write x b) = b_ld b := by unfold f_X2_write; split <;> rfl
theorem w_ch : b_ch (f_X2_write x b) = b_ch b := by unfold f_X2_write; split <;> rfl
theorem p_T : b_T (pB m j) = m_T m := rfl
theorem p_fl : b_fl (pB m j) = m_fl m := rfl
theorem p_kd : b_kd (pB m j) = m_kd m j := rfl
theorem p_sz : b_sz (pB m j) = m_sz m j := rfl
theorem p_ld : b_ld (pB m j) = m_ld m j := rfl
theorem p_ch : b_ch (pB m j) = m_ch m j := rfl
theorem f_T : b_T (b_sFl b x) = b_T b := rfl
theorem f_fl : b_fl (b_sFl b x) = x := rfl
theorem f_kd : b_kd (b_sFl b x) = b_kd b := rfl
theorem f_sz : b_sz (b_sFl b x) = b_sz b := rfl
theorem f_ld : b_ld (b_sFl b x) = b_ld b := rfl
theorem f_ch : b_ch (b_sFl b x) = b_ch b := rfl
theorem g_T : b_T (b_sCh b x) = b_T b := rfl
theorem g_fl : b_fl (b_sCh b x) = b_fl b := rfl
theorem g_kd : b_kd (b_sCh b x) = b_kd b := rfl
theorem g_sz : b_sz (b_sCh b x) = b_sz b := rfl
theorem g_ld : b_ld (b_sCh b x) = b_ld b := rfl
theorem g_ch : b_ch (b_sCh b x) = x := rfl
end MB
theorem stK_s (k : Nat) (kd mb n : Int32) (u : BS) : stK (k + 1) kd mb n u = f_X0_start (stK k) kd mb n u := rfl
theorem st_go {K : Int32 → Int32 → Int32 → BS → Int32 × BS} {kd mb n o : Int32} {u : BS} (ho : f_X4_ownerOf mb kd = o) (hne : ¬ o = -1) (hfl : b_fl u = 0) : f_X0_start K kd mb n u = f_X0_start_k40 K mb n o (f_X2_write (10 * o + mb) u) := by
  rw [f_X0_start, ho, f_X0_start_k2, f_X0_failed, if_pos hfl, f_X0_start_k8, if_pos rfl, if_neg hne]
theorem aa_go {K : Int32 → Int32 → Int32 → BS → Int32 × BS} {kd mb n a : Int32} {u : BS} (h1 : f_X4_within kd 0 9 = 1) (h2 : abvF kd.toNatClampNeg = a) : f_X0_askAbove K kd mb n u = K a mb n u := by
  rw [f_X0_askAbove, h1, f_X0_askAbove_k4, if_neg (by decide), h2, f_X0_askAbove_k24]
theorem av_go (K : Int32 → Int32 → Int32 → BS → Int32 × BS) (mb n : Int32) (u : BS) : f_X0_askVehicle K mb n u = K (b_kd u) mb n u := rfl
theorem mx0 {S : Type} (x : Int32) (q : S) : (if 0 ≤ x then (x, q) else ((0 : Int32), q)) = ((if x < 0 then 0 else x), q) := by
  by_cases h : 0 ≤ x
  · rw [if_pos h, if_neg (Int32.not_lt.mpr h)]
  · rw [if_neg h, if_pos (Int32.not_le.mp h)]

