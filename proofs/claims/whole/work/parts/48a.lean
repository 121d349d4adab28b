/-! ===== what the bodies never change ===== -/
def fx (u : BS) : (Nat → Int32) × Int32 × Int32 × Int32 × Int32 × Int32 := (b_T u, b_kd u, b_sz u, b_ld u, b_dk u, b_mt u)
theorem fx_w (x : Int32) (u : BS) : fx (f_X2_write x u) = fx u := by unfold f_X2_write; split <;> rfl
theorem fx_fl (x : Int32) (u : BS) : fx (b_sFl u x) = fx u := rfl
theorem fx_ch (x : Int32) (u : BS) : fx (b_sCh u x) = fx u := rfl
theorem fx_fail (x : Int32) (u : BS) : fx (f_X0_fail x u).2 = fx u := rfl
theorem fx_failed (u : BS) : fx (f_X0_failed u).2 = fx u := by unfold f_X0_failed; split <;> rfl
theorem fx_takes (x : Int32) (u : BS) : fx (f_X0_takes x u).2 = fx u := by unfold f_X0_takes; split <;> rfl
section FX
variable {K : Int32 → Int32 → Int32 → BS → Int32 × BS} 
theorem fx_askAbove (hK : ∀ a b c u, fx (K a b c u).2 = fx u) (kd mb n : Int32) (u : BS) : fx (f_X0_askAbove K kd mb n u).2 = fx u := by
  simp only [f_X0_askAbove_k24, f_X0_askAbove_k4, f_X0_askAbove]
  repeat' split
  all_goals simp only [fx_w, fx_fl, fx_ch, fx_fail, fx_failed, fx_takes, hK]
theorem fx_askVehicle (hK : ∀ a b c u, fx (K a b c u).2 = fx u) (mb n : Int32) (u : BS) : fx (f_X0_askVehicle K mb n u).2 = fx u := by
  simp only [f_X0_askVehicle_k12, f_X0_askVehicle]
  repeat' split
  all_goals simp only [fx_w, fx_fl, fx_ch, fx_fail, fx_failed, fx_takes, hK]
theorem fx_lashMixed (hK : ∀ a b c u, fx (K a b c u).2 = fx u) (n : Int32) (u : BS) : fx (f_X0_lashMixed K n u).2 = fx u := by
  simp only [f_X0_lashMixed_k35, f_X0_lashMixed_k14, f_X0_lashMixed_k7, f_X0_lashMixed]
  repeat' split
  all_goals simp only [fx_w, fx_fl, fx_ch, fx_fail, fx_failed, fx_takes, hK, fx_askAbove hK, fx_askVehicle hK]
theorem fx_lengthBody (hK : ∀ a b c u, fx (K a b c u).2 = fx u) (kd : Int32) (u : BS) : fx (f_X0_lengthBody K kd u).2 = fx u := by
  simp only [f_X0_lengthBody_k15, f_X0_lengthBody]
  repeat' split
  all_goals simp only [fx_w, fx_fl, fx_ch, fx_fail, fx_failed, fx_takes, hK, fx_askAbove hK, fx_askVehicle hK, fx_lashMixed hK]
theorem fx_markBody (hK : ∀ a b c u, fx (K a b c u).2 = fx u) (kd : Int32) (u : BS) : fx (f_X0_markBody K kd u).2 = fx u := by
  simp only [f_X0_markBody_k18, f_X0_markBody]
  repeat' split
  all_goals simp only [fx_w, fx_fl, fx_ch, fx_fail, fx_failed, fx_takes, hK, fx_askAbove hK, fx_askVehicle hK, fx_lashMixed hK]
theorem fx_hookBody (hK : ∀ a b c u, fx (K a b c u).2 = fx u) (kd : Int32) (u : BS) : fx (f_X0_hookBody K kd u).2 = fx u := by
  simp only [f_X0_hookBody_k45, f_X0_hookBody_k83, f_X0_hookBody_k73, f_X0_hookBody]
  repeat' split
  all_goals simp only [fx_w, fx_fl, fx_ch, fx_fail, fx_failed, fx_takes, hK, fx_askAbove hK, fx_askVehicle hK, fx_lashMixed hK]
theorem fx_pullBody (hK : ∀ a b c u, fx (K a b c u).2 = fx u) (kd n : Int32) (u : BS) : fx (f_X0_pullBody K kd n u).2 = fx u := by
  simp only [f_X0_pullBody_k40, f_X0_pullBody_k25, f_X0_pullBody_k14, f_X0_pullBody]
  repeat' split
  all_goals simp only [fx_w, fx_fl, fx_ch, fx_fail, fx_failed, fx_takes, hK, fx_askAbove hK, fx_askVehicle hK, fx_lashMixed hK]
theorem fx_feeBody (hK : ∀ a b c u, fx (K a b c u).2 = fx u) (kd n : Int32) (u : BS) : fx (f_X0_feeBody K kd n u).2 = fx u := by
  simp only [f_X0_feeBody_k98, f_X0_feeBody_k112, f_X0_feeBody_k130, f_X0_feeBody_k27, f_X0_feeBody]
  repeat' split
  all_goals simp only [fx_w, fx_fl, fx_ch, fx_fail, fx_failed, fx_takes, hK, fx_askAbove hK, fx_askVehicle hK, fx_lashMixed hK]
theorem fx_riskBody (hK : ∀ a b c u, fx (K a b c u).2 = fx u) (kd n : Int32) (u : BS) : fx (f_X0_riskBody K kd n u).2 = fx u := by
  simp only [f_X0_riskBody_k106, f_X0_riskBody_k136, f_X0_riskBody_k121, f_X0_riskBody_k147, f_X0_riskBody_k63, f_X0_riskBody_61, f_X0_riskBody_45, f_X0_riskBody_k41, f_X0_riskBody_k12, f_X0_riskBody]
  repeat' split
  all_goals simp only [fx_w, fx_fl, fx_ch, fx_fail, fx_failed, fx_takes, hK, fx_askAbove hK, fx_askVehicle hK, fx_lashMixed hK]
theorem fx_lashBody (hK : ∀ a b c u, fx (K a b c u).2 = fx u) (kd n : Int32) (u : BS) : fx (f_X0_lashBody K kd n u).2 = fx u := by
  simp only [f_X0_lashBody_k85, f_X0_lashBody_k74, f_X0_lashBody_k98, f_X0_lashBody_k111, f_X0_lashBody_k143, f_X0_lashBody_k130, f_X0_lashBody_k152, f_X0_lashBody]
  repeat' split
  all_goals simp only [fx_w, fx_fl, fx_ch, fx_fail, fx_failed, fx_takes, hK, fx_askAbove hK, fx_askVehicle hK, fx_lashMixed hK]
theorem fx_start (hK : ∀ a b c u, fx (K a b c u).2 = fx u) (kd mb n : Int32) (u : BS) : fx (f_X0_start K kd mb n u).2 = fx u := by
  simp only [f_X0_start_k90, f_X0_start_k102, f_X0_start_k114, f_X0_start_k126, f_X0_start_k136, f_X0_start_k148, f_X0_start_k158, f_X0_start_k40, f_X0_start_k8, f_X0_start_k2, f_X0_start]
  repeat' split
  all_goals simp only [fx_w, fx_fl, fx_ch, fx_fail, fx_failed, fx_takes, hK, fx_lengthBody hK, fx_markBody hK, fx_hookBody hK, fx_pullBody hK, fx_feeBody hK, fx_riskBody hK, fx_lashBody hK]
end FX
theorem fx_start0 (kd mb n : Int32) (u : BS) : fx (f_X0_start0 kd mb n u).2 = fx u := by
  simp only [f_X0_start0, f_X0_start0_k2, f_X0_start0_k8]
  repeat' split
  all_goals simp only [fx_failed]
theorem fx_st : ∀ (k : Nat) (kd mb n : Int32) (u : BS), fx (stK k kd mb n u).2 = fx u
  | 0, kd, mb, n, u => fx_start0 kd mb n u
  | k + 1, kd, mb, n, u => fx_start (fun a b c u => fx_st k a b c u) kd mb n u
theorem answer_st (mb n : Int32) (u : BS) : f_X0_answer mb n u = stK 21 (b_kd u) mb n u := rfl
