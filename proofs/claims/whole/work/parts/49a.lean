/-! ===== the class's state out of the reference's; each operation answers alike and keeps that ===== -/
def absC (m : MS) (N : Nat) : FS := (m_kd m, m_sz m, m_ld m, m_ch m, m_dk m, m_tk m, m_me m, sT (m_dk m) (m_tk m) N, cT (m_dk m) N, m_T m, m_te m, m_fl m, m_z m, m_ac m, m_fa m, m_rk m, m_pl m, m_til m)
def Iv (m : MS) (N : Nat) : Prop := m_v m = nI N ∧ N ≤ 70 ∧ (∀ j : Nat, j < N → (1 ≤ m_kd m j ∧ m_kd m j ≤ 9) ∧ (1 ≤ m_sz m j ∧ m_sz m j ≤ 100) ∧ (m_dk m j = -1 ∨ ∃ d : Nat, d < 3 ∧ m_dk m j = nI d)) ∧ ∀ j : Nat, N ≤ j → m_ch m j = 0 ∧ m_tk m j = 0
theorem in_w {a b d : Int32} {b' d' : Int64} (hb : b.toInt64 = b') (hd : d.toInt64 = d') : f_X5_in a.toInt64 b' d' = f_X4_within a b d := by
  subst hb; subst hd
  rw [in_iff, within_iff]
  by_cases h : b ≤ a ∧ a ≤ d
  · rw [if_pos h, if_pos ⟨l_le.mpr h.1, l_le.mpr h.2⟩]
  · rw [if_neg h, if_neg (fun z => h ⟨l_le.mp z.1, l_le.mp z.2⟩)]
theorem isV_w {m : MS} {N : Nat} (h : Iv m N) (v : Int32) : f_X5_isVehicle v m = (f_X4_within v 0 (nI N - 1), m) := by
  unfold f_X5_isVehicle f_X5_isVehicle_k10
  rw [in_w (b := 0) (d := m_v m - 1) (by decide) rfl, h.1]
theorem isD_w (d : Int32) : f_X5_isDeck d = f_X4_within d 0 2 := by
  unfold f_X5_isDeck f_X5_isDeck_k6
  exact in_w (b := 0) (d := 2) (by decide) (by decide)
theorem N_cl {m : MS} {N : Nat} (h : Iv m N) : (m_v m).toNatClampNeg = N := by rw [h.1]; exact nI_clamp (by have := h.2.1; omega)
theorem tk_w {m : MS} {N : Nat} (h : Iv m N) {d : Int32} (c : ¬ f_X4_within d 0 2 = 0) : f_X5_takenOn d m = (sT (m_dk m) (m_tk m) N d.toNatClampNeg, m) := by
  unfold f_X5_takenOn sT
  rw [N_cl h, if_pos (dAt_lt c).1, ← (dAt_lt c).2]
theorem ct_w {m : MS} {N : Nat} (h : Iv m N) {d : Int32} (c : ¬ f_X4_within d 0 2 = 0) : ctL (m_dk m) d (m_v m).toNatClampNeg 0 0 = cT (m_dk m) N d.toNatClampNeg := by
  unfold cT
  rw [N_cl h, if_pos (dAt_lt c).1, ← (dAt_lt c).2]
theorem R_risk {m : MS} {N : Nat} (h : Iv m N) : f_X4_risk N (absC m N) = ((f_X5_risk m).1, absC (f_X5_risk m).2 N) ∧ Iv (f_X5_risk m).2 N := ⟨rfl, h⟩
theorem R_pulled {m : MS} {N : Nat} (h : Iv m N) : f_X4_pulled N (absC m N) = ((f_X5_pulled m).1, absC (f_X5_pulled m).2 N) ∧ Iv (f_X5_pulled m).2 N := ⟨rfl, h⟩
theorem R_till {m : MS} {N : Nat} (h : Iv m N) : f_X4_till N (absC m N) = ((f_X5_till m).1, absC (f_X5_till m).2 N) ∧ Iv (f_X5_till m).2 N := ⟨rfl, h⟩
theorem R_count {m : MS} {N : Nat} (h : Iv m N) (x : Int32) : f_X4_count N x (absC m N) = ((f_X5_count x m).1, absC (f_X5_count x m).2 N) ∧ Iv (f_X5_count x m).2 N := by
  unfold f_X4_count f_X5_count
  by_cases c0 : x = 0
  · simp only [if_pos c0]; exact ⟨by rw [h.1], h⟩
  · simp only [if_neg c0]
    by_cases c1 : x = 1
    · simp only [if_pos c1]; first | exact ⟨rfl, h⟩ | exact ⟨trivial, h⟩
    · simp only [if_neg c1]
      by_cases c2 : x = 2
      · simp only [if_pos c2]; first | exact ⟨rfl, h⟩ | exact ⟨trivial, h⟩
      · simp only [if_neg c2]
        by_cases c3 : x = 3
        · simp only [if_pos c3]; first | exact ⟨rfl, h⟩ | exact ⟨trivial, h⟩
        · simp only [if_neg c3]; first | exact ⟨rfl, h⟩ | exact ⟨trivial, h⟩
theorem R_term {m : MS} {N : Nat} (h : Iv m N) (k x : Int32) : f_X4_term N k x (absC m N) = ((f_X5_term k x m).1, absC (f_X5_term k x m).2 N) ∧ Iv (f_X5_term k x m).2 N := by
  unfold f_X4_term f_X5_term f_X4_term_k4 f_X5_term_k6
  rw [in_w (b := 0) (d := 7) (by decide) (by decide)]
  by_cases c1 : f_X4_within k 0 7 = 0
  · simp only [if_pos c1]; first | exact ⟨rfl, h⟩ | exact ⟨trivial, h⟩
  · simp only [if_neg c1]
    unfold f_X4_term_k15 f_X5_term_k18
    rw [in_w (b := 0) (d := 1000) (by decide) (by decide)]
    by_cases c2 : f_X4_within x 0 1000 = 0
    · simp only [if_pos c2]; first | exact ⟨rfl, h⟩ | exact ⟨trivial, h⟩
    · simp only [if_neg c2]; first | exact ⟨rfl, h⟩ | exact ⟨trivial, h⟩
theorem R_trace {m : MS} {N : Nat} (h : Iv m N) (x : Int32) : f_X4_trace N x (absC m N) = ((f_X5_trace x m).1, absC (f_X5_trace x m).2 N) ∧ Iv (f_X5_trace x m).2 N := by
  unfold f_X4_trace f_X5_trace f_X4_trace_k8 f_X5_trace_k10 f_X2_has f_X2_has_k8
  rw [in_w (b := 0) (d := m_z m - 1) (by decide) rfl]
  have hz : c_z (absC m N) = m_z m := rfl
  rw [hz]
  by_cases c1 : f_X4_within x 0 (m_z m - 1) = 0
  · simp only [if_pos c1]; first | exact ⟨rfl, h⟩ | exact ⟨trivial, h⟩
  · simp only [if_neg c1]; first | exact ⟨rfl, h⟩ | exact ⟨trivial, h⟩
theorem w_lit {x : Int32} {n : Nat} (hn : n < 2 ^ 31) (c : ¬ f_X4_within x 0 (nI n) = 0) : ∃ j : Nat, j ≤ n ∧ x = nI j := nI_w hn (within_of c)
theorem R_told {m : MS} {N : Nat} (h : Iv m N) (v x : Int32) : f_X4_told N v x (absC m N) = ((f_X5_told v x m).1, absC (f_X5_told v x m).2 N) ∧ Iv (f_X5_told v x m).2 N := by
  unfold f_X4_told f_X5_told f_X5_told_k2
  rw [isV_w h]
  by_cases c1 : f_X4_within v 0 (nI N - 1) = 0
  · simp only [if_pos c1]; first | exact ⟨rfl, h⟩ | exact ⟨trivial, h⟩
  · simp only [if_neg c1]
    unfold f_X5_told_k14
    rw [in_w (b := 0) (d := 5) (by decide) (by decide)]
    by_cases c2 : f_X4_within x 0 5 = 0
    · have e0 : ¬ x = 0 := fun z => by rw [z] at c2; exact absurd c2 (by decide)
      have e1 : ¬ x = 1 := fun z => by rw [z] at c2; exact absurd c2 (by decide)
      have e2 : ¬ x = 2 := fun z => by rw [z] at c2; exact absurd c2 (by decide)
      have e3 : ¬ x = 3 := fun z => by rw [z] at c2; exact absurd c2 (by decide)
      have e4 : ¬ x = 4 := fun z => by rw [z] at c2; exact absurd c2 (by decide)
      have e5 : ¬ x = 5 := fun z => by rw [z] at c2; exact absurd c2 (by decide)
      simp only [if_pos c2, if_neg e0, if_neg e1, if_neg e2, if_neg e3, if_neg e4, if_neg e5]; first | exact ⟨rfl, h⟩ | exact ⟨trivial, h⟩
    · simp only [if_neg c2]
      by_cases e0 : x = 0
      · simp only [if_pos e0]; first | exact ⟨rfl, h⟩ | exact ⟨trivial, h⟩
      · simp only [if_neg e0]
        by_cases e1 : x = 1
        · simp only [if_pos e1]; first | exact ⟨rfl, h⟩ | exact ⟨trivial, h⟩
        · simp only [if_neg e1]
          by_cases e2 : x = 2
          · simp only [if_pos e2]; first | exact ⟨rfl, h⟩ | exact ⟨trivial, h⟩
          · simp only [if_neg e2]
            by_cases e3 : x = 3
            · simp only [if_pos e3]; first | exact ⟨rfl, h⟩ | exact ⟨trivial, h⟩
            · simp only [if_neg e3]
              by_cases e4 : x = 4
              · simp only [if_pos e4]; first | exact ⟨rfl, h⟩ | exact ⟨trivial, h⟩
              · simp only [if_neg e4]
                have e5 : x = 5 := by
                  obtain ⟨j, hj, rfl⟩ := w_lit (n := 5) (by omega) c2
                  rcases (show j = 0 ∨ j = 1 ∨ j = 2 ∨ j = 3 ∨ j = 4 ∨ j = 5 by omega) with rfl | rfl | rfl | rfl | rfl | rfl
                  · exact absurd rfl e0
                  · exact absurd rfl e1
                  · exact absurd rfl e2
                  · exact absurd rfl e3
                  · exact absurd rfl e4
                  · rfl
                simp only [if_pos e5]; first | exact ⟨rfl, h⟩ | exact ⟨trivial, h⟩
theorem R_deck {m : MS} {N : Nat} (h : Iv m N) (d x : Int32) : f_X4_deck N d x (absC m N) = ((f_X5_deck d x m).1, absC (f_X5_deck d x m).2 N) ∧ Iv (f_X5_deck d x m).2 N := by
  unfold f_X4_deck f_X5_deck f_X5_deck_k1
  rw [isD_w]
  by_cases c1 : f_X4_within d 0 2 = 0
  · simp only [if_pos c1]; first | exact ⟨rfl, h⟩ | exact ⟨trivial, h⟩
  · simp only [if_neg c1]
    unfold f_X4_deck_k15 f_X5_deck_k13
    rw [in_w (b := 0) (d := 10000) (by decide) (by decide)]
    by_cases c2 : f_X4_within x 0 10000 = 0
    · simp only [if_pos c2]; first | exact ⟨rfl, h⟩ | exact ⟨trivial, h⟩
    · simp only [if_neg c2]
      rw [tk_w h c1]
      unfold f_X5_deck_k23 f_X4_deck_w42
      have e : c_tk (absC m N) d.toNatClampNeg = sT (m_dk m) (m_tk m) N d.toNatClampNeg := rfl
      rw [e]
      by_cases c3 : sT (m_dk m) (m_tk m) N d.toNatClampNeg ≤ x
      · simp only [if_pos c3]; first | exact ⟨rfl, h⟩ | exact ⟨trivial, h⟩
      · simp only [if_neg c3]; first | exact ⟨rfl, h⟩ | exact ⟨trivial, h⟩
theorem R_on {m : MS} {N : Nat} (h : Iv m N) (d x : Int32) : f_X4_on N d x (absC m N) = ((f_X5_on d x m).1, absC (f_X5_on d x m).2 N) ∧ Iv (f_X5_on d x m).2 N := by
  unfold f_X4_on f_X5_on f_X5_on_k1
  rw [isD_w]
  by_cases c1 : f_X4_within d 0 2 = 0
  · simp only [if_pos c1]; first | exact ⟨rfl, h⟩ | exact ⟨trivial, h⟩
  · simp only [if_neg c1]
    unfold f_X5_on_k13 f_X5_on_26 f_X5_on_60 f_X5_on_k86
    rw [in_w (b := 0) (d := 2) (by decide) (by decide), ct_w h c1, tk_w h c1]
    unfold f_X4_on_k46 f_X1_left
    by_cases c2 : f_X4_within x 0 2 = 0
    · have e0 : ¬ x = 0 := fun z => by rw [z] at c2; exact absurd c2 (by decide)
      have e1 : ¬ x = 1 := fun z => by rw [z] at c2; exact absurd c2 (by decide)
      have e2 : ¬ x = 2 := fun z => by rw [z] at c2; exact absurd c2 (by decide)
      simp only [if_pos c2, if_neg e0, if_neg e1, if_neg e2]; first | exact ⟨rfl, h⟩ | exact ⟨trivial, h⟩
    · simp only [if_neg c2]
      by_cases e0 : x = 0
      · simp only [if_pos e0]; first | exact ⟨rfl, h⟩ | exact ⟨trivial, h⟩
      · simp only [if_neg e0]
        by_cases e1 : x = 1
        · simp only [if_pos e1]; first | exact ⟨rfl, h⟩ | exact ⟨trivial, h⟩
        · simp only [if_neg e1]
          have e2 : x = 2 := by
            obtain ⟨j, hj, rfl⟩ := w_lit (n := 2) (by omega) c2
            rcases (show j = 0 ∨ j = 1 ∨ j = 2 by omega) with rfl | rfl | rfl
            · exact absurd rfl e0
            · exact absurd rfl e1
            · rfl
          simp only [if_pos e2]; first | exact ⟨rfl, h⟩ | exact ⟨trivial, h⟩
/-! leave -/
/-- the reference's state with another row of chains, decks, taken -/
def m3 (m : MS) (c a b : Nat → Int32) : MS := (m_T m, m_v m, m_kd m, m_sz m, m_ld m, c, a, b, m_me m, m_til m, m_rk m, m_pl m, m_te m, m_z m, m_ac m, m_fa m, m_fl m)
theorem s3 (m : MS) (a b c : Nat → Int32) : m_s_ch (m_s_tk (m_s_dk m a) b) c = m3 m c a b := rfl
theorem tk_sdk (m : MS) (a : Nat → Int32) : m_tk (m_s_dk m a) = m_tk m := rfl
theorem ch_stk (m : MS) (a b : Nat → Int32) : m_ch (m_s_tk (m_s_dk m a) b) = m_ch m := rfl
theorem me_3 (m : MS) (c a b : Nat → Int32) : m_me (m3 m c a b) = m_me m := rfl
theorem R_leave {m : MS} {N : Nat} (h : Iv m N) (v : Int32) : f_X4_leave N v (absC m N) = ((f_X5_leave v m).1, absC (f_X5_leave v m).2 N) ∧ Iv (f_X5_leave v m).2 N := by
  unfold f_X4_leave f_X5_leave f_X5_leave_k2
  rw [isV_w h]
  unfold f_X5_leave_k53 f_X1_release f_X1_release_w7 f_X1_release_w17 f_X4_leave_k33 f_X4_leave_k37 f_X4_leave_k41 f_X3_goAshore f_X3_goAshore_w2 f_X3_goAshore_w7 f_X3_goAshore_w12 f_X1_left
  by_cases c1 : f_X4_within v 0 (nI N - 1) = 0
  · simp only [if_pos c1]; first | exact ⟨rfl, h⟩ | exact ⟨trivial, h⟩
  · simp only [if_neg c1]
    obtain ⟨hj, -⟩ := vAt_lt h.2.1 c1
    generalize hjj : v.toNatClampNeg = j at hj ⊢
    have hdk : c_dk (absC m N) j = m_dk m j := rfl
    have hmt : c_mt (absC m N) j = m_tk m j := rfl
    rw [hdk, hmt]
    rcases (h.2.2.1 j hj).2.2 with hd | ⟨d, hd3, hd⟩
    · have c2 : f_X4_within (m_dk m j) 0 2 = 0 := by rw [hd]; decide
      have c3 : ¬ 0 ≤ m_dk m j := by rw [hd]; decide
      simp only [if_pos c2, if_neg c3]; first | exact ⟨rfl, h⟩ | exact ⟨trivial, h⟩
    · have c2 : ¬ f_X4_within (m_dk m j) 0 2 = 0 := by
        rw [hd]; rcases (show d = 0 ∨ d = 1 ∨ d = 2 by omega) with rfl | rfl | rfl <;> decide
      have c3 : 0 ≤ m_dk m j := by rw [hd]; exact nI_pos' (by omega)
      have hI : Iv (m3 m (upd (m_ch m) j 0) (upd (m_dk m) j (-1)) (upd (m_tk m) j 0)) N := by
        refine ⟨h.1, h.2.1, fun i hi => ⟨(h.2.2.1 i hi).1, (h.2.2.1 i hi).2.1, ?_⟩, fun i hi => ⟨?_, ?_⟩⟩
        · show upd (m_dk m) j (-1) i = -1 ∨ ∃ d : Nat, d < 3 ∧ upd (m_dk m) j (-1) i = nI d
          by_cases hij : i = j
          · rw [hij, pk_us]; exact Or.inl rfl
          · rw [pk_un hij]; exact (h.2.2.1 i hi).2.2
        · show upd (m_ch m) j 0 i = 0
          rw [pk_un (by omega)]; exact (h.2.2.2 i hi).1
        · show upd (m_tk m) j 0 i = 0
          rw [pk_un (by omega)]; exact (h.2.2.2 i hi).2
      have hcl : (m_dk m j).toNatClampNeg = d := by rw [hd]; exact nI_clamp (by omega)
      have ht := tk_w hI c2
      simp only [if_neg c2, if_pos c3, tk_sdk, ch_stk, s3, ht, hcl, me_3]
      refine ⟨?_, hI⟩
      show (m_me m d - upd (sT (m_dk m) (m_tk m) N) d (sT (m_dk m) (m_tk m) N d - m_tk m j) d, ((m_kd m, m_sz m, m_ld m, upd (m_ch m) j 0, upd (m_dk m) j (-1), upd (m_tk m) j 0, m_me m, upd (sT (m_dk m) (m_tk m) N) d (sT (m_dk m) (m_tk m) N d - m_tk m j), upd (cT (m_dk m) N) d (cT (m_dk m) N d - 1), m_T m, m_te m, m_fl m, m_z m, m_ac m, m_fa m, m_rk m, m_pl m, m_til m) : FS)) = (m_me m d - sT (upd (m_dk m) j (-1)) (upd (m_tk m) j 0) N d, ((m_kd m, m_sz m, m_ld m, upd (m_ch m) j 0, upd (m_dk m) j (-1), upd (m_tk m) j 0, m_me m, sT (upd (m_dk m) j (-1)) (upd (m_tk m) j 0) N, cT (upd (m_dk m) j (-1)) N, m_T m, m_te m, m_fl m, m_z m, m_ac m, m_fa m, m_rk m, m_pl m, m_til m) : FS))
      rw [sT_leave hj hd3 hd, cT_leave hj hd3 hd]
