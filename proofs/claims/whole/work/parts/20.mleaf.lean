/-! ===== the reference's world ===== -/
abbrev MS : Type := (Nat → Int32) × Int32 × (Nat → Int32) × (Nat → Int32) × (Nat → Int32) × (Nat → Int32) × (Nat → Int32) × (Nat → Int32) × (Nat → Int32) × Int64 × Int32 × Int32 × (Nat → Int32) × Int32 × Int32 × Int32 × Int32
abbrev m_T (u : MS) : Nat → Int32 := u.1
abbrev m_v (u : MS) : Int32 := u.2.1
abbrev m_kd (u : MS) : Nat → Int32 := u.2.2.1
abbrev m_sz (u : MS) : Nat → Int32 := u.2.2.2.1
abbrev m_ld (u : MS) : Nat → Int32 := u.2.2.2.2.1
abbrev m_ch (u : MS) : Nat → Int32 := u.2.2.2.2.2.1
abbrev m_dk (u : MS) : Nat → Int32 := u.2.2.2.2.2.2.1
abbrev m_tk (u : MS) : Nat → Int32 := u.2.2.2.2.2.2.2.1
abbrev m_me (u : MS) : Nat → Int32 := u.2.2.2.2.2.2.2.2.1
abbrev m_til (u : MS) : Int64 := u.2.2.2.2.2.2.2.2.2.1
abbrev m_rk (u : MS) : Int32 := u.2.2.2.2.2.2.2.2.2.2.1
abbrev m_pl (u : MS) : Int32 := u.2.2.2.2.2.2.2.2.2.2.2.1
abbrev m_te (u : MS) : Nat → Int32 := u.2.2.2.2.2.2.2.2.2.2.2.2.1
abbrev m_z (u : MS) : Int32 := u.2.2.2.2.2.2.2.2.2.2.2.2.2.1
abbrev m_ac (u : MS) : Int32 := u.2.2.2.2.2.2.2.2.2.2.2.2.2.2.1
abbrev m_fa (u : MS) : Int32 := u.2.2.2.2.2.2.2.2.2.2.2.2.2.2.2.1
abbrev m_fl (u : MS) : Int32 := u.2.2.2.2.2.2.2.2.2.2.2.2.2.2.2.2
def m_s_T (u : MS) (x : Nat → Int32) : MS := (x, u.2)
def m_s_v (u : MS) (x : Int32) : MS := (u.1, x, u.2.2)
def m_s_kd (u : MS) (x : Nat → Int32) : MS := (u.1, u.2.1, x, u.2.2.2)
def m_s_sz (u : MS) (x : Nat → Int32) : MS := (u.1, u.2.1, u.2.2.1, x, u.2.2.2.2)
def m_s_ld (u : MS) (x : Nat → Int32) : MS := (u.1, u.2.1, u.2.2.1, u.2.2.2.1, x, u.2.2.2.2.2)
def m_s_ch (u : MS) (x : Nat → Int32) : MS := (u.1, u.2.1, u.2.2.1, u.2.2.2.1, u.2.2.2.2.1, x, u.2.2.2.2.2.2)
def m_s_dk (u : MS) (x : Nat → Int32) : MS := (u.1, u.2.1, u.2.2.1, u.2.2.2.1, u.2.2.2.2.1, u.2.2.2.2.2.1, x, u.2.2.2.2.2.2.2)
def m_s_tk (u : MS) (x : Nat → Int32) : MS := (u.1, u.2.1, u.2.2.1, u.2.2.2.1, u.2.2.2.2.1, u.2.2.2.2.2.1, u.2.2.2.2.2.2.1, x, u.2.2.2.2.2.2.2.2)
def m_s_me (u : MS) (x : Nat → Int32) : MS := (u.1, u.2.1, u.2.2.1, u.2.2.2.1, u.2.2.2.2.1, u.2.2.2.2.2.1, u.2.2.2.2.2.2.1, u.2.2.2.2.2.2.2.1, x, u.2.2.2.2.2.2.2.2.2)
def m_s_til (u : MS) (x : Int64) : MS := (u.1, u.2.1, u.2.2.1, u.2.2.2.1, u.2.2.2.2.1, u.2.2.2.2.2.1, u.2.2.2.2.2.2.1, u.2.2.2.2.2.2.2.1, u.2.2.2.2.2.2.2.2.1, x, u.2.2.2.2.2.2.2.2.2.2)
def m_s_rk (u : MS) (x : Int32) : MS := (u.1, u.2.1, u.2.2.1, u.2.2.2.1, u.2.2.2.2.1, u.2.2.2.2.2.1, u.2.2.2.2.2.2.1, u.2.2.2.2.2.2.2.1, u.2.2.2.2.2.2.2.2.1, u.2.2.2.2.2.2.2.2.2.1, x, u.2.2.2.2.2.2.2.2.2.2.2)
def m_s_pl (u : MS) (x : Int32) : MS := (u.1, u.2.1, u.2.2.1, u.2.2.2.1, u.2.2.2.2.1, u.2.2.2.2.2.1, u.2.2.2.2.2.2.1, u.2.2.2.2.2.2.2.1, u.2.2.2.2.2.2.2.2.1, u.2.2.2.2.2.2.2.2.2.1, u.2.2.2.2.2.2.2.2.2.2.1, x, u.2.2.2.2.2.2.2.2.2.2.2.2)
def m_s_te (u : MS) (x : Nat → Int32) : MS := (u.1, u.2.1, u.2.2.1, u.2.2.2.1, u.2.2.2.2.1, u.2.2.2.2.2.1, u.2.2.2.2.2.2.1, u.2.2.2.2.2.2.2.1, u.2.2.2.2.2.2.2.2.1, u.2.2.2.2.2.2.2.2.2.1, u.2.2.2.2.2.2.2.2.2.2.1, u.2.2.2.2.2.2.2.2.2.2.2.1, x, u.2.2.2.2.2.2.2.2.2.2.2.2.2)
def m_s_z (u : MS) (x : Int32) : MS := (u.1, u.2.1, u.2.2.1, u.2.2.2.1, u.2.2.2.2.1, u.2.2.2.2.2.1, u.2.2.2.2.2.2.1, u.2.2.2.2.2.2.2.1, u.2.2.2.2.2.2.2.2.1, u.2.2.2.2.2.2.2.2.2.1, u.2.2.2.2.2.2.2.2.2.2.1, u.2.2.2.2.2.2.2.2.2.2.2.1, u.2.2.2.2.2.2.2.2.2.2.2.2.1, x, u.2.2.2.2.2.2.2.2.2.2.2.2.2.2)
def m_s_ac (u : MS) (x : Int32) : MS := (u.1, u.2.1, u.2.2.1, u.2.2.2.1, u.2.2.2.2.1, u.2.2.2.2.2.1, u.2.2.2.2.2.2.1, u.2.2.2.2.2.2.2.1, u.2.2.2.2.2.2.2.2.1, u.2.2.2.2.2.2.2.2.2.1, u.2.2.2.2.2.2.2.2.2.2.1, u.2.2.2.2.2.2.2.2.2.2.2.1, u.2.2.2.2.2.2.2.2.2.2.2.2.1, u.2.2.2.2.2.2.2.2.2.2.2.2.2.1, x, u.2.2.2.2.2.2.2.2.2.2.2.2.2.2.2)
def m_s_fa (u : MS) (x : Int32) : MS := (u.1, u.2.1, u.2.2.1, u.2.2.2.1, u.2.2.2.2.1, u.2.2.2.2.2.1, u.2.2.2.2.2.2.1, u.2.2.2.2.2.2.2.1, u.2.2.2.2.2.2.2.2.1, u.2.2.2.2.2.2.2.2.2.1, u.2.2.2.2.2.2.2.2.2.2.1, u.2.2.2.2.2.2.2.2.2.2.2.1, u.2.2.2.2.2.2.2.2.2.2.2.2.1, u.2.2.2.2.2.2.2.2.2.2.2.2.2.1, u.2.2.2.2.2.2.2.2.2.2.2.2.2.2.1, x, u.2.2.2.2.2.2.2.2.2.2.2.2.2.2.2.2)
def m_s_fl (u : MS) (x : Int32) : MS := (u.1, u.2.1, u.2.2.1, u.2.2.2.1, u.2.2.2.2.1, u.2.2.2.2.2.1, u.2.2.2.2.2.2.1, u.2.2.2.2.2.2.2.1, u.2.2.2.2.2.2.2.2.1, u.2.2.2.2.2.2.2.2.2.1, u.2.2.2.2.2.2.2.2.2.2.1, u.2.2.2.2.2.2.2.2.2.2.2.1, u.2.2.2.2.2.2.2.2.2.2.2.2.1, u.2.2.2.2.2.2.2.2.2.2.2.2.2.1, u.2.2.2.2.2.2.2.2.2.2.2.2.2.2.1, u.2.2.2.2.2.2.2.2.2.2.2.2.2.2.2.1, x)
abbrev m_W (cI : ClassId) (hM hTm hkd hsz hld hch hdk htk hme hte : Nat) (u : MS) : va_W := [(hM, .inr (5, [.ref hTm, .int (m_v u), .ref hkd, .ref hsz, .ref hld, .ref hch, .ref hdk, .ref htk, .ref hme, .long (m_til u), .int (m_rk u), .int (m_pl u), .ref hte, .int (m_z u), .int (m_ac u), .int (m_fa u), .int (m_fl u)])), (hTm, .inl (cI, 8, .inl (m_T u))), (hkd, .inl (cI, 70, .inl (m_kd u))), (hsz, .inl (cI, 70, .inl (m_sz u))), (hld, .inl (cI, 70, .inl (m_ld u))), (hch, .inl (cI, 70, .inl (m_ch u))), (hdk, .inl (cI, 70, .inl (m_dk u))), (htk, .inl (cI, 70, .inl (m_tk u))), (hme, .inl (cI, 3, .inl (m_me u))), (hte, .inl (cI, 400, .inl (m_te u)))]
abbrev m_ok (u : MS) : Prop := (0 ≤ m_v u ∧ m_v u ≤ 70) ∧ (0 ≤ m_z u ∧ m_z u ≤ 400) ∧ ∀ j : Nat, j < 70 → m_dk u j ≤ 2
theorem lg_nlt {x y : Int64} (h : ¬ lg_cmp x y < 0) : y ≤ x := by
  unfold lg_cmp at h
  by_cases h1 : x > y
  · exact Int64.le_of_lt h1
  · rw [if_neg h1] at h
    by_cases h2 : x = y
    · rw [h2]; exact Int64.le_refl y
    · rw [if_neg h2] at h; exact absurd (by decide) h
theorem lg_ngt {x y : Int64} (h : ¬ 0 < lg_cmp x y) : x ≤ y := by
  unfold lg_cmp at h
  by_cases h1 : x > y
  · rw [if_pos h1] at h; exact absurd (by decide) h
  · exact Int64.not_lt.mp h1
theorem lg_lt {x y : Int64} (h : lg_cmp x y < 0) : x < y := by
  unfold lg_cmp at h
  by_cases h1 : x > y
  · rw [if_pos h1] at h; exact absurd h (by decide)
  · rw [if_neg h1] at h
    by_cases h2 : x = y
    · rw [if_pos h2] at h; exact absurd h (by decide)
    · rcases Int64.lt_or_le x y with q | q
      · exact q
      · exact absurd (Int64.le_antisymm (Int64.not_lt.mp h1) q) h2
theorem lg_gt {x y : Int64} (h : 0 < lg_cmp x y) : y < x := by
  unfold lg_cmp at h
  by_cases h1 : x > y
  · exact h1
  · rw [if_neg h1] at h
    by_cases h2 : x = y
    · rw [if_pos h2] at h; exact absurd h (by decide)
    · rw [if_neg h2] at h; exact absurd h (by decide)

-- FerryDecksModel.in
def f_X5_in (a0 : Int64) (a1 : Int64) (a2 : Int64) : Int32 :=
  (if (lg_cmp a0 a1) < 0 then (0 : Int32) else (if 0 < (lg_cmp a0 a2) then (0 : Int32) else (1 : Int32)))
set_option maxHeartbeats 4000000 in
set_option maxRecDepth 100000 in
theorem c_X5_in_0 {p : Program} {e : Env} {s : State} {m : MethodId} {args : Array Value} {below : List Frame} {meth : Method} {c : Code} (l : Launch) (G : gC) (A : Nat → Prop) (C0 : gX p s m args meth c cX5_in 6 wsX5_in RX5 (some .boolean)) (hE : gE G A s) (a0 : Int64) (a1 : Int64) (a2 : Int64) (hS : va_S A s.heap s.heap []) {ls : Array Slot} (hl : lv_has ls 6 [(0, .long a0), (2, .long a1), (4, .long a2)]) {fv : Int32} (hfv : f_X5_in a0 a1 a2 = fv) : W p l e ({ frames := 0, cells := 0, slots := 0, locals := 0 } : Room) s m args below meth c s.heap [] 0 0 (MQ below (vp_Si (fun r => r = fv)) args s 0 0 (fun _ => False)) (F0 m 0 ls []) := by
  obtain ⟨⟨hx, hb, hml, hown, hts⟩, hr, hlk⟩ := id C0
  refine lv_lload_n hx hb dX5_in_0 rfl (lv_at hl 0 rfl) ?_
  refine lv_lload_n hx hb dX5_in_1 rfl (lv_at hl 1 rfl) ?_
  refine W.lcmp hx hb dX5_in_2 ?_
  refine lv_if_lt (tgt := 17) hx hb dX5_in_3 (by decide) (fun c3 => ?_) (fun c3 => ?_)
  · refine lv_iconst (v := 0) hx hb dX5_in_17 (by decide) ?_
    exact gRsz hx hb hr hlk (by decide) (by rw [← hfv, f_X5_in, if_pos c3]) dX5_in_18
  · refine lv_lload_n hx hb dX5_in_6 rfl (lv_at hl 0 rfl) ?_
    refine lv_lload hx hb dX5_in_7 (lv_at hl 2 rfl) ?_
    refine W.lcmp hx hb dX5_in_9 ?_
    refine lv_if_gt (tgt := 17) hx hb dX5_in_10 (by decide) (fun c10 => ?_) (fun c10 => ?_)
    · refine lv_iconst (v := 0) hx hb dX5_in_17 (by decide) ?_
      exact gRsz hx hb hr hlk (by decide) (by rw [← hfv, f_X5_in, if_neg c3, if_pos c10]) dX5_in_18
    · refine lv_iconst (v := 1) hx hb dX5_in_13 (by decide) ?_
      refine lv_goto (tgt := 18) hx hb dX5_in_14 (by decide) ?_
      exact gRsz hx hb hr hlk (by decide) (by rw [← hfv, f_X5_in, if_neg c3, if_neg c10]) dX5_in_18
set_option maxHeartbeats 4000000 in
set_option maxRecDepth 100000 in
theorem c_X5_in (l : Launch) (G : gC) (A : Nat → Prop) (a0 : Int64) (a1 : Int64) (a2 : Int64) : CS l yX5_in wsX5_in ({ frames := 0, cells := 0, slots := 0, locals := 0 } : Room) G A [.long a0, .long a1, .long a2] (f_X5_in a0 a1 a2) := by
  refine Met.ofW (cc := cX5_in) (maxL := 6) (ret := (some .boolean)) (by decide) rfl ?_
  intro p e s m args below meth c s₁ B hml hv
  obtain ⟨rfl, hE⟩ := hv
  have hl := lv_entry ([.long a0, .long a1, .long a2]) (n := 6) (Nat.le_of_ble_eq_true rfl)
  rw [lg_entry_eq]
  generalize (lg_sl ([.long a0, .long a1, .long a2]) ++ List.replicate (6 - (lg_sl ([.long a0, .long a1, .long a2])).length) Slot.unset).toArray = ls at hl ⊢
  exact c_X5_in_0 l G A ⟨⟨B.exec, B.bytes, hml, findClass_of_methodNamed B.named, atoms_spec (ws := wsX5_in) B.pre⟩, B.returns, B.notSynchronized⟩ hE a0 a1 a2 va_S.rf hl rfl

theorem in_iff (a b d : Int64) : f_X5_in a b d = if b ≤ a ∧ a ≤ d then 1 else 0 := by
  unfold f_X5_in
  by_cases h1 : lg_cmp a b < 0
  · rw [if_pos h1, if_neg (fun h => absurd (lg_lt h1) (Int64.not_lt.mpr h.1))]
  · rw [if_neg h1]
    by_cases h2 : 0 < lg_cmp a d
    · rw [if_pos h2, if_neg (fun h => absurd (lg_gt h2) (Int64.not_lt.mpr h.2))]
    · rw [if_neg h2, if_pos ⟨lg_nlt h1, lg_ngt h2⟩]
theorem in_of {a b d : Int64} (h : ¬ f_X5_in a b d = 0) : b ≤ a ∧ a ≤ d := by
  rw [in_iff] at h
  by_cases h2 : b ≤ a ∧ a ≤ d
  · exact h2
  · rw [if_neg h2] at h; exact absurd rfl h
theorem l_le {x y : Int32} : x.toInt64 ≤ y.toInt64 ↔ x ≤ y := by
  rw [Int64.le_iff_toInt_le, Int32.le_iff_toInt_le, Int32.toInt_toInt64, Int32.toInt_toInt64]
theorem in_of32 {a b d : Int32} (h : ¬ f_X5_in a.toInt64 b.toInt64 d.toInt64 = 0) : b ≤ a ∧ a ≤ d := ⟨l_le.mp (in_of h).1, l_le.mp (in_of h).2⟩
theorem in_of0 {a d : Int32} (h : ¬ f_X5_in a.toInt64 0 d.toInt64 = 0) : 0 ≤ a ∧ a ≤ d := in_of32 (b := 0) (by rw [show (0 : Int32).toInt64 = 0 by decide]; exact h)
theorem in_ofc {a : Int32} {N : Nat} (hN : N < 2 ^ 31) (h : ¬ f_X5_in a.toInt64 0 (Int64.ofNat N) = 0) : 0 ≤ a ∧ a ≤ nI N := in_of0 (by rw [nI_l hN]; exact h)
theorem in_nar {q : Int32} {a b d : Int64} (e : q = f_X5_in a b d) : narrow .boolean (.int q) = .int q := by
  rw [e, in_iff]
  split <;> decide
theorem ok0 : (0 : Int32) ≤ 0 ∧ (0 : Int32) ≤ 400 := by decide
/-- an index between 0 and a bound -/
theorem inN {x b : Int32} {N n : Nat} (hb : b ≤ nI N) (hn : N < n) (h31 : n < 2 ^ 31) (h : 0 ≤ x ∧ x ≤ b) : vp_in x n := by
  obtain ⟨j, hj, rfl⟩ := nI_w (n := N) (by omega) ⟨h.1, Int32.le_trans h.2 hb⟩
  exact vp_in_nI (by omega) h31
theorem m_vle {v : Int32} (h : 0 ≤ v ∧ v ≤ 70) : v - 1 ≤ nI 69 := by
  obtain ⟨j, hj, rfl⟩ := nI_w (n := 70) (by omega) h
  cases j with
  | zero => decide
  | succ j => rw [nI_pred]; exact nI_le (by omega) (by omega)
theorem m_zle {v : Int32} (h : 0 ≤ v ∧ v ≤ 400) : v - 1 ≤ nI 399 := by
  obtain ⟨j, hj, rfl⟩ := nI_w (n := 400) (by omega) h
  cases j with
  | zero => decide
  | succ j => rw [nI_pred]; exact nI_le (by omega) (by omega)
theorem m_vIn {v : Int32} (h : 0 ≤ v ∧ v ≤ 70) (c : ¬ v = 70) : vp_in v 70 := by
  obtain ⟨j, hj, rfl⟩ := nI_w (n := 70) (by omega) h
  refine vp_in_nI (Nat.lt_of_le_of_ne hj (fun q => c (by rw [q]; rfl))) (by omega)
theorem m_vInc {v : Int32} (h : 0 ≤ v ∧ v ≤ 70) (c : ¬ v = 70) : 0 ≤ v + 1 ∧ v + 1 ≤ 70 := by
  obtain ⟨j, hj, rfl⟩ := nI_w (n := 70) (by omega) h
  have : j < 70 := Nat.lt_of_le_of_ne hj (fun q => c (by rw [q]; rfl))
  rw [nI_1]
  exact ⟨nI_pos' (by omega), nI_le (a := j + 1) (b := 70) (by omega) (by omega)⟩
theorem m_dkU {f : Nat → Int32} {k : Nat} {x : Int32} (h : ∀ j : Nat, j < 70 → f j ≤ 2) (hx : x ≤ 2) : ∀ j : Nat, j < 70 → upd f k x j ≤ 2 := by
  intro j hj
  unfold upd
  split
  · exact hx
  · exact h j hj
theorem m_dIn {f : Nat → Int32} {v : Int32} (h : ∀ j : Nat, j < 70 → f j ≤ 2) (hv : vp_in v 70) (c : 0 ≤ f v.toNatClampNeg) : vp_in (f v.toNatClampNeg) 3 :=
  inN (N := 2) (by show f _ ≤ 2; exact h _ (Nat.not_le.mp fun q => hv (Or.inr q))) (by omega) (by omega) ⟨c, Int32.le_refl _⟩

-- FerryDecksModel.isDeck
def f_X5_isDeck_k6 (q6 : Int32) : Int32 :=
  q6
def f_X5_isDeck (d : Int32) : Int32 :=
  (f_X5_isDeck_k6 (f_X5_in ((d : Int32).toInt64) (0 : Int64) (2 : Int64)))
set_option maxHeartbeats 4000000 in
set_option maxRecDepth 100000 in
theorem c_X5_isDeck_0 {p : Program} {e : Env} {s : State} {m : MethodId} {args : Array Value} {below : List Frame} {meth : Method} {c : Code} (l : Launch) (G : gC) (A : Nat → Prop) (C0 : gX p s m args meth c cX5_isDeck 1 wsX5_isDeck RX5 (some .boolean)) (hE : gE G A s) (d : Int32) (hS : va_S A s.heap s.heap []) {ls : Array Slot} (hl : lv_has ls 1 [(0, .int d)]) {fv : Int32} (hfv : f_X5_isDeck d = fv) : W p l e ({ frames := 1, cells := 0, slots := 0, locals := 25 } : Room) s m args below meth c s.heap [] 0 0 (MQ below (vp_Si (fun r => r = fv)) args s 0 0 (fun _ => False)) (F0 m 0 ls []) := by
  obtain ⟨⟨hx, hb, hml, hown, hts⟩, hr, hlk⟩ := id C0
  have k0 := hts (.constantLong RX5 45 (2)) (by decide +kernel)
  refine lv_iload_n hx hb dX5_isDeck_0 rfl (lv_at hl 0 rfl) ?_
  refine lv_i2l (v := (d : Int32).toInt64) hx hb dX5_isDeck_1 rfl ?_
  refine lv_lconst (v := 0) hx hb dX5_isDeck_2 (by decide) ?_
  refine lv_ldc2 hx hb hown k0 dX5_isDeck_3 ?_
  refine gSi (As := [.long ((d : Int32).toInt64), .long (0 : Int64), .long (2 : Int64)]) (rest := []) ⟨hx, hb, hml, hown, hts⟩ (c_X5_in l G A ((d : Int32).toInt64) (0 : Int64) (2 : Int64)) (va_cwS 3 hts gX5_isDeck_X5_in rfl rfl rfl (by decide +kernel) ⟨Nat.le_of_ble_eq_true rfl, Nat.le_of_ble_eq_true rfl⟩) hE hS rfl hl.1 rfl (Nat.le_of_ble_eq_true rfl) dX5_isDeck_6 ⟨Nat.zero_le _, Nat.zero_le _⟩ (fun q6 e6 => ?_)
  exact gRsz hx hb hr hlk (in_nar e6) (by rw [← hfv, f_X5_isDeck, ← e6, f_X5_isDeck_k6]) dX5_isDeck_9
set_option maxHeartbeats 4000000 in
set_option maxRecDepth 100000 in
theorem c_X5_isDeck (l : Launch) (G : gC) (A : Nat → Prop) (d : Int32) : CS l yX5_isDeck wsX5_isDeck ({ frames := 1, cells := 0, slots := 0, locals := 25 } : Room) G A [.int d] (f_X5_isDeck d) := by
  refine Met.ofW (cc := cX5_isDeck) (maxL := 1) (ret := (some .boolean)) (by decide) rfl ?_
  intro p e s m args below meth c s₁ B hml hv
  obtain ⟨rfl, hE⟩ := hv
  have hl := lv_entry ([.int d]) (n := 1) (Nat.le_of_ble_eq_true rfl)
  rw [lg_entry_eq]
  generalize (lg_sl ([.int d]) ++ List.replicate (1 - (lg_sl ([.int d])).length) Slot.unset).toArray = ls at hl ⊢
  exact c_X5_isDeck_0 l G A ⟨⟨B.exec, B.bytes, hml, findClass_of_methodNamed B.named, atoms_spec (ws := wsX5_isDeck) B.pre⟩, B.returns, B.notSynchronized⟩ hE d va_S.rf hl rfl

-- FerryDecksModel.isCar
def f_X5_isCar (x : Int32) : Int32 :=
  (if (6 : Int32) ≤ x then (0 : Int32) else (1 : Int32))
set_option maxHeartbeats 4000000 in
set_option maxRecDepth 100000 in
theorem c_X5_isCar_0 {p : Program} {e : Env} {s : State} {m : MethodId} {args : Array Value} {below : List Frame} {meth : Method} {c : Code} (l : Launch) (G : gC) (A : Nat → Prop) (C0 : gX p s m args meth c cX5_isCar 1 wsX5_isCar RX5 (some .boolean)) (hE : gE G A s) (x : Int32) (hS : va_S A s.heap s.heap []) {ls : Array Slot} (hl : lv_has ls 1 [(0, .int x)]) {fv : Int32} (hfv : f_X5_isCar x = fv) : W p l e ({ frames := 0, cells := 0, slots := 0, locals := 0 } : Room) s m args below meth c s.heap [] 0 0 (MQ below (vp_Si (fun r => r = fv)) args s 0 0 (fun _ => False)) (F0 m 0 ls []) := by
  obtain ⟨⟨hx, hb, hml, hown, hts⟩, hr, hlk⟩ := id C0
  refine lv_iload_n hx hb dX5_isCar_0 rfl (lv_at hl 0 rfl) ?_
  refine lv_bipush (v := 6) hx hb dX5_isCar_1 (by decide) ?_
  refine lv_icmp_ge (tgt := 10) hx hb dX5_isCar_3 (by decide) (fun c3 => ?_) (fun c3 => ?_)
  · refine lv_iconst (v := 0) hx hb dX5_isCar_10 (by decide) ?_
    exact gRsz hx hb hr hlk (by decide) (by rw [← hfv, f_X5_isCar, if_pos c3]) dX5_isCar_11
  · refine lv_iconst (v := 1) hx hb dX5_isCar_6 (by decide) ?_
    refine lv_goto (tgt := 11) hx hb dX5_isCar_7 (by decide) ?_
    exact gRsz hx hb hr hlk (by decide) (by rw [← hfv, f_X5_isCar, if_neg c3]) dX5_isCar_11
set_option maxHeartbeats 4000000 in
set_option maxRecDepth 100000 in
theorem c_X5_isCar (l : Launch) (G : gC) (A : Nat → Prop) (x : Int32) : CS l yX5_isCar wsX5_isCar ({ frames := 0, cells := 0, slots := 0, locals := 0 } : Room) G A [.int x] (f_X5_isCar x) := by
  refine Met.ofW (cc := cX5_isCar) (maxL := 1) (ret := (some .boolean)) (by decide) rfl ?_
  intro p e s m args below meth c s₁ B hml hv
  obtain ⟨rfl, hE⟩ := hv
  have hl := lv_entry ([.int x]) (n := 1) (Nat.le_of_ble_eq_true rfl)
  rw [lg_entry_eq]
  generalize (lg_sl ([.int x]) ++ List.replicate (1 - (lg_sl ([.int x])).length) Slot.unset).toArray = ls at hl ⊢
  exact c_X5_isCar_0 l G A ⟨⟨B.exec, B.bytes, hml, findClass_of_methodNamed B.named, atoms_spec (ws := wsX5_isCar) B.pre⟩, B.returns, B.notSynchronized⟩ hE x va_S.rf hl rfl

-- FerryDecksModel.isHooked
def f_X5_isHooked_k8 (x : Int32) (q8 : Int32) : Int32 :=
  (if q8 = 0 then (if x ≤ (6 : Int32) then (0 : Int32) else (1 : Int32)) else (1 : Int32))
def f_X5_isHooked (x : Int32) : Int32 :=
  (f_X5_isHooked_k8 x (f_X5_in ((x : Int32).toInt64) (3 : Int64) (5 : Int64)))
set_option maxHeartbeats 4000000 in
set_option maxRecDepth 100000 in
theorem c_X5_isHooked_0 {p : Program} {e : Env} {s : State} {m : MethodId} {args : Array Value} {below : List Frame} {meth : Method} {c : Code} (l : Launch) (G : gC) (A : Nat → Prop) (C0 : gX p s m args meth c cX5_isHooked 1 wsX5_isHooked RX5 (some .boolean)) (hE : gE G A s) (x : Int32) (hS : va_S A s.heap s.heap []) {ls : Array Slot} (hl : lv_has ls 1 [(0, .int x)]) {fv : Int32} (hfv : f_X5_isHooked x = fv) : W p l e ({ frames := 1, cells := 0, slots := 0, locals := 25 } : Room) s m args below meth c s.heap [] 0 0 (MQ below (vp_Si (fun r => r = fv)) args s 0 0 (fun _ => False)) (F0 m 0 ls []) := by
  obtain ⟨⟨hx, hb, hml, hown, hts⟩, hr, hlk⟩ := id C0
  have k0 := hts (.constantLong RX5 129 (3)) (by decide +kernel)
  have k1 := hts (.constantLong RX5 131 (5)) (by decide +kernel)
  refine lv_iload_n hx hb dX5_isHooked_0 rfl (lv_at hl 0 rfl) ?_
  refine lv_i2l (v := (x : Int32).toInt64) hx hb dX5_isHooked_1 rfl ?_
  refine lv_ldc2 hx hb hown k0 dX5_isHooked_2 ?_
  refine lv_ldc2 hx hb hown k1 dX5_isHooked_5 ?_
  refine gSi (As := [.long ((x : Int32).toInt64), .long (3 : Int64), .long (5 : Int64)]) (rest := []) ⟨hx, hb, hml, hown, hts⟩ (c_X5_in l G A ((x : Int32).toInt64) (3 : Int64) (5 : Int64)) (va_cwS 3 hts gX5_isHooked_X5_in rfl rfl rfl (by decide +kernel) ⟨Nat.le_of_ble_eq_true rfl, Nat.le_of_ble_eq_true rfl⟩) hE hS rfl hl.1 rfl (Nat.le_of_ble_eq_true rfl) dX5_isHooked_8 ⟨Nat.zero_le _, Nat.zero_le _⟩ (fun q8 e8 => ?_)
  refine lv_if_ne (tgt := 20) hx hb dX5_isHooked_11 (by decide) (fun c11 => ?_) (fun c11 => ?_)
  · refine lv_iconst (v := 1) hx hb dX5_isHooked_20 (by decide) ?_
    refine lv_goto (tgt := 25) hx hb dX5_isHooked_21 (by decide) ?_
    exact gRsz hx hb hr hlk (by decide) (by rw [← hfv, f_X5_isHooked, ← e8, f_X5_isHooked_k8, if_neg c11]) dX5_isHooked_25
  · refine lv_iload_n hx hb dX5_isHooked_14 rfl (lv_at hl 0 rfl) ?_
    refine lv_bipush (v := 6) hx hb dX5_isHooked_15 (by decide) ?_
    refine lv_icmp_le (tgt := 24) hx hb dX5_isHooked_17 (by decide) (fun c17 => ?_) (fun c17 => ?_)
    · refine lv_iconst (v := 0) hx hb dX5_isHooked_24 (by decide) ?_
      exact gRsz hx hb hr hlk (by decide) (by rw [← hfv, f_X5_isHooked, ← e8, f_X5_isHooked_k8, if_pos c11, if_pos c17]) dX5_isHooked_25
    · refine lv_iconst (v := 1) hx hb dX5_isHooked_20 (by decide) ?_
      refine lv_goto (tgt := 25) hx hb dX5_isHooked_21 (by decide) ?_
      exact gRsz hx hb hr hlk (by decide) (by rw [← hfv, f_X5_isHooked, ← e8, f_X5_isHooked_k8, if_pos c11, if_neg c17]) dX5_isHooked_25
set_option maxHeartbeats 4000000 in
set_option maxRecDepth 100000 in
theorem c_X5_isHooked (l : Launch) (G : gC) (A : Nat → Prop) (x : Int32) : CS l yX5_isHooked wsX5_isHooked ({ frames := 1, cells := 0, slots := 0, locals := 25 } : Room) G A [.int x] (f_X5_isHooked x) := by
  refine Met.ofW (cc := cX5_isHooked) (maxL := 1) (ret := (some .boolean)) (by decide) rfl ?_
  intro p e s m args below meth c s₁ B hml hv
  obtain ⟨rfl, hE⟩ := hv
  have hl := lv_entry ([.int x]) (n := 1) (Nat.le_of_ble_eq_true rfl)
  rw [lg_entry_eq]
  generalize (lg_sl ([.int x]) ++ List.replicate (1 - (lg_sl ([.int x])).length) Slot.unset).toArray = ls at hl ⊢
  exact c_X5_isHooked_0 l G A ⟨⟨B.exec, B.bytes, hml, findClass_of_methodNamed B.named, atoms_spec (ws := wsX5_isHooked) B.pre⟩, B.returns, B.notSynchronized⟩ hE x va_S.rf hl rfl
