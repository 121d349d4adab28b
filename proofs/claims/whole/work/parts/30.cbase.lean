/-! ===== the class's world: FerryDecks, its rows, Bodies, terms, Trace, entries; the decks; the vehicles ===== -/
abbrev FS : Type := (Nat → Int32) × (Nat → Int32) × (Nat → Int32) × (Nat → Int32) × (Nat → Int32) × (Nat → Int32) × (Nat → Int32) × (Nat → Int32) × (Nat → Int32) × (Nat → Int32) × (Nat → Int32) × Int32 × Int32 × Int32 × Int32 × Int32 × Int32 × Int64
abbrev c_kd (u : FS) : Nat → Int32 := u.1
abbrev c_sz (u : FS) : Nat → Int32 := u.2.1
abbrev c_ld (u : FS) : Nat → Int32 := u.2.2.1
abbrev c_ch (u : FS) : Nat → Int32 := u.2.2.2.1
abbrev c_dk (u : FS) : Nat → Int32 := u.2.2.2.2.1
abbrev c_mt (u : FS) : Nat → Int32 := u.2.2.2.2.2.1
abbrev c_dm (u : FS) : Nat → Int32 := u.2.2.2.2.2.2.1
abbrev c_tk (u : FS) : Nat → Int32 := u.2.2.2.2.2.2.2.1
abbrev c_vo (u : FS) : Nat → Int32 := u.2.2.2.2.2.2.2.2.1
abbrev c_T (u : FS) : Nat → Int32 := u.2.2.2.2.2.2.2.2.2.1
abbrev c_te (u : FS) : Nat → Int32 := u.2.2.2.2.2.2.2.2.2.2.1
abbrev c_fl (u : FS) : Int32 := u.2.2.2.2.2.2.2.2.2.2.2.1
abbrev c_z (u : FS) : Int32 := u.2.2.2.2.2.2.2.2.2.2.2.2.1
abbrev c_ac (u : FS) : Int32 := u.2.2.2.2.2.2.2.2.2.2.2.2.2.1
abbrev c_fa (u : FS) : Int32 := u.2.2.2.2.2.2.2.2.2.2.2.2.2.2.1
abbrev c_lr (u : FS) : Int32 := u.2.2.2.2.2.2.2.2.2.2.2.2.2.2.2.1
abbrev c_lp (u : FS) : Int32 := u.2.2.2.2.2.2.2.2.2.2.2.2.2.2.2.2.1
abbrev c_til (u : FS) : Int64 := u.2.2.2.2.2.2.2.2.2.2.2.2.2.2.2.2.2
def c_s_kd (u : FS) (x : Nat → Int32) : FS := (x, u.2)
def c_s_sz (u : FS) (x : Nat → Int32) : FS := (u.1, x, u.2.2)
def c_s_ld (u : FS) (x : Nat → Int32) : FS := (u.1, u.2.1, x, u.2.2.2)
def c_s_ch (u : FS) (x : Nat → Int32) : FS := (u.1, u.2.1, u.2.2.1, x, u.2.2.2.2)
def c_s_dk (u : FS) (x : Nat → Int32) : FS := (u.1, u.2.1, u.2.2.1, u.2.2.2.1, x, u.2.2.2.2.2)
def c_s_mt (u : FS) (x : Nat → Int32) : FS := (u.1, u.2.1, u.2.2.1, u.2.2.2.1, u.2.2.2.2.1, x, u.2.2.2.2.2.2)
def c_s_dm (u : FS) (x : Nat → Int32) : FS := (u.1, u.2.1, u.2.2.1, u.2.2.2.1, u.2.2.2.2.1, u.2.2.2.2.2.1, x, u.2.2.2.2.2.2.2)
def c_s_tk (u : FS) (x : Nat → Int32) : FS := (u.1, u.2.1, u.2.2.1, u.2.2.2.1, u.2.2.2.2.1, u.2.2.2.2.2.1, u.2.2.2.2.2.2.1, x, u.2.2.2.2.2.2.2.2)
def c_s_vo (u : FS) (x : Nat → Int32) : FS := (u.1, u.2.1, u.2.2.1, u.2.2.2.1, u.2.2.2.2.1, u.2.2.2.2.2.1, u.2.2.2.2.2.2.1, u.2.2.2.2.2.2.2.1, x, u.2.2.2.2.2.2.2.2.2)
def c_s_T (u : FS) (x : Nat → Int32) : FS := (u.1, u.2.1, u.2.2.1, u.2.2.2.1, u.2.2.2.2.1, u.2.2.2.2.2.1, u.2.2.2.2.2.2.1, u.2.2.2.2.2.2.2.1, u.2.2.2.2.2.2.2.2.1, x, u.2.2.2.2.2.2.2.2.2.2)
def c_s_te (u : FS) (x : Nat → Int32) : FS := (u.1, u.2.1, u.2.2.1, u.2.2.2.1, u.2.2.2.2.1, u.2.2.2.2.2.1, u.2.2.2.2.2.2.1, u.2.2.2.2.2.2.2.1, u.2.2.2.2.2.2.2.2.1, u.2.2.2.2.2.2.2.2.2.1, x, u.2.2.2.2.2.2.2.2.2.2.2)
def c_s_fl (u : FS) (x : Int32) : FS := (u.1, u.2.1, u.2.2.1, u.2.2.2.1, u.2.2.2.2.1, u.2.2.2.2.2.1, u.2.2.2.2.2.2.1, u.2.2.2.2.2.2.2.1, u.2.2.2.2.2.2.2.2.1, u.2.2.2.2.2.2.2.2.2.1, u.2.2.2.2.2.2.2.2.2.2.1, x, u.2.2.2.2.2.2.2.2.2.2.2.2)
def c_s_z (u : FS) (x : Int32) : FS := (u.1, u.2.1, u.2.2.1, u.2.2.2.1, u.2.2.2.2.1, u.2.2.2.2.2.1, u.2.2.2.2.2.2.1, u.2.2.2.2.2.2.2.1, u.2.2.2.2.2.2.2.2.1, u.2.2.2.2.2.2.2.2.2.1, u.2.2.2.2.2.2.2.2.2.2.1, u.2.2.2.2.2.2.2.2.2.2.2.1, x, u.2.2.2.2.2.2.2.2.2.2.2.2.2)
def c_s_ac (u : FS) (x : Int32) : FS := (u.1, u.2.1, u.2.2.1, u.2.2.2.1, u.2.2.2.2.1, u.2.2.2.2.2.1, u.2.2.2.2.2.2.1, u.2.2.2.2.2.2.2.1, u.2.2.2.2.2.2.2.2.1, u.2.2.2.2.2.2.2.2.2.1, u.2.2.2.2.2.2.2.2.2.2.1, u.2.2.2.2.2.2.2.2.2.2.2.1, u.2.2.2.2.2.2.2.2.2.2.2.2.1, x, u.2.2.2.2.2.2.2.2.2.2.2.2.2.2)
def c_s_fa (u : FS) (x : Int32) : FS := (u.1, u.2.1, u.2.2.1, u.2.2.2.1, u.2.2.2.2.1, u.2.2.2.2.2.1, u.2.2.2.2.2.2.1, u.2.2.2.2.2.2.2.1, u.2.2.2.2.2.2.2.2.1, u.2.2.2.2.2.2.2.2.2.1, u.2.2.2.2.2.2.2.2.2.2.1, u.2.2.2.2.2.2.2.2.2.2.2.1, u.2.2.2.2.2.2.2.2.2.2.2.2.1, u.2.2.2.2.2.2.2.2.2.2.2.2.2.1, x, u.2.2.2.2.2.2.2.2.2.2.2.2.2.2.2)
def c_s_lr (u : FS) (x : Int32) : FS := (u.1, u.2.1, u.2.2.1, u.2.2.2.1, u.2.2.2.2.1, u.2.2.2.2.2.1, u.2.2.2.2.2.2.1, u.2.2.2.2.2.2.2.1, u.2.2.2.2.2.2.2.2.1, u.2.2.2.2.2.2.2.2.2.1, u.2.2.2.2.2.2.2.2.2.2.1, u.2.2.2.2.2.2.2.2.2.2.2.1, u.2.2.2.2.2.2.2.2.2.2.2.2.1, u.2.2.2.2.2.2.2.2.2.2.2.2.2.1, u.2.2.2.2.2.2.2.2.2.2.2.2.2.2.1, x, u.2.2.2.2.2.2.2.2.2.2.2.2.2.2.2.2)
def c_s_lp (u : FS) (x : Int32) : FS := (u.1, u.2.1, u.2.2.1, u.2.2.2.1, u.2.2.2.2.1, u.2.2.2.2.2.1, u.2.2.2.2.2.2.1, u.2.2.2.2.2.2.2.1, u.2.2.2.2.2.2.2.2.1, u.2.2.2.2.2.2.2.2.2.1, u.2.2.2.2.2.2.2.2.2.2.1, u.2.2.2.2.2.2.2.2.2.2.2.1, u.2.2.2.2.2.2.2.2.2.2.2.2.1, u.2.2.2.2.2.2.2.2.2.2.2.2.2.1, u.2.2.2.2.2.2.2.2.2.2.2.2.2.2.1, u.2.2.2.2.2.2.2.2.2.2.2.2.2.2.2.1, x, u.2.2.2.2.2.2.2.2.2.2.2.2.2.2.2.2.2)
def c_s_til (u : FS) (x : Int64) : FS := (u.1, u.2.1, u.2.2.1, u.2.2.2.1, u.2.2.2.2.1, u.2.2.2.2.2.1, u.2.2.2.2.2.2.1, u.2.2.2.2.2.2.2.1, u.2.2.2.2.2.2.2.2.1, u.2.2.2.2.2.2.2.2.2.1, u.2.2.2.2.2.2.2.2.2.2.1, u.2.2.2.2.2.2.2.2.2.2.2.1, u.2.2.2.2.2.2.2.2.2.2.2.2.1, u.2.2.2.2.2.2.2.2.2.2.2.2.2.1, u.2.2.2.2.2.2.2.2.2.2.2.2.2.2.1, u.2.2.2.2.2.2.2.2.2.2.2.2.2.2.2.1, u.2.2.2.2.2.2.2.2.2.2.2.2.2.2.2.2.1, x)
def rl (n : Nat) (ad : Nat → Nat) (F : Nat → va_E) : va_W := (List.range n).map (fun j => (ad j, F j))
theorem rl_len (n : Nat) (ad : Nat → Nat) (F : Nat → va_E) : (rl n ad F).length = n := by simp [rl]
theorem rl_get {n : Nat} {ad : Nat → Nat} {F : Nat → va_E} {j : Nat} (h : j < n) : (rl n ad F)[j]? = some (ad j, F j) := by simp [rl, h]
theorem rl_out {n : Nat} {ad : Nat → Nat} {F : Nat → va_E} {j : Nat} {q : Nat × va_E} (h : (rl n ad F)[j]? = some q) : j < n ∧ q = (ad j, F j) := by
  have hj : j < n := by
    have := (List.getElem?_eq_some_iff.mp h).1
    rw [rl_len] at this
    exact this
  rw [rl_get hj] at h
  exact ⟨hj, (Option.some.inj h).symm⟩
theorem rl_set {n : Nat} {ad : Nat → Nat} {F : Nat → va_E} {j : Nat} (h : j < n) (E : va_E) : (rl n ad F).set j (ad j, E) = rl n ad (va_up F j E) := by
  apply List.ext_getElem?
  intro i
  by_cases hi : i = j
  · subst hi
    rw [List.getElem?_set_self (by rw [rl_len]; exact h), rl_get h, va_up_self]
  · rw [List.getElem?_set_ne (Ne.symm hi)]
    by_cases hn : i < n
    · rw [rl_get hn, rl_get hn, va_up_ne _ _ hi]
    · rw [List.getElem?_eq_none (by rw [rl_len]; omega), List.getElem?_eq_none (by rw [rl_len]; omega)]
theorem rl_push {n : Nat} {ad : Nat → Nat} {F : Nat → va_E} {q : Nat} {E : va_E} : rl n ad F ++ [(q, E)] = rl (n + 1) (va_up ad n q) (va_up F n E) := by
  apply List.ext_getElem?
  intro i
  by_cases hn : i < n
  · rw [List.getElem?_append_left (by rw [rl_len]; exact hn), rl_get hn, rl_get (by omega), va_up_ne _ _ (by omega), va_up_ne _ _ (by omega)]
  · rw [List.getElem?_append_right (by rw [rl_len]; omega), rl_len]
    by_cases hi : i = n
    · subst hi
      rw [rl_get (by omega), va_up_self, va_up_self, Nat.sub_self]
      rfl
    · rw [List.getElem?_eq_none (by simp; omega), List.getElem?_eq_none (by rw [rl_len]; omega)]
theorem rl_congr {n : Nat} {ad : Nat → Nat} {F F' : Nat → va_E} (h : ∀ j, j < n → F j = F' j) : rl n ad F = rl n ad F' := by
  apply List.map_congr_left
  intro j hj
  rw [h j (List.mem_range.mp hj)]
def c_FD (u : FS) : Nat → va_E := fun j => .inr (1, [.int (c_dm u j), .int (c_tk u j), .int (c_vo u j)])
def c_FV (u : FS) : Nat → va_E := fun j => .inr (3, [.int (c_kd u j), .int (c_sz u j), .int (c_ld u j), .int (c_ch u j), .int (c_dk u j), .int (c_mt u j)])
def vr (N : Nat) (ad : Nat → Nat) : Nat → Option Nat := fun j => if j < N then some (ad j) else none
abbrev c_X (G : gC) (hF hVs hDs hB hT hW hEn : Nat) (dd : Nat → Nat) (N : Nat) (ad : Nat → Nat) (u : FS) : va_W := [(hF, .inr (4, [.ref hVs, .int (nI N), .ref hDs, .ref hB, .int (c_ac u), .int (c_fa u), .int (c_lr u), .int (c_lp u), .long (c_til u)])), (hVs, .inl (gV G, 70, .inr (.inr (.inr (.inr (vr N ad)))))), (hDs, .inl (gQ G, 3, .inr (.inr (.inr (.inr (vr 3 dd)))))), (hB, .inr (0, [.ref hT, .ref hW, .int (c_fl u)])), (hT, .inl (gI G, 8, .inl (c_T u))), (hW, .inr (2, [.ref hEn, .int (c_z u)])), (hEn, .inl (gI G, 400, .inl (c_te u)))]
abbrev c_W (G : gC) (hF hVs hDs hB hT hW hEn : Nat) (dd : Nat → Nat) (N : Nat) (ad : Nat → Nat) (u : FS) : va_W := c_X G hF hVs hDs hB hT hW hEn dd N ad u ++ (rl 3 dd (c_FD u) ++ rl N ad (c_FV u))
abbrev c_ok (u : FS) : Prop := 0 ≤ c_z u ∧ c_z u ≤ 400
theorem ap_get {X Y Z : va_W} {n m j : Nat} (hX : X.length = n) (hj : j < Y.length) : (X ++ (Y ++ Z))[n + j]? = Y[j]? := by
  rw [List.getElem?_append_right (by omega), hX, show n + j - n = j by omega, List.getElem?_append_left hj]
theorem ap_get2 {X Y Z : va_W} {n m j : Nat} (hX : X.length = n) (hY : Y.length = m) : (X ++ (Y ++ Z))[n + m + j]? = Z[j]? := by
  rw [List.getElem?_append_right (by omega), hX, List.getElem?_append_right (by omega), hY, show n + m + j - n - m = j by omega]
theorem ap_set {X Y Z : va_W} {n j : Nat} {q : Nat × va_E} (hX : X.length = n) (hj : j < Y.length) : (X ++ (Y ++ Z)).set (n + j) q = X ++ (Y.set j q ++ Z) := by
  rw [List.set_append, if_neg (by omega), hX, show n + j - n = j by omega, List.set_append, if_pos hj]
theorem ap_set2 {X Y Z : va_W} {n m j : Nat} {q : Nat × va_E} (hX : X.length = n) (hY : Y.length = m) : (X ++ (Y ++ Z)).set (n + m + j) q = X ++ (Y ++ Z.set j q) := by
  rw [List.set_append, if_neg (by omega), hX, List.set_append, if_neg (by omega), hY, show n + m + j - n - m = j by omega]
section CGET
variable {G : gC} {hF hVs hDs hB hT hW hEn : Nat} {dd : Nat → Nat} {N : Nat} {ad : Nat → Nat}
theorem c_getD (u : FS) {j : Nat} (h : j < 3) : (c_W G hF hVs hDs hB hT hW hEn dd N ad u)[7 + j]? = some (dd j, .inr (1, [.int (c_dm u j), .int (c_tk u j), .int (c_vo u j)])) := by
  exact (ap_get (X := c_X G hF hVs hDs hB hT hW hEn dd N ad u) (Y := rl 3 dd (c_FD u)) (Z := rl N ad (c_FV u)) (n := 7) (m := 3) rfl (by rw [rl_len]; exact h)).trans (rl_get h)
theorem c_getV (u : FS) {j : Nat} (h : j < N) : (c_W G hF hVs hDs hB hT hW hEn dd N ad u)[7 + 3 + j]? = some (ad j, .inr (3, [.int (c_kd u j), .int (c_sz u j), .int (c_ld u j), .int (c_ch u j), .int (c_dk u j), .int (c_mt u j)])) := by
  exact (ap_get2 (X := c_X G hF hVs hDs hB hT hW hEn dd N ad u) (Y := rl 3 dd (c_FD u)) (Z := rl N ad (c_FV u)) (n := 7) (m := 3) rfl (rl_len _ _ _)).trans (rl_get h)
theorem c_setD_dm (u : FS) {j : Nat} (h : j < 3) (x : Int32) : (c_W G hF hVs hDs hB hT hW hEn dd N ad u).set (7 + j) (dd j, .inr (1, [.int x, .int (c_tk u j), .int (c_vo u j)])) = c_W G hF hVs hDs hB hT hW hEn dd N ad (c_s_dm u (upd (c_dm u) j x)) := by
  refine (ap_set (X := c_X G hF hVs hDs hB hT hW hEn dd N ad u) (Y := rl 3 dd (c_FD u)) (Z := rl N ad (c_FV u)) (n := 7) rfl (by rw [rl_len]; exact h)).trans ?_
  rw [rl_set h]
  refine congrArg (fun z => c_X G hF hVs hDs hB hT hW hEn dd N ad u ++ (z ++ rl N ad (c_FV u))) (rl_congr (fun i _ => ?_))
  by_cases hi : i = j
  · subst hi; simp [c_FD, va_up, upd, c_s_dm, c_dm]
  · simp [c_FD, va_up, upd, c_s_dm, c_dm, hi]
theorem c_setD_tk (u : FS) {j : Nat} (h : j < 3) (x : Int32) : (c_W G hF hVs hDs hB hT hW hEn dd N ad u).set (7 + j) (dd j, .inr (1, [.int (c_dm u j), .int x, .int (c_vo u j)])) = c_W G hF hVs hDs hB hT hW hEn dd N ad (c_s_tk u (upd (c_tk u) j x)) := by
  refine (ap_set (X := c_X G hF hVs hDs hB hT hW hEn dd N ad u) (Y := rl 3 dd (c_FD u)) (Z := rl N ad (c_FV u)) (n := 7) rfl (by rw [rl_len]; exact h)).trans ?_
  rw [rl_set h]
  refine congrArg (fun z => c_X G hF hVs hDs hB hT hW hEn dd N ad u ++ (z ++ rl N ad (c_FV u))) (rl_congr (fun i _ => ?_))
  by_cases hi : i = j
  · subst hi; simp [c_FD, va_up, upd, c_s_tk, c_tk]
  · simp [c_FD, va_up, upd, c_s_tk, c_tk, hi]
theorem c_setD_vo (u : FS) {j : Nat} (h : j < 3) (x : Int32) : (c_W G hF hVs hDs hB hT hW hEn dd N ad u).set (7 + j) (dd j, .inr (1, [.int (c_dm u j), .int (c_tk u j), .int x])) = c_W G hF hVs hDs hB hT hW hEn dd N ad (c_s_vo u (upd (c_vo u) j x)) := by
  refine (ap_set (X := c_X G hF hVs hDs hB hT hW hEn dd N ad u) (Y := rl 3 dd (c_FD u)) (Z := rl N ad (c_FV u)) (n := 7) rfl (by rw [rl_len]; exact h)).trans ?_
  rw [rl_set h]
  refine congrArg (fun z => c_X G hF hVs hDs hB hT hW hEn dd N ad u ++ (z ++ rl N ad (c_FV u))) (rl_congr (fun i _ => ?_))
  by_cases hi : i = j
  · subst hi; simp [c_FD, va_up, upd, c_s_vo, c_vo]
  · simp [c_FD, va_up, upd, c_s_vo, c_vo, hi]
theorem c_setV_ch (u : FS) {j : Nat} (h : j < N) (x : Int32) : (c_W G hF hVs hDs hB hT hW hEn dd N ad u).set (7 + 3 + j) (ad j, .inr (3, [.int (c_kd u j), .int (c_sz u j), .int (c_ld u j), .int x, .int (c_dk u j), .int (c_mt u j)])) = c_W G hF hVs hDs hB hT hW hEn dd N ad (c_s_ch u (upd (c_ch u) j x)) := by
  refine (ap_set2 (X := c_X G hF hVs hDs hB hT hW hEn dd N ad u) (Y := rl 3 dd (c_FD u)) (Z := rl N ad (c_FV u)) (n := 7) (m := 3) rfl (rl_len _ _ _)).trans ?_
  rw [rl_set h]
  refine congrArg (fun z => c_X G hF hVs hDs hB hT hW hEn dd N ad u ++ (rl 3 dd (c_FD u) ++ z)) (rl_congr (fun i _ => ?_))
  by_cases hi : i = j
  · subst hi; simp [c_FV, va_up, upd, c_s_ch, c_ch]
  · simp [c_FV, va_up, upd, c_s_ch, c_ch, hi]
theorem c_setV_dk (u : FS) {j : Nat} (h : j < N) (x : Int32) : (c_W G hF hVs hDs hB hT hW hEn dd N ad u).set (7 + 3 + j) (ad j, .inr (3, [.int (c_kd u j), .int (c_sz u j), .int (c_ld u j), .int (c_ch u j), .int x, .int (c_mt u j)])) = c_W G hF hVs hDs hB hT hW hEn dd N ad (c_s_dk u (upd (c_dk u) j x)) := by
  refine (ap_set2 (X := c_X G hF hVs hDs hB hT hW hEn dd N ad u) (Y := rl 3 dd (c_FD u)) (Z := rl N ad (c_FV u)) (n := 7) (m := 3) rfl (rl_len _ _ _)).trans ?_
  rw [rl_set h]
  refine congrArg (fun z => c_X G hF hVs hDs hB hT hW hEn dd N ad u ++ (rl 3 dd (c_FD u) ++ z)) (rl_congr (fun i _ => ?_))
  by_cases hi : i = j
  · subst hi; simp [c_FV, va_up, upd, c_s_dk, c_dk]
  · simp [c_FV, va_up, upd, c_s_dk, c_dk, hi]
theorem c_setV_mt (u : FS) {j : Nat} (h : j < N) (x : Int32) : (c_W G hF hVs hDs hB hT hW hEn dd N ad u).set (7 + 3 + j) (ad j, .inr (3, [.int (c_kd u j), .int (c_sz u j), .int (c_ld u j), .int (c_ch u j), .int (c_dk u j), .int x])) = c_W G hF hVs hDs hB hT hW hEn dd N ad (c_s_mt u (upd (c_mt u) j x)) := by
  refine (ap_set2 (X := c_X G hF hVs hDs hB hT hW hEn dd N ad u) (Y := rl 3 dd (c_FD u)) (Z := rl N ad (c_FV u)) (n := 7) (m := 3) rfl (rl_len _ _ _)).trans ?_
  rw [rl_set h]
  refine congrArg (fun z => c_X G hF hVs hDs hB hT hW hEn dd N ad u ++ (rl 3 dd (c_FD u) ++ z)) (rl_congr (fun i _ => ?_))
  by_cases hi : i = j
  · subst hi; simp [c_FV, va_up, upd, c_s_mt, c_mt]
  · simp [c_FV, va_up, upd, c_s_mt, c_mt, hi]
end CGET
