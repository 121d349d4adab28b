/-! ===== loops as sums ===== -/
def lp (g : Nat → Int32) : Nat → Nat → Int32 → Int32
  | 0, _, a => a
  | k + 1, i, a => lp g k (i + 1) (a + g i)
theorem lp_add (g : Nat → Int32) : ∀ (k i : Nat) (a b : Int32), lp g k i (a + b) = lp g k i a + b
  | 0, _, _, _ => rfl
  | k + 1, i, a, b => by
    show lp g k (i + 1) (a + b + g i) = lp g k (i + 1) (a + g i) + b
    rw [← lp_add g k (i + 1), Int32.add_assoc, Int32.add_comm b, ← Int32.add_assoc]
theorem lp_congr {g g' : Nat → Int32} : ∀ (k i : Nat) (a : Int32), (∀ t, i ≤ t → t < i + k → g t = g' t) → lp g k i a = lp g' k i a
  | 0, _, _, _ => rfl
  | k + 1, i, a, h => by
    show lp g k (i + 1) (a + g i) = lp g' k (i + 1) (a + g' i)
    rw [h i (by omega) (by omega)]
    exact lp_congr k (i + 1) _ (fun t h1 h2 => h t (by omega) (by omega))
theorem lp_chg {g g' : Nat → Int32} {e : Int32} {j : Nat} : ∀ (k i : Nat) (a : Int32), i ≤ j → j < i + k → (∀ t, t ≠ j → g' t = g t) → g' j = g j + e → lp g' k i a = lp g k i a + e
  | 0, i, a, h1, h2, _, _ => by omega
  | k + 1, i, a, h1, h2, h3, h4 => by
    show lp g' k (i + 1) (a + g' i) = lp g k (i + 1) (a + g i) + e
    by_cases h : i = j
    · subst h
      rw [h4, ← Int32.add_assoc, lp_add]
      congr 1
      exact lp_congr k (i + 1) _ (fun t ht _ => h3 t (by omega))
    · rw [h3 i h]
      exact lp_chg k (i + 1) _ (by omega) (by omega) h3 h4
theorem lp_last (g : Nat → Int32) : ∀ (k i : Nat) (a : Int32), lp g (k + 1) i a = lp g k i a + g (i + k)
  | 0, i, a => rfl
  | k + 1, i, a => by
    show lp g (k + 1) (i + 1) (a + g i) = lp g k (i + 1) (a + g i) + g (i + (k + 1))
    rw [lp_last g k (i + 1) (a + g i), show i + 1 + k = i + (k + 1) by omega]
theorem tkL_lp (dk tk : Nat → Int32) (d : Int32) : ∀ (k i : Nat) (a : Int32), tkL dk tk d k i a = lp (fun j => if dk j = d then tk j else 0) k i a
  | 0, _, _ => rfl
  | k + 1, i, a => tkL_lp dk tk d k (i + 1) _
theorem ctL_lp (dk : Nat → Int32) (d : Int32) : ∀ (k i : Nat) (a : Int32), ctL dk d k i a = lp (fun j => if dk j = d then 1 else 0) k i a
  | 0, _, _ => rfl
  | k + 1, i, a => ctL_lp dk d k (i + 1) _
/-- what the vehicles take of a deck, how many they are -/
def sT (dk tk : Nat → Int32) (N : Nat) : Nat → Int32 := fun d => if d < 3 then tkL dk tk (nI d) N 0 0 else 0
def cT (dk : Nat → Int32) (N : Nat) : Nat → Int32 := fun d => if d < 3 then ctL dk (nI d) N 0 0 else 0
theorem nI_ne {a b : Nat} (h : a ≠ b) (ha : a < 3) (hb : b < 3) : ¬ nI a = nI b := fun z => h ((nI_eq (by omega) (by omega)).mp z)
theorem nI_nm {a : Nat} (ha : a < 3) : ¬ (-1 : Int32) = nI a := by
  rcases (show a = 0 ∨ a = 1 ∨ a = 2 by omega) with rfl | rfl | rfl <;> decide
section ST
variable {dk tk : Nat → Int32} {N j d : Nat} {x : Int32}
theorem sT_leave (hj : j < N) (hd : d < 3) (h : dk j = nI d) : sT (upd dk j (-1)) (upd tk j 0) N = upd (sT dk tk N) d (sT dk tk N d - tk j) := by
  funext q
  unfold sT
  by_cases hq : q < 3
  · rw [if_pos hq, tkL_lp]
    by_cases hqd : q = d
    · subst hqd
      rw [pk_us, if_pos hq, tkL_lp, Int32.sub_eq_add_neg]
      refine lp_chg (j := j) N 0 0 (Nat.zero_le _) (by omega) (fun t ht => ?_) ?_
      · rw [pk_un ht, pk_un ht]
      · rw [pk_us, if_neg (nI_nm hq), if_pos h, Int32.add_right_neg]
    · rw [pk_un hqd, if_pos hq, tkL_lp]
      refine lp_congr N 0 0 (fun t _ _ => ?_)
      by_cases ht : t = j
      · subst ht
        rw [pk_us, if_neg (nI_nm hq), if_neg (by rw [h]; exact nI_ne (Ne.symm hqd) hd hq)]
      · rw [pk_un ht, pk_un ht]
  · rw [if_neg hq, pk_un (by omega), if_neg hq]
theorem sT_board (hj : j < N) (hd : d < 3) (h : dk j = -1) : sT (upd dk j (nI d)) (upd tk j x) N = upd (sT dk tk N) d (sT dk tk N d + x) := by
  funext q
  unfold sT
  by_cases hq : q < 3
  · rw [if_pos hq, tkL_lp]
    by_cases hqd : q = d
    · subst hqd
      rw [pk_us, if_pos hq, tkL_lp]
      refine lp_chg (j := j) N 0 0 (Nat.zero_le _) (by omega) (fun t ht => ?_) ?_
      · rw [pk_un ht, pk_un ht]
      · rw [pk_us, pk_us, if_pos rfl, h, if_neg (nI_nm hq), Int32.zero_add]
    · rw [pk_un hqd, if_pos hq, tkL_lp]
      refine lp_congr N 0 0 (fun t _ _ => ?_)
      by_cases ht : t = j
      · subst ht
        rw [pk_us, if_neg (nI_ne (Ne.symm hqd) hd hq), h, if_neg (nI_nm hq)]
      · rw [pk_un ht, pk_un ht]
  · rw [if_neg hq, pk_un (by omega), if_neg hq]
theorem cT_leave (hj : j < N) (hd : d < 3) (h : dk j = nI d) : cT (upd dk j (-1)) N = upd (cT dk N) d (cT dk N d - 1) := by
  funext q
  unfold cT
  by_cases hq : q < 3
  · rw [if_pos hq, ctL_lp]
    by_cases hqd : q = d
    · subst hqd
      rw [pk_us, if_pos hq, ctL_lp, Int32.sub_eq_add_neg]
      refine lp_chg (j := j) N 0 0 (Nat.zero_le _) (by omega) (fun t ht => ?_) ?_
      · rw [pk_un ht]
      · rw [pk_us, if_neg (nI_nm hq), if_pos h, Int32.add_right_neg]
    · rw [pk_un hqd, if_pos hq, ctL_lp]
      refine lp_congr N 0 0 (fun t _ _ => ?_)
      by_cases ht : t = j
      · subst ht
        rw [pk_us, if_neg (nI_nm hq), if_neg (by rw [h]; exact nI_ne (Ne.symm hqd) hd hq)]
      · rw [pk_un ht]
  · rw [if_neg hq, pk_un (by omega), if_neg hq]
theorem cT_board (hj : j < N) (hd : d < 3) (h : dk j = -1) : cT (upd dk j (nI d)) N = upd (cT dk N) d (cT dk N d + 1) := by
  funext q
  unfold cT
  by_cases hq : q < 3
  · rw [if_pos hq, ctL_lp]
    by_cases hqd : q = d
    · subst hqd
      rw [pk_us, if_pos hq, ctL_lp]
      refine lp_chg (j := j) N 0 0 (Nat.zero_le _) (by omega) (fun t ht => ?_) ?_
      · rw [pk_un ht]
      · rw [pk_us, if_pos rfl, h, if_neg (nI_nm hq), Int32.zero_add]
    · rw [pk_un hqd, if_pos hq, ctL_lp]
      refine lp_congr N 0 0 (fun t _ _ => ?_)
      by_cases ht : t = j
      · subst ht
        rw [pk_us, if_neg (nI_ne (Ne.symm hqd) hd hq), h, if_neg (nI_nm hq)]
      · rw [pk_un ht]
  · rw [if_neg hq, pk_un (by omega), if_neg hq]
theorem sT_new : sT (upd dk N (-1)) tk (N + 1) = sT dk tk N := by
  funext q
  unfold sT
  by_cases hq : q < 3
  · rw [if_pos hq, if_pos hq, tkL_lp, tkL_lp, lp_last, Nat.zero_add, pk_us, if_neg (nI_nm hq), Int32.add_zero]
    exact lp_congr N 0 0 (fun t _ ht => by rw [pk_un (by omega)])
  · rw [if_neg hq, if_neg hq]
theorem cT_new : cT (upd dk N (-1)) (N + 1) = cT dk N := by
  funext q
  unfold cT
  by_cases hq : q < 3
  · rw [if_pos hq, if_pos hq, ctL_lp, ctL_lp, lp_last, Nat.zero_add, pk_us, if_neg (nI_nm hq), Int32.add_zero]
    exact lp_congr N 0 0 (fun t _ ht => by rw [pk_un (by omega)])
  · rw [if_neg hq, if_neg hq]
end ST
