/-- what 'start' answers with k levels left -/
def stK : Nat → Int32 → Int32 → Int32 → BS → Int32 × BS
  | 0 => f_X0_start0
  | k + 1 => f_X0_start (stK k)
set_option maxHeartbeats 4000000 in
theorem c_start (l : Launch) (G : gC) (A : Nat → Prop) (hB hT hW hEn hV : Nat) : ∀ (k n0 : Nat), n0 + k = 21 → ∀ (kd mb n : Int32) (u : BS), b_ok u → CI l yX0_start wsX0_start ({ frames := 4 * k + 4, cells := 0, slots := 0, locals := 120 * k + 60 } : Room) G A (b_W (gI G) hB hT hW hEn hV) b_ok [.ref hB, .ref hV, .int kd, .int mb, .int n, .int (nI n0)] u (stK k kd mb n u) := by
  intro k
  induction k with
  | zero =>
    intro n0 hn kd mb n u hok
    obtain rfl : n0 = 21 := by omega
    exact c_X0_start0 l G A hB hT hW hEn hV (nI 21) (by decide) kd mb n u hok
  | succ k ih =>
    intro n0 hn kd mb n u hok
    refine c_X0_start l G A hB hT hW hEn hV k (nI n0) (stK k) (fun kd mb n u hok => ?_) (show nI n0 ≤ nI 20 from nI_le (by omega) (by omega)) kd mb n u hok
    rw [nI_1]
    exact ih (n0 + 1) (by omega) kd mb n u hok
-- FerryDecks$Bodies.answer
def f_X0_answer_k9 (q9 : Int32 × BS) : Int32 × BS :=
  (q9.1, q9.2)
def f_X0_answer (mb : Int32) (n : Int32) (u : BS) : Int32 × BS :=
  (f_X0_answer_k9 (stK 21 (b_kd u) mb n u))
set_option maxHeartbeats 4000000 in
set_option maxRecDepth 100000 in
theorem c_X0_answer_0 {p : Program} {e : Env} {s : State} {m : MethodId} {args : Array Value} {below : List Frame} {meth : Method} {c : Code} (l : Launch) (G : gC) (A : Nat → Prop) (hB hT hW hEn hV : Nat) (C0 : gX p s m args meth c cX0_answer 4 wsX0_answer RX0 (some .int)) (hE : gE G A s) (mb : Int32) (n : Int32) (u : BS) {H : Heap} {locs : List Loc} (hP : va_P (gD G) vwCl ((b_W (gI G) hB hT hW hEn hV) u) H) (hD : va_D A ((b_W (gI G) hB hT hW hEn hV) u)) (hok : b_ok u) (hS : va_S A s.heap H locs) {ls : Array Slot} (hl : lv_has ls 4 [(0, .ref hB), (1, .ref hV), (2, .int mb), (3, .int n)]) {fv : Int32 × BS} (hfv : f_X0_answer mb n u = fv) : W p l e ({ frames := 89, cells := 0, slots := 0, locals := 2606 } : Room) s m args below meth c H locs 0 0 (MQ below (gQi G A (b_W (gI G) hB hT hW hEn hV) b_ok fv) args s 0 0 A) (F0 m 0 ls []) := by
  obtain ⟨⟨hx, hb, hml, hown, hts⟩, hr, hlk⟩ := id C0
  have hok0 := hok
  have k0 := hts (.fieldLink RX0 29 "FerryDecks$Vehicle" "kind" "I") (by decide +kernel)
  have iX3 : ∀ w ∈ wsX30, w ∈ wsX0_answer := by decide +kernel
  refine lv_aload_n hx hb dX0_answer_0 rfl (lv_at hl 0 rfl) ?_
  refine lv_aload_n hx hb dX0_answer_1 rfl (lv_at hl 1 rfl) ?_
  refine lv_aload_n hx hb dX0_answer_2 rfl (lv_at hl 1 rfl) ?_
  refine va_get (D := gD G) (ci := 3) (v := .int (b_kd u)) (C := RX3) (T := TX3) (N := 6) hx hb hts iX3 hown hE.1 hP 4 rfl rfl 0 (by decide) k0 (fun _ h9 => h9) rfl dX0_answer_3 ?_
  refine lv_iload_n hx hb dX0_answer_6 rfl (lv_at hl 2 rfl) ?_
  refine lv_iload_n hx hb dX0_answer_7 rfl (lv_at hl 3 rfl) ?_
  refine lv_iconst (v := 0) hx hb dX0_answer_8 (by decide) ?_
  refine gVi (u := u) (Wd := (b_W (gI G) hB hT hW hEn hV)) (ok := b_ok) (As := [.ref hV, .int (b_kd u), .int mb, .int n, .int (0 : Int32)]) (rest := []) ⟨hx, hb, hml, hown, hts⟩ (c_start l G A hB hT hW hEn hV 21 0 rfl (b_kd u) mb n u hok) (cwV 5 hts gX0_answer_X0_start rfl rfl rfl (by decide +kernel) ⟨Nat.le_of_ble_eq_true rfl, Nat.le_of_ble_eq_true rfl⟩) hE hP hD hS (va_recv hE.1 hP (ci := 0) (q0 := 0) rfl rfl) rfl hl.1 rfl (Nat.le_of_ble_eq_true rfl) dX0_answer_9 ⟨Nat.zero_le _, Nat.zero_le _⟩ (fun q9 H locs e9 hP hD hok hS => ?_)
  exact gRi (u := q9.2) hx hb hr hlk hP hD hok hS (by rw [← hfv, f_X0_answer, ← e9, f_X0_answer_k9]) dX0_answer_12
set_option maxHeartbeats 4000000 in
set_option maxRecDepth 100000 in
theorem c_X0_answer (l : Launch) (G : gC) (A : Nat → Prop) (hB hT hW hEn hV : Nat) (mb : Int32) (n : Int32) (u : BS) (hok : b_ok u) : CI l yX0_answer wsX0_answer ({ frames := 89, cells := 0, slots := 0, locals := 2606 } : Room) G A (b_W (gI G) hB hT hW hEn hV) b_ok [.ref hB, .ref hV, .int mb, .int n] u (f_X0_answer mb n u) := by
  refine Met.ofW (cc := cX0_answer) (maxL := 4) (ret := (some .int)) (by decide) rfl ?_
  intro p e s m args below meth c s₁ B hml hv
  obtain ⟨rfl, hE, hP, hD⟩ := hv
  have hl := lv_entry ([.ref hB, .ref hV, .int mb, .int n]) (n := 4) (Nat.le_of_ble_eq_true rfl)
  rw [lg_entry_eq]
  generalize (lg_sl ([.ref hB, .ref hV, .int mb, .int n]) ++ List.replicate (4 - (lg_sl ([.ref hB, .ref hV, .int mb, .int n])).length) Slot.unset).toArray = ls at hl ⊢
  exact c_X0_answer_0 l G A hB hT hW hEn hV ⟨⟨B.exec, B.bytes, hml, findClass_of_methodNamed B.named, atoms_spec (ws := wsX0_answer) B.pre⟩, B.returns, B.notSynchronized⟩ hE mb n u hP hD hok va_S.rf hl rfl
