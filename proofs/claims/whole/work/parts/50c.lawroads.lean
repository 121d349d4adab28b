/-! ===== the law's roads ===== -/
section LROAD
variable {p : Program} (l : Launch) {e : Env} {s : State} {m : MethodId} {below : List Frame} {meth : Method} {c : Code} {b L : Nat} {xs : Nat → Int32} (G : gC) (hF hVs hDs hB hT hW hEn : Nat) (dd : Nat → Nat) (hM hTm hkd hsz hld hch hdk htk hme hte : Nat)
def lI (s : State) (u : MS) (N : Nat) (ad : Nat → Nat) (H : Heap) : Prop := Iv u N ∧ m_ok u ∧ lT G s (c_W G hF hVs hDs hB hT hW hEn dd N ad (absC u N)) (m_W (gI G) hM hTm hkd hsz hld hch hdk htk hme hte u) H
/-- what a road goes on to -/
abbrev lK (p : Program) (e : Env) (s : State) (m : MethodId) (b : Nat) (below : List Frame) (meth : Method) (c : Code) (ls : Array Slot) (cells slots : Nat) (Q : State → Prop) : Prop := ∀ (u : MS) (N : Nat) (ad : Nat → Nat) (H : Heap) (locs : List Loc) (cells' slots' : Nat), lI G hF hVs hDs hB hT hW hEn dd hM hTm hkd hsz hld hch hdk htk hme hte s u N ad H → va_S (lA s) s.heap H locs → cells' ≤ cells + 1 → slots' ≤ slots + 6 → W p l e room_1 s m #[Value.ref b] below meth c H locs cells' slots' Q (F0 m 519 ls [])

set_option maxHeartbeats 4000000 in
set_option maxRecDepth 100000 in
theorem lo_term (hL : L ≤ 2560) (C0 : lw_At p s m meth c b L xs) (hE : gE G (lA s) s) {t : Nat} (ht : 5 * t + 5 ≤ L) {u : MS} {N : Nat} {ad : Nat → Nat} {H : Heap} {locs : List Loc} (I : lI G hF hVs hDs hB hT hW hEn dd hM hTm hkd hsz hld hch hdk htk hme hte s u N ad H) (hS : va_S (lA s) s.heap H locs) {ls : Array Slot} (hl : lv_has ls 4 [(0, .ref b), (1, .ref hF), (2, .ref hM), (3, .int (nI (5 * t)))]) {cells slots : Nat} (hc : cells < 600000) (hs : slots + 6 ≤ 7302250) {Q : State → Prop} (kk : lK l G hF hVs hDs hB hT hW hEn dd hM hTm hkd hsz hld hch hdk htk hme hte p e s m b below meth c ls cells slots Q) : W p l e room_1 s m #[Value.ref b] below meth c H locs cells slots Q (F0 m 104 ls []) := by
  obtain ⟨hx, hb, hr, hml, hown, hts0, hX, hbl, hlocks, hgv⟩ := id C0
  have hts : ∀ w ∈ wsL_law, w.before #[Value.ref b] s = true := fun w h => hts0 w (wsL_law_in w h)
  have hown : s.vm.findClass RL = some m.cls := hown
  obtain ⟨hI, hok, hTT⟩ := I
  have hcok : c_ok (absC u N) := hok.2.1
  refine lv_aload_n hx hb dL_law_104 rfl (lv_at hl 1 rfl) ?_
  refine lArg (j := 1) hx hb hX hbl hS hL ht (by omega) hl (by decide) dL_law_105 dL_law_106 dL_law_107 dL_law_108 dL_law_109 ?_
  refine lArg (j := 2) hx hb hX hbl hS hL ht (by omega) hl (by decide) dL_law_110 dL_law_111 dL_law_112 dL_law_113 dL_law_114 ?_
  refine lVi (u := absC u N) (Wd := c_W G hF hVs hDs hB hT hW hEn dd N ad) (ok := c_ok) (As := [.int (lx xs t 1), .int (lx xs t 2)]) (rest := []) ⟨hx, hb, hml, hown, hts⟩ (c_X4_term l G _ hF hVs hDs hB hT hW hEn dd N ad hI.2.1 (lx xs t 1) (lx xs t 2) (absC u N) hcok) (cwV 2 hts gL_law_X4_term rfl rfl rfl (by decide +kernel) ⟨Nat.le_of_ble_eq_true rfl, Nat.le_of_ble_eq_true rfl⟩) hE hTT hS (va_recv hE.1 hTT.1 (ci := 4) (q0 := 0) rfl rfl) rfl hl.1 rfl (Nat.le_of_ble_eq_true rfl) dL_law_115 ⟨show cells ≤ 600000 by omega, show slots ≤ 7302250 by omega⟩ (fun q1 H locs e1 hTT hcok hS => ?_)
  obtain ⟨eA, hI2⟩ := R_term hI (lx xs t 1) (lx xs t 2)
  rw [eA] at e1
  subst e1
  refine lv_aload_n hx hb dL_law_118 rfl (lv_at hl 2 rfl) ?_
  refine lArg (j := 1) hx hb hX hbl hS hL ht (by omega) hl (by decide) dL_law_119 dL_law_120 dL_law_121 dL_law_122 dL_law_123 ?_
  refine lArg (j := 2) hx hb hX hbl hS hL ht (by omega) hl (by decide) dL_law_124 dL_law_125 dL_law_126 dL_law_127 dL_law_128 ?_
  refine lVi (u := u) (Wd := m_W (gI G) hM hTm hkd hsz hld hch hdk htk hme hte) (ok := m_ok) (As := [.int (lx xs t 1), .int (lx xs t 2)]) (rest := [.int (f_X5_term (lx xs t 1) (lx xs t 2) u).1]) ⟨hx, hb, hml, hown, hts⟩ (c_X5_term l G _ hM hTm hkd hsz hld hch hdk htk hme hte (lx xs t 1) (lx xs t 2) u hok) (cwV 2 hts gL_law_X5_term rfl rfl rfl (by decide +kernel) ⟨Nat.le_of_ble_eq_true rfl, Nat.le_of_ble_eq_true rfl⟩) hE hTT.symm hS (va_recv hE.1 hTT.2.1 (ci := 5) (q0 := 0) rfl rfl) rfl hl.1 rfl (Nat.le_of_ble_eq_true rfl) dL_law_129 ⟨show cells ≤ 600000 by omega, show slots ≤ 7302250 by omega⟩ (fun q2 H locs e2 hTT hok hS => ?_)
  subst e2
  refine lv_icmp_eq (tgt := 519) hx hb dL_law_132 (by decide) (fun _ => ?_) (fun z => absurd rfl z)
  exact kk (f_X5_term (lx xs t 1) (lx xs t 2) u).2 N ad H locs cells slots ⟨hI2, hok, hTT.symm⟩ hS (Nat.le_succ _) (by omega)
set_option maxHeartbeats 4000000 in
set_option maxRecDepth 100000 in
theorem lo_deck (hL : L ≤ 2560) (C0 : lw_At p s m meth c b L xs) (hE : gE G (lA s) s) {t : Nat} (ht : 5 * t + 5 ≤ L) {u : MS} {N : Nat} {ad : Nat → Nat} {H : Heap} {locs : List Loc} (I : lI G hF hVs hDs hB hT hW hEn dd hM hTm hkd hsz hld hch hdk htk hme hte s u N ad H) (hS : va_S (lA s) s.heap H locs) {ls : Array Slot} (hl : lv_has ls 4 [(0, .ref b), (1, .ref hF), (2, .ref hM), (3, .int (nI (5 * t)))]) {cells slots : Nat} (hc : cells < 600000) (hs : slots + 6 ≤ 7302250) {Q : State → Prop} (kk : lK l G hF hVs hDs hB hT hW hEn dd hM hTm hkd hsz hld hch hdk htk hme hte p e s m b below meth c ls cells slots Q) : W p l e room_1 s m #[Value.ref b] below meth c H locs cells slots Q (F0 m 137 ls []) := by
  obtain ⟨hx, hb, hr, hml, hown, hts0, hX, hbl, hlocks, hgv⟩ := id C0
  have hts : ∀ w ∈ wsL_law, w.before #[Value.ref b] s = true := fun w h => hts0 w (wsL_law_in w h)
  have hown : s.vm.findClass RL = some m.cls := hown
  obtain ⟨hI, hok, hTT⟩ := I
  have hcok : c_ok (absC u N) := hok.2.1
  refine lv_aload_n hx hb dL_law_137 rfl (lv_at hl 1 rfl) ?_
  refine lArg (j := 1) hx hb hX hbl hS hL ht (by omega) hl (by decide) dL_law_138 dL_law_139 dL_law_140 dL_law_141 dL_law_142 ?_
  refine lArg (j := 2) hx hb hX hbl hS hL ht (by omega) hl (by decide) dL_law_143 dL_law_144 dL_law_145 dL_law_146 dL_law_147 ?_
  refine lVi (u := absC u N) (Wd := c_W G hF hVs hDs hB hT hW hEn dd N ad) (ok := c_ok) (As := [.int (lx xs t 1), .int (lx xs t 2)]) (rest := []) ⟨hx, hb, hml, hown, hts⟩ (c_X4_deck l G _ hF hVs hDs hB hT hW hEn dd N ad hI.2.1 (lx xs t 1) (lx xs t 2) (absC u N) hcok) (cwV 2 hts gL_law_X4_deck rfl rfl rfl (by decide +kernel) ⟨Nat.le_of_ble_eq_true rfl, Nat.le_of_ble_eq_true rfl⟩) hE hTT hS (va_recv hE.1 hTT.1 (ci := 4) (q0 := 0) rfl rfl) rfl hl.1 rfl (Nat.le_of_ble_eq_true rfl) dL_law_148 ⟨show cells ≤ 600000 by omega, show slots ≤ 7302250 by omega⟩ (fun q1 H locs e1 hTT hcok hS => ?_)
  obtain ⟨eA, hI2⟩ := R_deck hI (lx xs t 1) (lx xs t 2)
  rw [eA] at e1
  subst e1
  refine lv_aload_n hx hb dL_law_151 rfl (lv_at hl 2 rfl) ?_
  refine lArg (j := 1) hx hb hX hbl hS hL ht (by omega) hl (by decide) dL_law_152 dL_law_153 dL_law_154 dL_law_155 dL_law_156 ?_
  refine lArg (j := 2) hx hb hX hbl hS hL ht (by omega) hl (by decide) dL_law_157 dL_law_158 dL_law_159 dL_law_160 dL_law_161 ?_
  refine lVi (u := u) (Wd := m_W (gI G) hM hTm hkd hsz hld hch hdk htk hme hte) (ok := m_ok) (As := [.int (lx xs t 1), .int (lx xs t 2)]) (rest := [.int (f_X5_deck (lx xs t 1) (lx xs t 2) u).1]) ⟨hx, hb, hml, hown, hts⟩ (c_X5_deck l G _ hM hTm hkd hsz hld hch hdk htk hme hte (lx xs t 1) (lx xs t 2) u hok) (cwV 2 hts gL_law_X5_deck rfl rfl rfl (by decide +kernel) ⟨Nat.le_of_ble_eq_true rfl, Nat.le_of_ble_eq_true rfl⟩) hE hTT.symm hS (va_recv hE.1 hTT.2.1 (ci := 5) (q0 := 0) rfl rfl) rfl hl.1 rfl (Nat.le_of_ble_eq_true rfl) dL_law_162 ⟨show cells ≤ 600000 by omega, show slots ≤ 7302250 by omega⟩ (fun q2 H locs e2 hTT hok hS => ?_)
  subst e2
  refine lv_icmp_eq (tgt := 519) hx hb dL_law_165 (by decide) (fun _ => ?_) (fun z => absurd rfl z)
  exact kk (f_X5_deck (lx xs t 1) (lx xs t 2) u).2 N ad H locs cells slots ⟨hI2, hok, hTT.symm⟩ hS (Nat.le_succ _) (by omega)
set_option maxHeartbeats 4000000 in
set_option maxRecDepth 100000 in
theorem lo_vehicle (hL : L ≤ 2560) (C0 : lw_At p s m meth c b L xs) (hE : gE G (lA s) s) {t : Nat} (ht : 5 * t + 5 ≤ L) {u : MS} {N : Nat} {ad : Nat → Nat} {H : Heap} {locs : List Loc} (I : lI G hF hVs hDs hB hT hW hEn dd hM hTm hkd hsz hld hch hdk htk hme hte s u N ad H) (hS : va_S (lA s) s.heap H locs) {ls : Array Slot} (hl : lv_has ls 4 [(0, .ref b), (1, .ref hF), (2, .ref hM), (3, .int (nI (5 * t)))]) {cells slots : Nat} (hc : cells < 600000) (hs : slots + 6 ≤ 7302250) {Q : State → Prop} (kk : lK l G hF hVs hDs hB hT hW hEn dd hM hTm hkd hsz hld hch hdk htk hme hte p e s m b below meth c ls cells slots Q) : W p l e room_1 s m #[Value.ref b] below meth c H locs cells slots Q (F0 m 170 ls []) := by
  obtain ⟨hx, hb, hr, hml, hown, hts0, hX, hbl, hlocks, hgv⟩ := id C0
  have hts : ∀ w ∈ wsL_law, w.before #[Value.ref b] s = true := fun w h => hts0 w (wsL_law_in w h)
  have hown : s.vm.findClass RL = some m.cls := hown
  obtain ⟨hI, hok, hTT⟩ := I
  have hcok : c_ok (absC u N) := hok.2.1
  refine lv_aload_n hx hb dL_law_170 rfl (lv_at hl 1 rfl) ?_
  refine lArg (j := 1) hx hb hX hbl hS hL ht (by omega) hl (by decide) dL_law_171 dL_law_172 dL_law_173 dL_law_174 dL_law_175 ?_
  refine lArg (j := 2) hx hb hX hbl hS hL ht (by omega) hl (by decide) dL_law_176 dL_law_177 dL_law_178 dL_law_179 dL_law_180 ?_
  refine lArg (j := 3) hx hb hX hbl hS hL ht (by omega) hl (by decide) dL_law_181 dL_law_182 dL_law_183 dL_law_184 dL_law_185 ?_
  have hFr := hTT.fr hS
  have hS0 := hS
  refine va_calli (va_runV (As := [.int (lx xs t 1), .int (lx xs t 2), .int (lx xs t 3)]) (rest := []) ⟨hx, hb, hml, hown, hts⟩ (c_X4_vehicle l G (va_A (c_W G hF hVs hDs hB hT hW hEn dd N ad (absC u N)) H.size) hF hVs hDs hB hT hW hEn dd N ad hI.2.1 H.size (fun q h => Or.inr h) (lx xs t 1) (lx xs t 2) (lx xs t 3) (absC u N) hcok) (cwV 3 hts gL_law_X4_vehicle rfl rfl rfl (by decide +kernel) ⟨Nat.le_of_ble_eq_true rfl, Nat.le_of_ble_eq_true rfl⟩) ⟨fun a U g mk q => ⟨q.1, q.2.1, q.2.2.1.calling g mk a, q.2.2.2⟩, va_recv hE.1 hTT.1 (ci := 4) (q0 := 0) rfl rfl, fun U hU hW1 => ⟨rfl, by rw [hU], hE.to hS hFr hU hW1, by rw [hU]; exact hTT.1, hTT.2.2.1.self, trivial⟩⟩ rfl rfl hl.1 rfl (lv_room (Nat.le_of_ble_eq_true rfl)) dL_law_186 ⟨show cells + 1 ≤ 600000 by omega, show slots + 6 ≤ 7302250 by omega⟩) hS (fun q _ h => hFr q h) hFr (fun r w T1 H1 locs1 hH1 _ hp hB1 _ hk1 hS => ?_)
  have hTT := hTT.next hk1 hS0 (by rw [← hH1]; exact hB1.1) hB1.2.1
  obtain ⟨N2, eA, hI2⟩ := R_vehicle hI (lx xs t 1) (lx xs t 2) (lx xs t 3)
  obtain ⟨w1, ad2, w3⟩ := w
  have e1 := hp.1
  rw [eA] at e1
  simp only [Prod.mk.injEq] at e1
  obtain ⟨e1, e3, e4⟩ := e1
  dsimp only at hTT
  subst e1; subst e3; subst e4
  refine lv_aload_n hx hb dL_law_189 rfl (lv_at hl 2 rfl) ?_
  refine lArg (j := 1) hx hb hX hbl hS hL ht (by omega) hl (by decide) dL_law_190 dL_law_191 dL_law_192 dL_law_193 dL_law_194 ?_
  refine lArg (j := 2) hx hb hX hbl hS hL ht (by omega) hl (by decide) dL_law_195 dL_law_196 dL_law_197 dL_law_198 dL_law_199 ?_
  refine lArg (j := 3) hx hb hX hbl hS hL ht (by omega) hl (by decide) dL_law_200 dL_law_201 dL_law_202 dL_law_203 dL_law_204 ?_
  refine lVi (u := u) (Wd := m_W (gI G) hM hTm hkd hsz hld hch hdk htk hme hte) (ok := m_ok) (As := [.int (lx xs t 1), .int (lx xs t 2), .int (lx xs t 3)]) (rest := [.int (f_X5_vehicle (lx xs t 1) (lx xs t 2) (lx xs t 3) u).1]) ⟨hx, hb, hml, hown, hts⟩ (c_X5_vehicle l G _ hM hTm hkd hsz hld hch hdk htk hme hte (lx xs t 1) (lx xs t 2) (lx xs t 3) u hok) (cwV 3 hts gL_law_X5_vehicle rfl rfl rfl (by decide +kernel) ⟨Nat.le_of_ble_eq_true rfl, Nat.le_of_ble_eq_true rfl⟩) hE hTT.symm hS (va_recv hE.1 hTT.2.1 (ci := 5) (q0 := 0) rfl rfl) rfl hl.1 rfl (Nat.le_of_ble_eq_true rfl) dL_law_205 ⟨show cells + 1 ≤ 600000 by omega, show slots + 6 ≤ 7302250 by omega⟩ (fun q2 H locs e2 hTT hok hS => ?_)
  subst e2
  refine lv_icmp_eq (tgt := 519) hx hb dL_law_208 (by decide) (fun _ => ?_) (fun z => absurd rfl z)
  exact kk (f_X5_vehicle (lx xs t 1) (lx xs t 2) (lx xs t 3) u).2 _ ad2 H locs (cells + 1) (slots + 6) ⟨hI2, hok, hTT.symm⟩ hS (Nat.le_refl _) (Nat.le_refl _)
set_option maxHeartbeats 4000000 in
set_option maxRecDepth 100000 in
theorem lo_ask (hL : L ≤ 2560) (C0 : lw_At p s m meth c b L xs) (hE : gE G (lA s) s) {t : Nat} (ht : 5 * t + 5 ≤ L) {u : MS} {N : Nat} {ad : Nat → Nat} {H : Heap} {locs : List Loc} (I : lI G hF hVs hDs hB hT hW hEn dd hM hTm hkd hsz hld hch hdk htk hme hte s u N ad H) (hS : va_S (lA s) s.heap H locs) {ls : Array Slot} (hl : lv_has ls 4 [(0, .ref b), (1, .ref hF), (2, .ref hM), (3, .int (nI (5 * t)))]) {cells slots : Nat} (hc : cells < 600000) (hs : slots + 6 ≤ 7302250) {Q : State → Prop} (kk : lK l G hF hVs hDs hB hT hW hEn dd hM hTm hkd hsz hld hch hdk htk hme hte p e s m b below meth c ls cells slots Q) : W p l e room_1 s m #[Value.ref b] below meth c H locs cells slots Q (F0 m 213 ls []) := by
  obtain ⟨hx, hb, hr, hml, hown, hts0, hX, hbl, hlocks, hgv⟩ := id C0
  have hts : ∀ w ∈ wsL_law, w.before #[Value.ref b] s = true := fun w h => hts0 w (wsL_law_in w h)
  have hown : s.vm.findClass RL = some m.cls := hown
  obtain ⟨hI, hok, hTT⟩ := I
  have hcok : c_ok (absC u N) := hok.2.1
  refine lv_aload_n hx hb dL_law_213 rfl (lv_at hl 1 rfl) ?_
  refine lArg (j := 1) hx hb hX hbl hS hL ht (by omega) hl (by decide) dL_law_214 dL_law_215 dL_law_216 dL_law_217 dL_law_218 ?_
  refine lArg (j := 2) hx hb hX hbl hS hL ht (by omega) hl (by decide) dL_law_219 dL_law_220 dL_law_221 dL_law_222 dL_law_223 ?_
  refine lArg (j := 3) hx hb hX hbl hS hL ht (by omega) hl (by decide) dL_law_224 dL_law_225 dL_law_226 dL_law_227 dL_law_228 ?_
  refine lVl (u := absC u N) (Wd := c_W G hF hVs hDs hB hT hW hEn dd N ad) (ok := c_ok) (As := [.int (lx xs t 1), .int (lx xs t 2), .int (lx xs t 3)]) (rest := []) ⟨hx, hb, hml, hown, hts⟩ (c_X4_ask l G _ hF hVs hDs hB hT hW hEn dd N ad hI.2.1 (lx xs t 1) (lx xs t 2) (lx xs t 3) (absC u N) hcok) (cwV 3 hts gL_law_X4_ask rfl rfl rfl (by decide +kernel) ⟨Nat.le_of_ble_eq_true rfl, Nat.le_of_ble_eq_true rfl⟩) hE hTT hS (va_recv hE.1 hTT.1 (ci := 4) (q0 := 0) rfl rfl) rfl hl.1 rfl (Nat.le_of_ble_eq_true rfl) dL_law_229 ⟨show cells ≤ 600000 by omega, show slots ≤ 7302250 by omega⟩ (fun q1 H locs e1 hTT hcok hS => ?_)
  obtain ⟨eA, hI2⟩ := R_ask hI (lx xs t 1) (lx xs t 2) (lx xs t 3)
  rw [eA] at e1
  subst e1
  refine lv_aload_n hx hb dL_law_232 rfl (lv_at hl 2 rfl) ?_
  refine lArg (j := 1) hx hb hX hbl hS hL ht (by omega) hl (by decide) dL_law_233 dL_law_234 dL_law_235 dL_law_236 dL_law_237 ?_
  refine lArg (j := 2) hx hb hX hbl hS hL ht (by omega) hl (by decide) dL_law_238 dL_law_239 dL_law_240 dL_law_241 dL_law_242 ?_
  refine lArg (j := 3) hx hb hX hbl hS hL ht (by omega) hl (by decide) dL_law_243 dL_law_244 dL_law_245 dL_law_246 dL_law_247 ?_
  refine lVl (u := u) (Wd := m_W (gI G) hM hTm hkd hsz hld hch hdk htk hme hte) (ok := m_ok) (As := [.int (lx xs t 1), .int (lx xs t 2), .int (lx xs t 3)]) (rest := [.long (f_X5_ask (lx xs t 1) (lx xs t 2) (lx xs t 3) u).1]) ⟨hx, hb, hml, hown, hts⟩ (c_X5_ask l G _ hM hTm hkd hsz hld hch hdk htk hme hte (lx xs t 1) (lx xs t 2) (lx xs t 3) u hok) (cwV 3 hts gL_law_X5_ask rfl rfl rfl (by decide +kernel) ⟨Nat.le_of_ble_eq_true rfl, Nat.le_of_ble_eq_true rfl⟩) hE hTT.symm hS (va_recv hE.1 hTT.2.1 (ci := 5) (q0 := 0) rfl rfl) rfl hl.1 rfl (Nat.le_of_ble_eq_true rfl) dL_law_248 ⟨show cells ≤ 600000 by omega, show slots ≤ 7302250 by omega⟩ (fun q2 H locs e2 hTT hok hS => ?_)
  subst e2
  refine W.lcmp hx hb dL_law_251 ?_
  rw [lcmp_self]
  refine lv_if_eq (tgt := 519) hx hb dL_law_252 (by decide) (fun _ => ?_) (fun z => absurd rfl z)
  exact kk (f_X5_ask (lx xs t 1) (lx xs t 2) (lx xs t 3) u).2 N ad H locs cells slots ⟨hI2, hok, hTT.symm⟩ hS (Nat.le_succ _) (by omega)
set_option maxHeartbeats 4000000 in
set_option maxRecDepth 100000 in
theorem lo_trace (hL : L ≤ 2560) (C0 : lw_At p s m meth c b L xs) (hE : gE G (lA s) s) {t : Nat} (ht : 5 * t + 5 ≤ L) {u : MS} {N : Nat} {ad : Nat → Nat} {H : Heap} {locs : List Loc} (I : lI G hF hVs hDs hB hT hW hEn dd hM hTm hkd hsz hld hch hdk htk hme hte s u N ad H) (hS : va_S (lA s) s.heap H locs) {ls : Array Slot} (hl : lv_has ls 4 [(0, .ref b), (1, .ref hF), (2, .ref hM), (3, .int (nI (5 * t)))]) {cells slots : Nat} (hc : cells < 600000) (hs : slots + 6 ≤ 7302250) {Q : State → Prop} (kk : lK l G hF hVs hDs hB hT hW hEn dd hM hTm hkd hsz hld hch hdk htk hme hte p e s m b below meth c ls cells slots Q) : W p l e room_1 s m #[Value.ref b] below meth c H locs cells slots Q (F0 m 257 ls []) := by
  obtain ⟨hx, hb, hr, hml, hown, hts0, hX, hbl, hlocks, hgv⟩ := id C0
  have hts : ∀ w ∈ wsL_law, w.before #[Value.ref b] s = true := fun w h => hts0 w (wsL_law_in w h)
  have hown : s.vm.findClass RL = some m.cls := hown
  obtain ⟨hI, hok, hTT⟩ := I
  have hcok : c_ok (absC u N) := hok.2.1
  refine lv_aload_n hx hb dL_law_257 rfl (lv_at hl 1 rfl) ?_
  refine lArg (j := 1) hx hb hX hbl hS hL ht (by omega) hl (by decide) dL_law_258 dL_law_259 dL_law_260 dL_law_261 dL_law_262 ?_
  refine lVi (u := absC u N) (Wd := c_W G hF hVs hDs hB hT hW hEn dd N ad) (ok := c_ok) (As := [.int (lx xs t 1)]) (rest := []) ⟨hx, hb, hml, hown, hts⟩ (c_X4_trace l G _ hF hVs hDs hB hT hW hEn dd N ad hI.2.1 (lx xs t 1) (absC u N) hcok) (cwV 1 hts gL_law_X4_trace rfl rfl rfl (by decide +kernel) ⟨Nat.le_of_ble_eq_true rfl, Nat.le_of_ble_eq_true rfl⟩) hE hTT hS (va_recv hE.1 hTT.1 (ci := 4) (q0 := 0) rfl rfl) rfl hl.1 rfl (Nat.le_of_ble_eq_true rfl) dL_law_263 ⟨show cells ≤ 600000 by omega, show slots ≤ 7302250 by omega⟩ (fun q1 H locs e1 hTT hcok hS => ?_)
  obtain ⟨eA, hI2⟩ := R_trace hI (lx xs t 1)
  rw [eA] at e1
  subst e1
  refine lv_aload_n hx hb dL_law_266 rfl (lv_at hl 2 rfl) ?_
  refine lArg (j := 1) hx hb hX hbl hS hL ht (by omega) hl (by decide) dL_law_267 dL_law_268 dL_law_269 dL_law_270 dL_law_271 ?_
  refine lVi (u := u) (Wd := m_W (gI G) hM hTm hkd hsz hld hch hdk htk hme hte) (ok := m_ok) (As := [.int (lx xs t 1)]) (rest := [.int (f_X5_trace (lx xs t 1) u).1]) ⟨hx, hb, hml, hown, hts⟩ (c_X5_trace l G _ hM hTm hkd hsz hld hch hdk htk hme hte (lx xs t 1) u hok) (cwV 1 hts gL_law_X5_trace rfl rfl rfl (by decide +kernel) ⟨Nat.le_of_ble_eq_true rfl, Nat.le_of_ble_eq_true rfl⟩) hE hTT.symm hS (va_recv hE.1 hTT.2.1 (ci := 5) (q0 := 0) rfl rfl) rfl hl.1 rfl (Nat.le_of_ble_eq_true rfl) dL_law_272 ⟨show cells ≤ 600000 by omega, show slots ≤ 7302250 by omega⟩ (fun q2 H locs e2 hTT hok hS => ?_)
  subst e2
  refine lv_icmp_eq (tgt := 519) hx hb dL_law_275 (by decide) (fun _ => ?_) (fun z => absurd rfl z)
  exact kk (f_X5_trace (lx xs t 1) u).2 N ad H locs cells slots ⟨hI2, hok, hTT.symm⟩ hS (Nat.le_succ _) (by omega)
set_option maxHeartbeats 4000000 in
set_option maxRecDepth 100000 in
theorem lo_board (hL : L ≤ 2560) (C0 : lw_At p s m meth c b L xs) (hE : gE G (lA s) s) {t : Nat} (ht : 5 * t + 5 ≤ L) {u : MS} {N : Nat} {ad : Nat → Nat} {H : Heap} {locs : List Loc} (I : lI G hF hVs hDs hB hT hW hEn dd hM hTm hkd hsz hld hch hdk htk hme hte s u N ad H) (hS : va_S (lA s) s.heap H locs) {ls : Array Slot} (hl : lv_has ls 4 [(0, .ref b), (1, .ref hF), (2, .ref hM), (3, .int (nI (5 * t)))]) {cells slots : Nat} (hc : cells < 600000) (hs : slots + 6 ≤ 7302250) {Q : State → Prop} (kk : lK l G hF hVs hDs hB hT hW hEn dd hM hTm hkd hsz hld hch hdk htk hme hte p e s m b below meth c ls cells slots Q) : W p l e room_1 s m #[Value.ref b] below meth c H locs cells slots Q (F0 m 280 ls []) := by
  obtain ⟨hx, hb, hr, hml, hown, hts0, hX, hbl, hlocks, hgv⟩ := id C0
  have hts : ∀ w ∈ wsL_law, w.before #[Value.ref b] s = true := fun w h => hts0 w (wsL_law_in w h)
  have hown : s.vm.findClass RL = some m.cls := hown
  obtain ⟨hI, hok, hTT⟩ := I
  have hcok : c_ok (absC u N) := hok.2.1
  refine lv_aload_n hx hb dL_law_280 rfl (lv_at hl 1 rfl) ?_
  refine lArg (j := 1) hx hb hX hbl hS hL ht (by omega) hl (by decide) dL_law_281 dL_law_282 dL_law_283 dL_law_284 dL_law_285 ?_
  refine lArg (j := 2) hx hb hX hbl hS hL ht (by omega) hl (by decide) dL_law_286 dL_law_287 dL_law_288 dL_law_289 dL_law_290 ?_
  refine lArg (j := 3) hx hb hX hbl hS hL ht (by omega) hl (by decide) dL_law_291 dL_law_292 dL_law_293 dL_law_294 dL_law_295 ?_
  refine lArg (j := 4) hx hb hX hbl hS hL ht (by omega) hl (by decide) dL_law_296 dL_law_297 dL_law_298 dL_law_299 dL_law_300 ?_
  refine lVi (u := absC u N) (Wd := c_W G hF hVs hDs hB hT hW hEn dd N ad) (ok := c_ok) (As := [.int (lx xs t 1), .int (lx xs t 2), .int (lx xs t 3), .int (lx xs t 4)]) (rest := []) ⟨hx, hb, hml, hown, hts⟩ (c_X4_board l G _ hF hVs hDs hB hT hW hEn dd N ad hI.2.1 (lx xs t 1) (lx xs t 2) (lx xs t 3) (lx xs t 4) (absC u N) hcok) (cwV 4 hts gL_law_X4_board rfl rfl rfl (by decide +kernel) ⟨Nat.le_of_ble_eq_true rfl, Nat.le_of_ble_eq_true rfl⟩) hE hTT hS (va_recv hE.1 hTT.1 (ci := 4) (q0 := 0) rfl rfl) rfl hl.1 rfl (Nat.le_of_ble_eq_true rfl) dL_law_301 ⟨show cells ≤ 600000 by omega, show slots ≤ 7302250 by omega⟩ (fun q1 H locs e1 hTT hcok hS => ?_)
  obtain ⟨eA, hI2⟩ := R_board hI (lx xs t 1) (lx xs t 2) (lx xs t 3) (lx xs t 4)
  rw [eA] at e1
  subst e1
  refine lv_aload_n hx hb dL_law_304 rfl (lv_at hl 2 rfl) ?_
  refine lArg (j := 1) hx hb hX hbl hS hL ht (by omega) hl (by decide) dL_law_305 dL_law_306 dL_law_307 dL_law_308 dL_law_309 ?_
  refine lArg (j := 2) hx hb hX hbl hS hL ht (by omega) hl (by decide) dL_law_310 dL_law_311 dL_law_312 dL_law_313 dL_law_314 ?_
  refine lArg (j := 3) hx hb hX hbl hS hL ht (by omega) hl (by decide) dL_law_315 dL_law_316 dL_law_317 dL_law_318 dL_law_319 ?_
  refine lArg (j := 4) hx hb hX hbl hS hL ht (by omega) hl (by decide) dL_law_320 dL_law_321 dL_law_322 dL_law_323 dL_law_324 ?_
  refine lVi (u := u) (Wd := m_W (gI G) hM hTm hkd hsz hld hch hdk htk hme hte) (ok := m_ok) (As := [.int (lx xs t 1), .int (lx xs t 2), .int (lx xs t 3), .int (lx xs t 4)]) (rest := [.int (f_X5_board (lx xs t 1) (lx xs t 2) (lx xs t 3) (lx xs t 4) u).1]) ⟨hx, hb, hml, hown, hts⟩ (c_X5_board l G _ hM hTm hkd hsz hld hch hdk htk hme hte (lx xs t 1) (lx xs t 2) (lx xs t 3) (lx xs t 4) u hok) (cwV 4 hts gL_law_X5_board rfl rfl rfl (by decide +kernel) ⟨Nat.le_of_ble_eq_true rfl, Nat.le_of_ble_eq_true rfl⟩) hE hTT.symm hS (va_recv hE.1 hTT.2.1 (ci := 5) (q0 := 0) rfl rfl) rfl hl.1 rfl (Nat.le_of_ble_eq_true rfl) dL_law_325 ⟨show cells ≤ 600000 by omega, show slots ≤ 7302250 by omega⟩ (fun q2 H locs e2 hTT hok hS => ?_)
  subst e2
  refine lv_icmp_eq (tgt := 519) hx hb dL_law_328 (by decide) (fun _ => ?_) (fun z => absurd rfl z)
  exact kk (f_X5_board (lx xs t 1) (lx xs t 2) (lx xs t 3) (lx xs t 4) u).2 N ad H locs cells slots ⟨hI2, hok, hTT.symm⟩ hS (Nat.le_succ _) (by omega)
set_option maxHeartbeats 4000000 in
set_option maxRecDepth 100000 in
theorem lo_leave (hL : L ≤ 2560) (C0 : lw_At p s m meth c b L xs) (hE : gE G (lA s) s) {t : Nat} (ht : 5 * t + 5 ≤ L) {u : MS} {N : Nat} {ad : Nat → Nat} {H : Heap} {locs : List Loc} (I : lI G hF hVs hDs hB hT hW hEn dd hM hTm hkd hsz hld hch hdk htk hme hte s u N ad H) (hS : va_S (lA s) s.heap H locs) {ls : Array Slot} (hl : lv_has ls 4 [(0, .ref b), (1, .ref hF), (2, .ref hM), (3, .int (nI (5 * t)))]) {cells slots : Nat} (hc : cells < 600000) (hs : slots + 6 ≤ 7302250) {Q : State → Prop} (kk : lK l G hF hVs hDs hB hT hW hEn dd hM hTm hkd hsz hld hch hdk htk hme hte p e s m b below meth c ls cells slots Q) : W p l e room_1 s m #[Value.ref b] below meth c H locs cells slots Q (F0 m 333 ls []) := by
  obtain ⟨hx, hb, hr, hml, hown, hts0, hX, hbl, hlocks, hgv⟩ := id C0
  have hts : ∀ w ∈ wsL_law, w.before #[Value.ref b] s = true := fun w h => hts0 w (wsL_law_in w h)
  have hown : s.vm.findClass RL = some m.cls := hown
  obtain ⟨hI, hok, hTT⟩ := I
  have hcok : c_ok (absC u N) := hok.2.1
  refine lv_aload_n hx hb dL_law_333 rfl (lv_at hl 1 rfl) ?_
  refine lArg (j := 1) hx hb hX hbl hS hL ht (by omega) hl (by decide) dL_law_334 dL_law_335 dL_law_336 dL_law_337 dL_law_338 ?_
  refine lVi (u := absC u N) (Wd := c_W G hF hVs hDs hB hT hW hEn dd N ad) (ok := c_ok) (As := [.int (lx xs t 1)]) (rest := []) ⟨hx, hb, hml, hown, hts⟩ (c_X4_leave l G _ hF hVs hDs hB hT hW hEn dd N ad hI.2.1 (lx xs t 1) (absC u N) hcok) (cwV 1 hts gL_law_X4_leave rfl rfl rfl (by decide +kernel) ⟨Nat.le_of_ble_eq_true rfl, Nat.le_of_ble_eq_true rfl⟩) hE hTT hS (va_recv hE.1 hTT.1 (ci := 4) (q0 := 0) rfl rfl) rfl hl.1 rfl (Nat.le_of_ble_eq_true rfl) dL_law_339 ⟨show cells ≤ 600000 by omega, show slots ≤ 7302250 by omega⟩ (fun q1 H locs e1 hTT hcok hS => ?_)
  obtain ⟨eA, hI2⟩ := R_leave hI (lx xs t 1)
  rw [eA] at e1
  subst e1
  refine lv_aload_n hx hb dL_law_342 rfl (lv_at hl 2 rfl) ?_
  refine lArg (j := 1) hx hb hX hbl hS hL ht (by omega) hl (by decide) dL_law_343 dL_law_344 dL_law_345 dL_law_346 dL_law_347 ?_
  refine lVi (u := u) (Wd := m_W (gI G) hM hTm hkd hsz hld hch hdk htk hme hte) (ok := m_ok) (As := [.int (lx xs t 1)]) (rest := [.int (f_X5_leave (lx xs t 1) u).1]) ⟨hx, hb, hml, hown, hts⟩ (c_X5_leave l G _ hM hTm hkd hsz hld hch hdk htk hme hte (lx xs t 1) u hok) (cwV 1 hts gL_law_X5_leave rfl rfl rfl (by decide +kernel) ⟨Nat.le_of_ble_eq_true rfl, Nat.le_of_ble_eq_true rfl⟩) hE hTT.symm hS (va_recv hE.1 hTT.2.1 (ci := 5) (q0 := 0) rfl rfl) rfl hl.1 rfl (Nat.le_of_ble_eq_true rfl) dL_law_348 ⟨show cells ≤ 600000 by omega, show slots ≤ 7302250 by omega⟩ (fun q2 H locs e2 hTT hok hS => ?_)
  subst e2
  refine lv_icmp_eq (tgt := 519) hx hb dL_law_351 (by decide) (fun _ => ?_) (fun z => absurd rfl z)
  exact kk (f_X5_leave (lx xs t 1) u).2 N ad H locs cells slots ⟨hI2, hok, hTT.symm⟩ hS (Nat.le_succ _) (by omega)
set_option maxHeartbeats 4000000 in
set_option maxRecDepth 100000 in
theorem lo_risk (hL : L ≤ 2560) (C0 : lw_At p s m meth c b L xs) (hE : gE G (lA s) s) {t : Nat} (ht : 5 * t + 5 ≤ L) {u : MS} {N : Nat} {ad : Nat → Nat} {H : Heap} {locs : List Loc} (I : lI G hF hVs hDs hB hT hW hEn dd hM hTm hkd hsz hld hch hdk htk hme hte s u N ad H) (hS : va_S (lA s) s.heap H locs) {ls : Array Slot} (hl : lv_has ls 4 [(0, .ref b), (1, .ref hF), (2, .ref hM), (3, .int (nI (5 * t)))]) {cells slots : Nat} (hc : cells < 600000) (hs : slots + 6 ≤ 7302250) {Q : State → Prop} (kk : lK l G hF hVs hDs hB hT hW hEn dd hM hTm hkd hsz hld hch hdk htk hme hte p e s m b below meth c ls cells slots Q) : W p l e room_1 s m #[Value.ref b] below meth c H locs cells slots Q (F0 m 356 ls []) := by
  obtain ⟨hx, hb, hr, hml, hown, hts0, hX, hbl, hlocks, hgv⟩ := id C0
  have hts : ∀ w ∈ wsL_law, w.before #[Value.ref b] s = true := fun w h => hts0 w (wsL_law_in w h)
  have hown : s.vm.findClass RL = some m.cls := hown
  obtain ⟨hI, hok, hTT⟩ := I
  have hcok : c_ok (absC u N) := hok.2.1
  refine lv_aload_n hx hb dL_law_356 rfl (lv_at hl 1 rfl) ?_
  refine lVi (u := absC u N) (Wd := c_W G hF hVs hDs hB hT hW hEn dd N ad) (ok := c_ok) (As := []) (rest := []) ⟨hx, hb, hml, hown, hts⟩ (c_X4_risk l G _ hF hVs hDs hB hT hW hEn dd N ad hI.2.1 (absC u N) hcok) (cwV 0 hts gL_law_X4_risk rfl rfl rfl (by decide +kernel) ⟨Nat.le_of_ble_eq_true rfl, Nat.le_of_ble_eq_true rfl⟩) hE hTT hS (va_recv hE.1 hTT.1 (ci := 4) (q0 := 0) rfl rfl) rfl hl.1 rfl (Nat.le_of_ble_eq_true rfl) dL_law_357 ⟨show cells ≤ 600000 by omega, show slots ≤ 7302250 by omega⟩ (fun q1 H locs e1 hTT hcok hS => ?_)
  obtain ⟨eA, hI2⟩ := R_risk hI
  rw [eA] at e1
  subst e1
  refine lv_aload_n hx hb dL_law_360 rfl (lv_at hl 2 rfl) ?_
  refine lVi (u := u) (Wd := m_W (gI G) hM hTm hkd hsz hld hch hdk htk hme hte) (ok := m_ok) (As := []) (rest := [.int (f_X5_risk u).1]) ⟨hx, hb, hml, hown, hts⟩ (c_X5_risk l G _ hM hTm hkd hsz hld hch hdk htk hme hte u hok) (cwV 0 hts gL_law_X5_risk rfl rfl rfl (by decide +kernel) ⟨Nat.le_of_ble_eq_true rfl, Nat.le_of_ble_eq_true rfl⟩) hE hTT.symm hS (va_recv hE.1 hTT.2.1 (ci := 5) (q0 := 0) rfl rfl) rfl hl.1 rfl (Nat.le_of_ble_eq_true rfl) dL_law_361 ⟨show cells ≤ 600000 by omega, show slots ≤ 7302250 by omega⟩ (fun q2 H locs e2 hTT hok hS => ?_)
  subst e2
  refine lv_icmp_eq (tgt := 519) hx hb dL_law_364 (by decide) (fun _ => ?_) (fun z => absurd rfl z)
  exact kk (f_X5_risk u).2 N ad H locs cells slots ⟨hI2, hok, hTT.symm⟩ hS (Nat.le_succ _) (by omega)
set_option maxHeartbeats 4000000 in
set_option maxRecDepth 100000 in
theorem lo_pull (hL : L ≤ 2560) (C0 : lw_At p s m meth c b L xs) (hE : gE G (lA s) s) {t : Nat} (ht : 5 * t + 5 ≤ L) {u : MS} {N : Nat} {ad : Nat → Nat} {H : Heap} {locs : List Loc} (I : lI G hF hVs hDs hB hT hW hEn dd hM hTm hkd hsz hld hch hdk htk hme hte s u N ad H) (hS : va_S (lA s) s.heap H locs) {ls : Array Slot} (hl : lv_has ls 4 [(0, .ref b), (1, .ref hF), (2, .ref hM), (3, .int (nI (5 * t)))]) {cells slots : Nat} (hc : cells < 600000) (hs : slots + 6 ≤ 7302250) {Q : State → Prop} (kk : lK l G hF hVs hDs hB hT hW hEn dd hM hTm hkd hsz hld hch hdk htk hme hte p e s m b below meth c ls cells slots Q) : W p l e room_1 s m #[Value.ref b] below meth c H locs cells slots Q (F0 m 369 ls []) := by
  obtain ⟨hx, hb, hr, hml, hown, hts0, hX, hbl, hlocks, hgv⟩ := id C0
  have hts : ∀ w ∈ wsL_law, w.before #[Value.ref b] s = true := fun w h => hts0 w (wsL_law_in w h)
  have hown : s.vm.findClass RL = some m.cls := hown
  obtain ⟨hI, hok, hTT⟩ := I
  have hcok : c_ok (absC u N) := hok.2.1
  refine lv_aload_n hx hb dL_law_369 rfl (lv_at hl 1 rfl) ?_
  refine lArg (j := 1) hx hb hX hbl hS hL ht (by omega) hl (by decide) dL_law_370 dL_law_371 dL_law_372 dL_law_373 dL_law_374 ?_
  refine lArg (j := 2) hx hb hX hbl hS hL ht (by omega) hl (by decide) dL_law_375 dL_law_376 dL_law_377 dL_law_378 dL_law_379 ?_
  refine lVi (u := absC u N) (Wd := c_W G hF hVs hDs hB hT hW hEn dd N ad) (ok := c_ok) (As := [.int (lx xs t 1), .int (lx xs t 2)]) (rest := []) ⟨hx, hb, hml, hown, hts⟩ (c_X4_pull l G _ hF hVs hDs hB hT hW hEn dd N ad hI.2.1 (lx xs t 1) (lx xs t 2) (absC u N) hcok) (cwV 2 hts gL_law_X4_pull rfl rfl rfl (by decide +kernel) ⟨Nat.le_of_ble_eq_true rfl, Nat.le_of_ble_eq_true rfl⟩) hE hTT hS (va_recv hE.1 hTT.1 (ci := 4) (q0 := 0) rfl rfl) rfl hl.1 rfl (Nat.le_of_ble_eq_true rfl) dL_law_380 ⟨show cells ≤ 600000 by omega, show slots ≤ 7302250 by omega⟩ (fun q1 H locs e1 hTT hcok hS => ?_)
  obtain ⟨eA, hI2⟩ := R_pull hI (lx xs t 1) (lx xs t 2)
  rw [eA] at e1
  subst e1
  refine lv_aload_n hx hb dL_law_383 rfl (lv_at hl 2 rfl) ?_
  refine lArg (j := 1) hx hb hX hbl hS hL ht (by omega) hl (by decide) dL_law_384 dL_law_385 dL_law_386 dL_law_387 dL_law_388 ?_
  refine lArg (j := 2) hx hb hX hbl hS hL ht (by omega) hl (by decide) dL_law_389 dL_law_390 dL_law_391 dL_law_392 dL_law_393 ?_
  refine lVi (u := u) (Wd := m_W (gI G) hM hTm hkd hsz hld hch hdk htk hme hte) (ok := m_ok) (As := [.int (lx xs t 1), .int (lx xs t 2)]) (rest := [.int (f_X5_pull (lx xs t 1) (lx xs t 2) u).1]) ⟨hx, hb, hml, hown, hts⟩ (c_X5_pull l G _ hM hTm hkd hsz hld hch hdk htk hme hte (lx xs t 1) (lx xs t 2) u hok) (cwV 2 hts gL_law_X5_pull rfl rfl rfl (by decide +kernel) ⟨Nat.le_of_ble_eq_true rfl, Nat.le_of_ble_eq_true rfl⟩) hE hTT.symm hS (va_recv hE.1 hTT.2.1 (ci := 5) (q0 := 0) rfl rfl) rfl hl.1 rfl (Nat.le_of_ble_eq_true rfl) dL_law_394 ⟨show cells ≤ 600000 by omega, show slots ≤ 7302250 by omega⟩ (fun q2 H locs e2 hTT hok hS => ?_)
  subst e2
  refine lv_icmp_eq (tgt := 519) hx hb dL_law_397 (by decide) (fun _ => ?_) (fun z => absurd rfl z)
  exact kk (f_X5_pull (lx xs t 1) (lx xs t 2) u).2 N ad H locs cells slots ⟨hI2, hok, hTT.symm⟩ hS (Nat.le_succ _) (by omega)
set_option maxHeartbeats 4000000 in
set_option maxRecDepth 100000 in
theorem lo_pulled (hL : L ≤ 2560) (C0 : lw_At p s m meth c b L xs) (hE : gE G (lA s) s) {t : Nat} (ht : 5 * t + 5 ≤ L) {u : MS} {N : Nat} {ad : Nat → Nat} {H : Heap} {locs : List Loc} (I : lI G hF hVs hDs hB hT hW hEn dd hM hTm hkd hsz hld hch hdk htk hme hte s u N ad H) (hS : va_S (lA s) s.heap H locs) {ls : Array Slot} (hl : lv_has ls 4 [(0, .ref b), (1, .ref hF), (2, .ref hM), (3, .int (nI (5 * t)))]) {cells slots : Nat} (hc : cells < 600000) (hs : slots + 6 ≤ 7302250) {Q : State → Prop} (kk : lK l G hF hVs hDs hB hT hW hEn dd hM hTm hkd hsz hld hch hdk htk hme hte p e s m b below meth c ls cells slots Q) : W p l e room_1 s m #[Value.ref b] below meth c H locs cells slots Q (F0 m 402 ls []) := by
  obtain ⟨hx, hb, hr, hml, hown, hts0, hX, hbl, hlocks, hgv⟩ := id C0
  have hts : ∀ w ∈ wsL_law, w.before #[Value.ref b] s = true := fun w h => hts0 w (wsL_law_in w h)
  have hown : s.vm.findClass RL = some m.cls := hown
  obtain ⟨hI, hok, hTT⟩ := I
  have hcok : c_ok (absC u N) := hok.2.1
  refine lv_aload_n hx hb dL_law_402 rfl (lv_at hl 1 rfl) ?_
  refine lVi (u := absC u N) (Wd := c_W G hF hVs hDs hB hT hW hEn dd N ad) (ok := c_ok) (As := []) (rest := []) ⟨hx, hb, hml, hown, hts⟩ (c_X4_pulled l G _ hF hVs hDs hB hT hW hEn dd N ad hI.2.1 (absC u N) hcok) (cwV 0 hts gL_law_X4_pulled rfl rfl rfl (by decide +kernel) ⟨Nat.le_of_ble_eq_true rfl, Nat.le_of_ble_eq_true rfl⟩) hE hTT hS (va_recv hE.1 hTT.1 (ci := 4) (q0 := 0) rfl rfl) rfl hl.1 rfl (Nat.le_of_ble_eq_true rfl) dL_law_403 ⟨show cells ≤ 600000 by omega, show slots ≤ 7302250 by omega⟩ (fun q1 H locs e1 hTT hcok hS => ?_)
  obtain ⟨eA, hI2⟩ := R_pulled hI
  rw [eA] at e1
  subst e1
  refine lv_aload_n hx hb dL_law_406 rfl (lv_at hl 2 rfl) ?_
  refine lVi (u := u) (Wd := m_W (gI G) hM hTm hkd hsz hld hch hdk htk hme hte) (ok := m_ok) (As := []) (rest := [.int (f_X5_pulled u).1]) ⟨hx, hb, hml, hown, hts⟩ (c_X5_pulled l G _ hM hTm hkd hsz hld hch hdk htk hme hte u hok) (cwV 0 hts gL_law_X5_pulled rfl rfl rfl (by decide +kernel) ⟨Nat.le_of_ble_eq_true rfl, Nat.le_of_ble_eq_true rfl⟩) hE hTT.symm hS (va_recv hE.1 hTT.2.1 (ci := 5) (q0 := 0) rfl rfl) rfl hl.1 rfl (Nat.le_of_ble_eq_true rfl) dL_law_407 ⟨show cells ≤ 600000 by omega, show slots ≤ 7302250 by omega⟩ (fun q2 H locs e2 hTT hok hS => ?_)
  subst e2
  refine lv_icmp_eq (tgt := 519) hx hb dL_law_410 (by decide) (fun _ => ?_) (fun z => absurd rfl z)
  exact kk (f_X5_pulled u).2 N ad H locs cells slots ⟨hI2, hok, hTT.symm⟩ hS (Nat.le_succ _) (by omega)
set_option maxHeartbeats 4000000 in
set_option maxRecDepth 100000 in
theorem lo_told (hL : L ≤ 2560) (C0 : lw_At p s m meth c b L xs) (hE : gE G (lA s) s) {t : Nat} (ht : 5 * t + 5 ≤ L) {u : MS} {N : Nat} {ad : Nat → Nat} {H : Heap} {locs : List Loc} (I : lI G hF hVs hDs hB hT hW hEn dd hM hTm hkd hsz hld hch hdk htk hme hte s u N ad H) (hS : va_S (lA s) s.heap H locs) {ls : Array Slot} (hl : lv_has ls 4 [(0, .ref b), (1, .ref hF), (2, .ref hM), (3, .int (nI (5 * t)))]) {cells slots : Nat} (hc : cells < 600000) (hs : slots + 6 ≤ 7302250) {Q : State → Prop} (kk : lK l G hF hVs hDs hB hT hW hEn dd hM hTm hkd hsz hld hch hdk htk hme hte p e s m b below meth c ls cells slots Q) : W p l e room_1 s m #[Value.ref b] below meth c H locs cells slots Q (F0 m 415 ls []) := by
  obtain ⟨hx, hb, hr, hml, hown, hts0, hX, hbl, hlocks, hgv⟩ := id C0
  have hts : ∀ w ∈ wsL_law, w.before #[Value.ref b] s = true := fun w h => hts0 w (wsL_law_in w h)
  have hown : s.vm.findClass RL = some m.cls := hown
  obtain ⟨hI, hok, hTT⟩ := I
  have hcok : c_ok (absC u N) := hok.2.1
  refine lv_aload_n hx hb dL_law_415 rfl (lv_at hl 1 rfl) ?_
  refine lArg (j := 1) hx hb hX hbl hS hL ht (by omega) hl (by decide) dL_law_416 dL_law_417 dL_law_418 dL_law_419 dL_law_420 ?_
  refine lArg (j := 2) hx hb hX hbl hS hL ht (by omega) hl (by decide) dL_law_421 dL_law_422 dL_law_423 dL_law_424 dL_law_425 ?_
  refine lVl (u := absC u N) (Wd := c_W G hF hVs hDs hB hT hW hEn dd N ad) (ok := c_ok) (As := [.int (lx xs t 1), .int (lx xs t 2)]) (rest := []) ⟨hx, hb, hml, hown, hts⟩ (c_X4_told l G _ hF hVs hDs hB hT hW hEn dd N ad hI.2.1 (lx xs t 1) (lx xs t 2) (absC u N) hcok) (cwV 2 hts gL_law_X4_told rfl rfl rfl (by decide +kernel) ⟨Nat.le_of_ble_eq_true rfl, Nat.le_of_ble_eq_true rfl⟩) hE hTT hS (va_recv hE.1 hTT.1 (ci := 4) (q0 := 0) rfl rfl) rfl hl.1 rfl (Nat.le_of_ble_eq_true rfl) dL_law_426 ⟨show cells ≤ 600000 by omega, show slots ≤ 7302250 by omega⟩ (fun q1 H locs e1 hTT hcok hS => ?_)
  obtain ⟨eA, hI2⟩ := R_told hI (lx xs t 1) (lx xs t 2)
  rw [eA] at e1
  subst e1
  refine lv_aload_n hx hb dL_law_429 rfl (lv_at hl 2 rfl) ?_
  refine lArg (j := 1) hx hb hX hbl hS hL ht (by omega) hl (by decide) dL_law_430 dL_law_431 dL_law_432 dL_law_433 dL_law_434 ?_
  refine lArg (j := 2) hx hb hX hbl hS hL ht (by omega) hl (by decide) dL_law_435 dL_law_436 dL_law_437 dL_law_438 dL_law_439 ?_
  refine lVl (u := u) (Wd := m_W (gI G) hM hTm hkd hsz hld hch hdk htk hme hte) (ok := m_ok) (As := [.int (lx xs t 1), .int (lx xs t 2)]) (rest := [.long (f_X5_told (lx xs t 1) (lx xs t 2) u).1]) ⟨hx, hb, hml, hown, hts⟩ (c_X5_told l G _ hM hTm hkd hsz hld hch hdk htk hme hte (lx xs t 1) (lx xs t 2) u hok) (cwV 2 hts gL_law_X5_told rfl rfl rfl (by decide +kernel) ⟨Nat.le_of_ble_eq_true rfl, Nat.le_of_ble_eq_true rfl⟩) hE hTT.symm hS (va_recv hE.1 hTT.2.1 (ci := 5) (q0 := 0) rfl rfl) rfl hl.1 rfl (Nat.le_of_ble_eq_true rfl) dL_law_440 ⟨show cells ≤ 600000 by omega, show slots ≤ 7302250 by omega⟩ (fun q2 H locs e2 hTT hok hS => ?_)
  subst e2
  refine W.lcmp hx hb dL_law_443 ?_
  rw [lcmp_self]
  refine lv_if_eq (tgt := 519) hx hb dL_law_444 (by decide) (fun _ => ?_) (fun z => absurd rfl z)
  exact kk (f_X5_told (lx xs t 1) (lx xs t 2) u).2 N ad H locs cells slots ⟨hI2, hok, hTT.symm⟩ hS (Nat.le_succ _) (by omega)
set_option maxHeartbeats 4000000 in
set_option maxRecDepth 100000 in
theorem lo_on (hL : L ≤ 2560) (C0 : lw_At p s m meth c b L xs) (hE : gE G (lA s) s) {t : Nat} (ht : 5 * t + 5 ≤ L) {u : MS} {N : Nat} {ad : Nat → Nat} {H : Heap} {locs : List Loc} (I : lI G hF hVs hDs hB hT hW hEn dd hM hTm hkd hsz hld hch hdk htk hme hte s u N ad H) (hS : va_S (lA s) s.heap H locs) {ls : Array Slot} (hl : lv_has ls 4 [(0, .ref b), (1, .ref hF), (2, .ref hM), (3, .int (nI (5 * t)))]) {cells slots : Nat} (hc : cells < 600000) (hs : slots + 6 ≤ 7302250) {Q : State → Prop} (kk : lK l G hF hVs hDs hB hT hW hEn dd hM hTm hkd hsz hld hch hdk htk hme hte p e s m b below meth c ls cells slots Q) : W p l e room_1 s m #[Value.ref b] below meth c H locs cells slots Q (F0 m 449 ls []) := by
  obtain ⟨hx, hb, hr, hml, hown, hts0, hX, hbl, hlocks, hgv⟩ := id C0
  have hts : ∀ w ∈ wsL_law, w.before #[Value.ref b] s = true := fun w h => hts0 w (wsL_law_in w h)
  have hown : s.vm.findClass RL = some m.cls := hown
  obtain ⟨hI, hok, hTT⟩ := I
  have hcok : c_ok (absC u N) := hok.2.1
  refine lv_aload_n hx hb dL_law_449 rfl (lv_at hl 1 rfl) ?_
  refine lArg (j := 1) hx hb hX hbl hS hL ht (by omega) hl (by decide) dL_law_450 dL_law_451 dL_law_452 dL_law_453 dL_law_454 ?_
  refine lArg (j := 2) hx hb hX hbl hS hL ht (by omega) hl (by decide) dL_law_455 dL_law_456 dL_law_457 dL_law_458 dL_law_459 ?_
  refine lVi (u := absC u N) (Wd := c_W G hF hVs hDs hB hT hW hEn dd N ad) (ok := c_ok) (As := [.int (lx xs t 1), .int (lx xs t 2)]) (rest := []) ⟨hx, hb, hml, hown, hts⟩ (c_X4_on l G _ hF hVs hDs hB hT hW hEn dd N ad hI.2.1 (lx xs t 1) (lx xs t 2) (absC u N) hcok) (cwV 2 hts gL_law_X4_on rfl rfl rfl (by decide +kernel) ⟨Nat.le_of_ble_eq_true rfl, Nat.le_of_ble_eq_true rfl⟩) hE hTT hS (va_recv hE.1 hTT.1 (ci := 4) (q0 := 0) rfl rfl) rfl hl.1 rfl (Nat.le_of_ble_eq_true rfl) dL_law_460 ⟨show cells ≤ 600000 by omega, show slots ≤ 7302250 by omega⟩ (fun q1 H locs e1 hTT hcok hS => ?_)
  obtain ⟨eA, hI2⟩ := R_on hI (lx xs t 1) (lx xs t 2)
  rw [eA] at e1
  subst e1
  refine lv_aload_n hx hb dL_law_463 rfl (lv_at hl 2 rfl) ?_
  refine lArg (j := 1) hx hb hX hbl hS hL ht (by omega) hl (by decide) dL_law_464 dL_law_465 dL_law_466 dL_law_467 dL_law_468 ?_
  refine lArg (j := 2) hx hb hX hbl hS hL ht (by omega) hl (by decide) dL_law_469 dL_law_470 dL_law_471 dL_law_472 dL_law_473 ?_
  refine lVi (u := u) (Wd := m_W (gI G) hM hTm hkd hsz hld hch hdk htk hme hte) (ok := m_ok) (As := [.int (lx xs t 1), .int (lx xs t 2)]) (rest := [.int (f_X5_on (lx xs t 1) (lx xs t 2) u).1]) ⟨hx, hb, hml, hown, hts⟩ (c_X5_on l G _ hM hTm hkd hsz hld hch hdk htk hme hte (lx xs t 1) (lx xs t 2) u hok) (cwV 2 hts gL_law_X5_on rfl rfl rfl (by decide +kernel) ⟨Nat.le_of_ble_eq_true rfl, Nat.le_of_ble_eq_true rfl⟩) hE hTT.symm hS (va_recv hE.1 hTT.2.1 (ci := 5) (q0 := 0) rfl rfl) rfl hl.1 rfl (Nat.le_of_ble_eq_true rfl) dL_law_474 ⟨show cells ≤ 600000 by omega, show slots ≤ 7302250 by omega⟩ (fun q2 H locs e2 hTT hok hS => ?_)
  subst e2
  refine lv_icmp_eq (tgt := 519) hx hb dL_law_477 (by decide) (fun _ => ?_) (fun z => absurd rfl z)
  exact kk (f_X5_on (lx xs t 1) (lx xs t 2) u).2 N ad H locs cells slots ⟨hI2, hok, hTT.symm⟩ hS (Nat.le_succ _) (by omega)
set_option maxHeartbeats 4000000 in
set_option maxRecDepth 100000 in
theorem lo_till (hL : L ≤ 2560) (C0 : lw_At p s m meth c b L xs) (hE : gE G (lA s) s) {t : Nat} (ht : 5 * t + 5 ≤ L) {u : MS} {N : Nat} {ad : Nat → Nat} {H : Heap} {locs : List Loc} (I : lI G hF hVs hDs hB hT hW hEn dd hM hTm hkd hsz hld hch hdk htk hme hte s u N ad H) (hS : va_S (lA s) s.heap H locs) {ls : Array Slot} (hl : lv_has ls 4 [(0, .ref b), (1, .ref hF), (2, .ref hM), (3, .int (nI (5 * t)))]) {cells slots : Nat} (hc : cells < 600000) (hs : slots + 6 ≤ 7302250) {Q : State → Prop} (kk : lK l G hF hVs hDs hB hT hW hEn dd hM hTm hkd hsz hld hch hdk htk hme hte p e s m b below meth c ls cells slots Q) : W p l e room_1 s m #[Value.ref b] below meth c H locs cells slots Q (F0 m 482 ls []) := by
  obtain ⟨hx, hb, hr, hml, hown, hts0, hX, hbl, hlocks, hgv⟩ := id C0
  have hts : ∀ w ∈ wsL_law, w.before #[Value.ref b] s = true := fun w h => hts0 w (wsL_law_in w h)
  have hown : s.vm.findClass RL = some m.cls := hown
  obtain ⟨hI, hok, hTT⟩ := I
  have hcok : c_ok (absC u N) := hok.2.1
  refine lv_aload_n hx hb dL_law_482 rfl (lv_at hl 1 rfl) ?_
  refine lVl (u := absC u N) (Wd := c_W G hF hVs hDs hB hT hW hEn dd N ad) (ok := c_ok) (As := []) (rest := []) ⟨hx, hb, hml, hown, hts⟩ (c_X4_till l G _ hF hVs hDs hB hT hW hEn dd N ad hI.2.1 (absC u N) hcok) (cwV 0 hts gL_law_X4_till rfl rfl rfl (by decide +kernel) ⟨Nat.le_of_ble_eq_true rfl, Nat.le_of_ble_eq_true rfl⟩) hE hTT hS (va_recv hE.1 hTT.1 (ci := 4) (q0 := 0) rfl rfl) rfl hl.1 rfl (Nat.le_of_ble_eq_true rfl) dL_law_483 ⟨show cells ≤ 600000 by omega, show slots ≤ 7302250 by omega⟩ (fun q1 H locs e1 hTT hcok hS => ?_)
  obtain ⟨eA, hI2⟩ := R_till hI
  rw [eA] at e1
  subst e1
  refine lv_aload_n hx hb dL_law_486 rfl (lv_at hl 2 rfl) ?_
  refine lVl (u := u) (Wd := m_W (gI G) hM hTm hkd hsz hld hch hdk htk hme hte) (ok := m_ok) (As := []) (rest := [.long (f_X5_till u).1]) ⟨hx, hb, hml, hown, hts⟩ (c_X5_till l G _ hM hTm hkd hsz hld hch hdk htk hme hte u hok) (cwV 0 hts gL_law_X5_till rfl rfl rfl (by decide +kernel) ⟨Nat.le_of_ble_eq_true rfl, Nat.le_of_ble_eq_true rfl⟩) hE hTT.symm hS (va_recv hE.1 hTT.2.1 (ci := 5) (q0 := 0) rfl rfl) rfl hl.1 rfl (Nat.le_of_ble_eq_true rfl) dL_law_487 ⟨show cells ≤ 600000 by omega, show slots ≤ 7302250 by omega⟩ (fun q2 H locs e2 hTT hok hS => ?_)
  subst e2
  refine W.lcmp hx hb dL_law_490 ?_
  rw [lcmp_self]
  refine lv_if_eq (tgt := 519) hx hb dL_law_491 (by decide) (fun _ => ?_) (fun z => absurd rfl z)
  exact kk (f_X5_till u).2 N ad H locs cells slots ⟨hI2, hok, hTT.symm⟩ hS (Nat.le_succ _) (by omega)
set_option maxHeartbeats 4000000 in
set_option maxRecDepth 100000 in
theorem lo_count (hL : L ≤ 2560) (C0 : lw_At p s m meth c b L xs) (hE : gE G (lA s) s) {t : Nat} (ht : 5 * t + 5 ≤ L) {u : MS} {N : Nat} {ad : Nat → Nat} {H : Heap} {locs : List Loc} (I : lI G hF hVs hDs hB hT hW hEn dd hM hTm hkd hsz hld hch hdk htk hme hte s u N ad H) (hS : va_S (lA s) s.heap H locs) {ls : Array Slot} (hl : lv_has ls 4 [(0, .ref b), (1, .ref hF), (2, .ref hM), (3, .int (nI (5 * t)))]) {cells slots : Nat} (hc : cells < 600000) (hs : slots + 6 ≤ 7302250) {Q : State → Prop} (kk : lK l G hF hVs hDs hB hT hW hEn dd hM hTm hkd hsz hld hch hdk htk hme hte p e s m b below meth c ls cells slots Q) : W p l e room_1 s m #[Value.ref b] below meth c H locs cells slots Q (F0 m 496 ls []) := by
  obtain ⟨hx, hb, hr, hml, hown, hts0, hX, hbl, hlocks, hgv⟩ := id C0
  have hts : ∀ w ∈ wsL_law, w.before #[Value.ref b] s = true := fun w h => hts0 w (wsL_law_in w h)
  have hown : s.vm.findClass RL = some m.cls := hown
  obtain ⟨hI, hok, hTT⟩ := I
  have hcok : c_ok (absC u N) := hok.2.1
  refine lv_aload_n hx hb dL_law_496 rfl (lv_at hl 1 rfl) ?_
  refine lArg (j := 1) hx hb hX hbl hS hL ht (by omega) hl (by decide) dL_law_497 dL_law_498 dL_law_499 dL_law_500 dL_law_501 ?_
  refine lVi (u := absC u N) (Wd := c_W G hF hVs hDs hB hT hW hEn dd N ad) (ok := c_ok) (As := [.int (lx xs t 1)]) (rest := []) ⟨hx, hb, hml, hown, hts⟩ (c_X4_count l G _ hF hVs hDs hB hT hW hEn dd N ad hI.2.1 (lx xs t 1) (absC u N) hcok) (cwV 1 hts gL_law_X4_count rfl rfl rfl (by decide +kernel) ⟨Nat.le_of_ble_eq_true rfl, Nat.le_of_ble_eq_true rfl⟩) hE hTT hS (va_recv hE.1 hTT.1 (ci := 4) (q0 := 0) rfl rfl) rfl hl.1 rfl (Nat.le_of_ble_eq_true rfl) dL_law_502 ⟨show cells ≤ 600000 by omega, show slots ≤ 7302250 by omega⟩ (fun q1 H locs e1 hTT hcok hS => ?_)
  obtain ⟨eA, hI2⟩ := R_count hI (lx xs t 1)
  rw [eA] at e1
  subst e1
  refine lv_aload_n hx hb dL_law_505 rfl (lv_at hl 2 rfl) ?_
  refine lArg (j := 1) hx hb hX hbl hS hL ht (by omega) hl (by decide) dL_law_506 dL_law_507 dL_law_508 dL_law_509 dL_law_510 ?_
  refine lVi (u := u) (Wd := m_W (gI G) hM hTm hkd hsz hld hch hdk htk hme hte) (ok := m_ok) (As := [.int (lx xs t 1)]) (rest := [.int (f_X5_count (lx xs t 1) u).1]) ⟨hx, hb, hml, hown, hts⟩ (c_X5_count l G _ hM hTm hkd hsz hld hch hdk htk hme hte (lx xs t 1) u hok) (cwV 1 hts gL_law_X5_count rfl rfl rfl (by decide +kernel) ⟨Nat.le_of_ble_eq_true rfl, Nat.le_of_ble_eq_true rfl⟩) hE hTT.symm hS (va_recv hE.1 hTT.2.1 (ci := 5) (q0 := 0) rfl rfl) rfl hl.1 rfl (Nat.le_of_ble_eq_true rfl) dL_law_511 ⟨show cells ≤ 600000 by omega, show slots ≤ 7302250 by omega⟩ (fun q2 H locs e2 hTT hok hS => ?_)
  subst e2
  refine lv_icmp_eq (tgt := 519) hx hb dL_law_514 (by decide) (fun _ => ?_) (fun z => absurd rfl z)
  exact kk (f_X5_count (lx xs t 1) u).2 N ad H locs cells slots ⟨hI2, hok, hTT.symm⟩ hS (Nat.le_succ _) (by omega)
end LROAD
