/-! the law's walk -/
def LwC (p : Program) (s : State) (m : MethodId) (c : Code) (b L : Nat) (xs : Nat → Int32) : Prop := p.tables.exec = Jvm.exec ∧ c.code = cL_law ∧ c.maxLocals = 4 ∧ s.vm.findClass RL = some m.cls ∧ (∀ w ∈ wsL_law, w.before #[Value.ref b] s = true) ∧ va_X b L xs s s.heap ∧ b < s.heap.size
def LwA (s : State) : Nat → Prop := fun q => s.heap.size ≤ q
def LwL (ls : Array Slot) (G : Gg) (b t : Nat) : Prop := lv_has ls 4 [(3, .int (nI (6 * t))), (2, .ref (gA G 65)), (1, .ref (gA G 0)), (0, .ref b)]
theorem img_01 {B : Nat → Nat} {a : Int32} (h : fImg B a = 1) : a.toNatClampNeg = 0 ∨ a.toNatClampNeg = 1 := by
  have e : a.toNatClampNeg = a.toInt.toNat := rfl
  unfold fImg at h
  split at h
  · omega
  · exact absurd h (by decide)
section LAWW
variable {p : Program} {l : Launch} {e : Env} {s : State} {m : MethodId} {below : List Frame} {meth : Method} {c : Code} {H : Heap} {locs : List Loc} {cells slots : Nat} {Q : State → Prop} {ls : Array Slot} {rest : List Value} {D : Dc} {G : Gg} {S : Sg} {b L : Nat} {xs : Nat → Int32}
theorem lw_arg (C : LwC p s m c b L xs) (hW : Wd D (LwA s) s G S H locs) {t : Nat} (hl : LwL ls G b t) (ht : 6 * t + 6 ≤ L) (hL : L ≤ 3072) {pc : Nat} {z : Int} (j : Nat) (hj : j < 6) (d0 : decode cL_law pc = .ok (.aload_n 0, 1)) (d1 : decode cL_law (pc + 1) = .ok (.iload_n 3, 1)) (d2 : decode cL_law (pc + 1 + 1) = .ok (.iconst z, 1)) (hz : Int32.ofInt z = nI j) (d3 : decode cL_law (pc + 1 + 1 + 1) = .ok (.iadd, 1)) (d4 : decode cL_law (pc + 1 + 1 + 1 + 1) = .ok (.iaload, 1)) (kk : W p l e room_1 s m #[Value.ref b] below meth c H locs cells slots Q (F0 m (pc + 1 + 1 + 1 + 1 + 1) ls (.int (xs (6 * t + j)) :: rest))) : W p l e room_1 s m #[Value.ref b] below meth c H locs cells slots Q (F0 m pc ls rest) := by
  obtain ⟨hx, hb, hml, hown, hts, hX, hbl⟩ := C
  have hl : lv_has ls 4 [(3, .int (nI (6 * t))), (2, .ref (gA G 65)), (1, .ref (gA G 0)), (0, .ref b)] := hl
  refine lv_aload_n hx hb d0 rfl (lv_at hl 3 rfl) ?_
  refine lv_iload_n hx hb d1 rfl (lv_at hl 0 rfl) ?_
  refine lv_iconst (v := nI j) hx hb d2 hz ?_
  refine lv_iadd hx hb d3 ?_
  rw [nI_add]
  refine va_sld hx hb hX hbl (show ¬ s.heap.size ≤ b by omega) hW.2.2.2.1 (nI_in (show 6 * t + j < L by omega) (by omega)) d4 ?_
  rw [nI_clamp (show 6 * t + j < 2 ^ 31 by omega)]
  exact kk
set_option maxHeartbeats 4000000 in
set_option maxRecDepth 100000 in
theorem lw_op_row (C : LwC p s m c b L xs) (hcl : cells + 16 ≤ 600000) (hsl : slots + 48 ≤ 7302250) {c0 t : Nat} (hI0 : Inv G S c0) (hc0 : c0 + 40 < 90000) (hW : Wd D (LwA s) s G S H locs) (hl : LwL ls G b t) (ht : 6 * t + 6 ≤ L) (hL : L ≤ 3072) (KK : ∀ (G1 : Gg) (S1 : Sg) (H1 : Heap) (locs1 : List Loc), Inv G1 S1 (c0 + 40) → gA G1 0 = gA G 0 → gA G1 65 = gA G 65 → Wd D (LwA s) s G1 S1 H1 locs1 → W p l e room_1 s m #[Value.ref b] below meth c H1 locs1 (cells + 16) (slots + 48) Q (F0 m 1043 ls [])) : W p l e room_1 s m #[Value.ref b] below meth c H locs cells slots Q (F0 m 152 ls []) := by
  have C9 := C
  obtain ⟨hx, hb, hml, hown, hts, hX, hbl⟩ := C9
  obtain ⟨h, k, nw, it, la, le, st, B, B1, B2, T, ts, lf, tl, tr, hG, hP, hI, hM, hA⟩ := hI0
  have hA0 : ∀ q, s.heap.size ≤ q → LwA s q := fun q z => z
  have hl4 : lv_has ls 4 [(3, .int (nI (6 * t))), (2, .ref (gA G 65)), (1, .ref (gA G 0)), (0, .ref b)] := hl
  have hI9 := hI
  obtain ⟨i1, i2, i3, i4, i5, i6, i7, i8, i9, i10, i11, i12, i13, i14, i15, i16⟩ := hI9
  have hk0 : h = 33 ∨ h = 41 := by omega
  have hh : PassR h := by rcases hk0 with z | z <;> simp [PassR, z]
  have h41 : h ≤ 41 := by omega
  have hA9 := hA
  obtain ⟨c9, hLe, hB, hB1, hB2, ts4, hTB, t0, t16⟩ := hA9
  have hc : c0 < 100000 := by omega
  refine lv_aload_n hx hb dL_law_152 rfl (lv_at hl4 2 rfl) ?_
  refine lw_arg C hW hl ht hL 1 (by decide) dL_law_153 dL_law_154 dL_law_155 (by decide) dL_law_156 dL_law_157 ?_
  refine lw_arg C hW hl ht hL 2 (by decide) dL_law_158 dL_law_159 dL_law_160 (by decide) dL_law_161 dL_law_162 ?_
  refine lw_arg C hW hl ht hL 3 (by decide) dL_law_163 dL_law_164 dL_law_165 (by decide) dL_law_166 dL_law_167 ?_
  refine r_calll hW hA0 (va_runV (As := [.int (xs (6 * t + 1)), .int (xs (6 * t + 2)), .int (xs (6 * t + 3))]) (rest := []) ⟨hx, hb, hml, hown, hts⟩ (t_X10_row l D G S _ hG hP it la le i11 hLe st i12 (xs (6 * t + 1)) (xs (6 * t + 2)) (xs (6 * t + 3))) (cwV 3 hts gL_law_X10_row rfl rfl rfl (by decide +kernel) ⟨Nat.le_of_ble_eq_true rfl, Nat.le_of_ble_eq_true rfl⟩) (r_preV (k := 0) hA0 hW (ci := 9) (C := RX10) (T := TX10) (N := 10) rfl rfl (g_lt hG (by decide)) (g_kd hG (by decide) rfl) rfl rfl) rfl rfl hl4.1 rfl (lv_room (Nat.le_of_ble_eq_true rfl)) dL_law_168 ⟨(show cells + 0 ≤ 600000 by omega), (show slots + 0 ≤ 7302250 by omega)⟩) (fun r1 S1 H locs hp1 hW => ?_)
  obtain ⟨n1, n2, e1, n3⟩ := hp1
  have hP1 := hP.of n3.1
  have hI1 := hI.rows n1 n2 n3
  have hM1 := hM.ch n3 (fun j z => by omega)
  have hM9 := hM1
  obtain ⟨m1, m2, m3, m4, m5, m6, m7, m8, m9⟩ := hM9
  refine lv_aload_n hx hb dL_law_171 rfl (lv_at hl4 1 rfl) ?_
  refine lw_arg C hW hl ht hL 1 (by decide) dL_law_172 dL_law_173 dL_law_174 (by decide) dL_law_175 dL_law_176 ?_
  refine lw_arg C hW hl ht hL 2 (by decide) dL_law_177 dL_law_178 dL_law_179 (by decide) dL_law_180 dL_law_181 ?_
  refine lw_arg C hW hl ht hL 3 (by decide) dL_law_182 dL_law_183 dL_law_184 (by decide) dL_law_185 dL_law_186 ?_
  refine r_calll hW hA0 (va_runV (As := [.int (xs (6 * t + 1)), .int (xs (6 * t + 2)), .int (xs (6 * t + 3))]) (rest := [.long r1]) ⟨hx, hb, hml, hown, hts⟩ (t_X11_row_s l D G S1 _ hG hP1 it la le m1 hLe st m2 (xs (6 * t + 1)) (xs (6 * t + 2)) (xs (6 * t + 3))) (cwV 3 hts gL_law_X11_row rfl rfl rfl (by decide +kernel) ⟨Nat.le_of_ble_eq_true rfl, Nat.le_of_ble_eq_true rfl⟩) (r_preV (k := 65) hA0 hW (ci := 10) (C := RX11) (T := TX11) (N := 20) rfl rfl (g_lt hG (by decide)) (g_kd hG (by decide) rfl) rfl rfl) rfl rfl hl4.1 rfl (lv_room (Nat.le_of_ble_eq_true rfl)) dL_law_187 ⟨(show cells + 0 ≤ 600000 by omega), (show slots + 0 ≤ 7302250 by omega)⟩) (fun r2 S2 H locs hp2 hW => ?_)
  obtain ⟨⟨k1, k2, e2, -⟩, k3, k4⟩ := hp2
  have hP2 := hP1.of k4.1
  have hM2 := hM1.rows k1 k2 k3 k4
  have hI2 := hI1.mod k4.1 (fun j z => (k4.2 j (by omega)).1)
  refine W.lcmp hx hb dL_law_190 ?_
  refine lv_if_eq (tgt := 1043) hx hb dL_law_191 (by decide) (fun _ => ?_) (fun z => absurd ((lg_cmp_eq _ _).mpr (e1.trans e2.symm)) z)
  exact W.widen (Nat.le_add_right _ _) (Nat.le_add_right _ _) (KK G S2 H locs ⟨_, _, _, _, _, _, _, _, _, _, _, _, _, _, _, hG, hP2, hI2, hM2, hA.rows hc0 (hLe.row it la st (xs (6 * t + 1)) (xs (6 * t + 2)) (xs (6 * t + 3)))⟩ rfl rfl hW)
set_option maxHeartbeats 4000000 in
set_option maxRecDepth 100000 in
theorem lw_op_set (C : LwC p s m c b L xs) (hcl : cells + 16 ≤ 600000) (hsl : slots + 48 ≤ 7302250) {c0 t : Nat} (hI0 : Inv G S c0) (hc0 : c0 + 40 < 90000) (hW : Wd D (LwA s) s G S H locs) (hl : LwL ls G b t) (ht : 6 * t + 6 ≤ L) (hL : L ≤ 3072) (KK : ∀ (G1 : Gg) (S1 : Sg) (H1 : Heap) (locs1 : List Loc), Inv G1 S1 (c0 + 40) → gA G1 0 = gA G 0 → gA G1 65 = gA G 65 → Wd D (LwA s) s G1 S1 H1 locs1 → W p l e room_1 s m #[Value.ref b] below meth c H1 locs1 (cells + 16) (slots + 48) Q (F0 m 1043 ls [])) : W p l e room_1 s m #[Value.ref b] below meth c H locs cells slots Q (F0 m 196 ls []) := by
  have C9 := C
  obtain ⟨hx, hb, hml, hown, hts, hX, hbl⟩ := C9
  obtain ⟨h, k, nw, it, la, le, st, B, B1, B2, T, ts, lf, tl, tr, hG, hP, hI, hM, hA⟩ := hI0
  have hA0 : ∀ q, s.heap.size ≤ q → LwA s q := fun q z => z
  have hl4 : lv_has ls 4 [(3, .int (nI (6 * t))), (2, .ref (gA G 65)), (1, .ref (gA G 0)), (0, .ref b)] := hl
  have hI9 := hI
  obtain ⟨i1, i2, i3, i4, i5, i6, i7, i8, i9, i10, i11, i12, i13, i14, i15, i16⟩ := hI9
  have hk0 : h = 33 ∨ h = 41 := by omega
  have hh : PassR h := by rcases hk0 with z | z <;> simp [PassR, z]
  have h41 : h ≤ 41 := by omega
  have hA9 := hA
  obtain ⟨c9, hLe, hB, hB1, hB2, ts4, hTB, t0, t16⟩ := hA9
  have hc : c0 < 100000 := by omega
  refine lv_aload_n hx hb dL_law_196 rfl (lv_at hl4 2 rfl) ?_
  refine lw_arg C hW hl ht hL 1 (by decide) dL_law_197 dL_law_198 dL_law_199 (by decide) dL_law_200 dL_law_201 ?_
  refine lw_arg C hW hl ht hL 2 (by decide) dL_law_202 dL_law_203 dL_law_204 (by decide) dL_law_205 dL_law_206 ?_
  refine lw_arg C hW hl ht hL 3 (by decide) dL_law_207 dL_law_208 dL_law_209 (by decide) dL_law_210 dL_law_211 ?_
  refine r_calll hW hA0 (va_runV (As := [.int (xs (6 * t + 1)), .int (xs (6 * t + 2)), .int (xs (6 * t + 3))]) (rest := []) ⟨hx, hb, hml, hown, hts⟩ (t_X10_set l D G S _ hG hP it la le i11 hLe st i12 (xs (6 * t + 1)) (xs (6 * t + 2)) (xs (6 * t + 3))) (cwV 3 hts gL_law_X10_set rfl rfl rfl (by decide +kernel) ⟨Nat.le_of_ble_eq_true rfl, Nat.le_of_ble_eq_true rfl⟩) (r_preV (k := 0) hA0 hW (ci := 9) (C := RX10) (T := TX10) (N := 10) rfl rfl (g_lt hG (by decide)) (g_kd hG (by decide) rfl) rfl rfl) rfl rfl hl4.1 rfl (lv_room (Nat.le_of_ble_eq_true rfl)) dL_law_212 ⟨(show cells + 0 ≤ 600000 by omega), (show slots + 0 ≤ 7302250 by omega)⟩) (fun r1 S1 H locs hp1 hW => ?_)
  obtain ⟨n1, n2, e1, n3⟩ := hp1
  have hP1 := hP.of n3.1
  have hI1 := hI.rows n1 n2 n3
  have hM1 := hM.ch n3 (fun j z => by omega)
  have hM9 := hM1
  obtain ⟨m1, m2, m3, m4, m5, m6, m7, m8, m9⟩ := hM9
  refine lv_aload_n hx hb dL_law_215 rfl (lv_at hl4 1 rfl) ?_
  refine lw_arg C hW hl ht hL 1 (by decide) dL_law_216 dL_law_217 dL_law_218 (by decide) dL_law_219 dL_law_220 ?_
  refine lw_arg C hW hl ht hL 2 (by decide) dL_law_221 dL_law_222 dL_law_223 (by decide) dL_law_224 dL_law_225 ?_
  refine lw_arg C hW hl ht hL 3 (by decide) dL_law_226 dL_law_227 dL_law_228 (by decide) dL_law_229 dL_law_230 ?_
  refine r_calll hW hA0 (va_runV (As := [.int (xs (6 * t + 1)), .int (xs (6 * t + 2)), .int (xs (6 * t + 3))]) (rest := [.long r1]) ⟨hx, hb, hml, hown, hts⟩ (t_X11_set_s l D G S1 _ hG hP1 it la le m1 hLe st m2 (xs (6 * t + 1)) (xs (6 * t + 2)) (xs (6 * t + 3))) (cwV 3 hts gL_law_X11_set rfl rfl rfl (by decide +kernel) ⟨Nat.le_of_ble_eq_true rfl, Nat.le_of_ble_eq_true rfl⟩) (r_preV (k := 65) hA0 hW (ci := 10) (C := RX11) (T := TX11) (N := 20) rfl rfl (g_lt hG (by decide)) (g_kd hG (by decide) rfl) rfl rfl) rfl rfl hl4.1 rfl (lv_room (Nat.le_of_ble_eq_true rfl)) dL_law_231 ⟨(show cells + 0 ≤ 600000 by omega), (show slots + 0 ≤ 7302250 by omega)⟩) (fun r2 S2 H locs hp2 hW => ?_)
  obtain ⟨⟨k1, k2, e2, -⟩, k3, k4⟩ := hp2
  have hP2 := hP1.of k4.1
  have hM2 := hM1.rows k1 k2 k3 k4
  have hI2 := hI1.mod k4.1 (fun j z => (k4.2 j (by omega)).1)
  refine W.lcmp hx hb dL_law_234 ?_
  refine lv_if_eq (tgt := 1043) hx hb dL_law_235 (by decide) (fun _ => ?_) (fun z => absurd ((lg_cmp_eq _ _).mpr (e1.trans e2.symm)) z)
  exact W.widen (Nat.le_add_right _ _) (Nat.le_add_right _ _) (KK G S2 H locs ⟨_, _, _, _, _, _, _, _, _, _, _, _, _, _, _, hG, hP2, hI2, hM2, hA.same hc0⟩ rfl rfl hW)
set_option maxHeartbeats 4000000 in
set_option maxRecDepth 100000 in
theorem lw_op_copy (C : LwC p s m c b L xs) (hcl : cells + 16 ≤ 600000) (hsl : slots + 48 ≤ 7302250) {c0 t : Nat} (hI0 : Inv G S c0) (hc0 : c0 + 40 < 90000) (hW : Wd D (LwA s) s G S H locs) (hl : LwL ls G b t) (ht : 6 * t + 6 ≤ L) (hL : L ≤ 3072) (KK : ∀ (G1 : Gg) (S1 : Sg) (H1 : Heap) (locs1 : List Loc), Inv G1 S1 (c0 + 40) → gA G1 0 = gA G 0 → gA G1 65 = gA G 65 → Wd D (LwA s) s G1 S1 H1 locs1 → W p l e room_1 s m #[Value.ref b] below meth c H1 locs1 (cells + 16) (slots + 48) Q (F0 m 1043 ls [])) : W p l e room_1 s m #[Value.ref b] below meth c H locs cells slots Q (F0 m 240 ls []) := by
  have C9 := C
  obtain ⟨hx, hb, hml, hown, hts, hX, hbl⟩ := C9
  obtain ⟨h, k, nw, it, la, le, st, B, B1, B2, T, ts, lf, tl, tr, hG, hP, hI, hM, hA⟩ := hI0
  have hA0 : ∀ q, s.heap.size ≤ q → LwA s q := fun q z => z
  have hl4 : lv_has ls 4 [(3, .int (nI (6 * t))), (2, .ref (gA G 65)), (1, .ref (gA G 0)), (0, .ref b)] := hl
  have hI9 := hI
  obtain ⟨i1, i2, i3, i4, i5, i6, i7, i8, i9, i10, i11, i12, i13, i14, i15, i16⟩ := hI9
  have hk0 : h = 33 ∨ h = 41 := by omega
  have hh : PassR h := by rcases hk0 with z | z <;> simp [PassR, z]
  have h41 : h ≤ 41 := by omega
  have hA9 := hA
  obtain ⟨c9, hLe, hB, hB1, hB2, ts4, hTB, t0, t16⟩ := hA9
  have hc : c0 < 100000 := by omega
  refine lv_aload_n hx hb dL_law_240 rfl (lv_at hl4 2 rfl) ?_
  refine lw_arg C hW hl ht hL 1 (by decide) dL_law_241 dL_law_242 dL_law_243 (by decide) dL_law_244 dL_law_245 ?_
  refine lw_arg C hW hl ht hL 2 (by decide) dL_law_246 dL_law_247 dL_law_248 (by decide) dL_law_249 dL_law_250 ?_
  refine lw_arg C hW hl ht hL 3 (by decide) dL_law_251 dL_law_252 dL_law_253 (by decide) dL_law_254 dL_law_255 ?_
  refine lw_arg C hW hl ht hL 4 (by decide) dL_law_256 dL_law_257 dL_law_258 (by decide) dL_law_259 dL_law_260 ?_
  refine lw_arg C hW hl ht hL 5 (by decide) dL_law_261 dL_law_262 dL_law_263 (by decide) dL_law_264 dL_law_265 ?_
  refine r_calll hW hA0 (va_runV (As := [.int (xs (6 * t + 1)), .int (xs (6 * t + 2)), .int (xs (6 * t + 3)), .int (xs (6 * t + 4)), .int (xs (6 * t + 5))]) (rest := []) ⟨hx, hb, hml, hown, hts⟩ (t_X10_copy l D G S _ hG hP it la le i11 hLe st i12 (xs (6 * t + 1)) (xs (6 * t + 2)) (xs (6 * t + 3)) (xs (6 * t + 4)) (xs (6 * t + 5))) (cwV 5 hts gL_law_X10_copy rfl rfl rfl (by decide +kernel) ⟨Nat.le_of_ble_eq_true rfl, Nat.le_of_ble_eq_true rfl⟩) (r_preV (k := 0) hA0 hW (ci := 9) (C := RX10) (T := TX10) (N := 10) rfl rfl (g_lt hG (by decide)) (g_kd hG (by decide) rfl) rfl rfl) rfl rfl hl4.1 rfl (lv_room (Nat.le_of_ble_eq_true rfl)) dL_law_266 ⟨(show cells + 0 ≤ 600000 by omega), (show slots + 0 ≤ 7302250 by omega)⟩) (fun r1 S1 H locs hp1 hW => ?_)
  obtain ⟨n1, n2, e1, n3⟩ := hp1
  have hP1 := hP.of n3.1
  have hI1 := hI.rows n1 n2 n3
  have hM1 := hM.ch n3 (fun j z => by omega)
  have hM9 := hM1
  obtain ⟨m1, m2, m3, m4, m5, m6, m7, m8, m9⟩ := hM9
  refine lv_aload_n hx hb dL_law_269 rfl (lv_at hl4 1 rfl) ?_
  refine lw_arg C hW hl ht hL 1 (by decide) dL_law_270 dL_law_271 dL_law_272 (by decide) dL_law_273 dL_law_274 ?_
  refine lw_arg C hW hl ht hL 2 (by decide) dL_law_275 dL_law_276 dL_law_277 (by decide) dL_law_278 dL_law_279 ?_
  refine lw_arg C hW hl ht hL 3 (by decide) dL_law_280 dL_law_281 dL_law_282 (by decide) dL_law_283 dL_law_284 ?_
  refine lw_arg C hW hl ht hL 4 (by decide) dL_law_285 dL_law_286 dL_law_287 (by decide) dL_law_288 dL_law_289 ?_
  refine lw_arg C hW hl ht hL 5 (by decide) dL_law_290 dL_law_291 dL_law_292 (by decide) dL_law_293 dL_law_294 ?_
  refine r_calll hW hA0 (va_runV (As := [.int (xs (6 * t + 1)), .int (xs (6 * t + 2)), .int (xs (6 * t + 3)), .int (xs (6 * t + 4)), .int (xs (6 * t + 5))]) (rest := [.long r1]) ⟨hx, hb, hml, hown, hts⟩ (t_X11_copy_s l D G S1 _ hG hP1 it la le m1 hLe st m2 (xs (6 * t + 1)) (xs (6 * t + 2)) (xs (6 * t + 3)) (xs (6 * t + 4)) (xs (6 * t + 5))) (cwV 5 hts gL_law_X11_copy rfl rfl rfl (by decide +kernel) ⟨Nat.le_of_ble_eq_true rfl, Nat.le_of_ble_eq_true rfl⟩) (r_preV (k := 65) hA0 hW (ci := 10) (C := RX11) (T := TX11) (N := 20) rfl rfl (g_lt hG (by decide)) (g_kd hG (by decide) rfl) rfl rfl) rfl rfl hl4.1 rfl (lv_room (Nat.le_of_ble_eq_true rfl)) dL_law_295 ⟨(show cells + 0 ≤ 600000 by omega), (show slots + 0 ≤ 7302250 by omega)⟩) (fun r2 S2 H locs hp2 hW => ?_)
  obtain ⟨⟨k1, k2, e2, -⟩, k3, k4⟩ := hp2
  have hP2 := hP1.of k4.1
  have hM2 := hM1.rows k1 k2 k3 k4
  have hI2 := hI1.mod k4.1 (fun j z => (k4.2 j (by omega)).1)
  refine W.lcmp hx hb dL_law_298 ?_
  refine lv_if_eq (tgt := 1043) hx hb dL_law_299 (by decide) (fun _ => ?_) (fun z => absurd ((lg_cmp_eq _ _).mpr (e1.trans e2.symm)) z)
  exact W.widen (Nat.le_add_right _ _) (Nat.le_add_right _ _) (KK G S2 H locs ⟨_, _, _, _, _, _, _, _, _, _, _, _, _, _, _, hG, hP2, hI2, hM2, hA.same hc0⟩ rfl rfl hW)
set_option maxHeartbeats 4000000 in
set_option maxRecDepth 100000 in
theorem lw_op_drop (C : LwC p s m c b L xs) (hcl : cells + 16 ≤ 600000) (hsl : slots + 48 ≤ 7302250) {c0 t : Nat} (hI0 : Inv G S c0) (hc0 : c0 + 40 < 90000) (hW : Wd D (LwA s) s G S H locs) (hl : LwL ls G b t) (ht : 6 * t + 6 ≤ L) (hL : L ≤ 3072) (KK : ∀ (G1 : Gg) (S1 : Sg) (H1 : Heap) (locs1 : List Loc), Inv G1 S1 (c0 + 40) → gA G1 0 = gA G 0 → gA G1 65 = gA G 65 → Wd D (LwA s) s G1 S1 H1 locs1 → W p l e room_1 s m #[Value.ref b] below meth c H1 locs1 (cells + 16) (slots + 48) Q (F0 m 1043 ls [])) : W p l e room_1 s m #[Value.ref b] below meth c H locs cells slots Q (F0 m 304 ls []) := by
  have C9 := C
  obtain ⟨hx, hb, hml, hown, hts, hX, hbl⟩ := C9
  obtain ⟨h, k, nw, it, la, le, st, B, B1, B2, T, ts, lf, tl, tr, hG, hP, hI, hM, hA⟩ := hI0
  have hA0 : ∀ q, s.heap.size ≤ q → LwA s q := fun q z => z
  have hl4 : lv_has ls 4 [(3, .int (nI (6 * t))), (2, .ref (gA G 65)), (1, .ref (gA G 0)), (0, .ref b)] := hl
  have hI9 := hI
  obtain ⟨i1, i2, i3, i4, i5, i6, i7, i8, i9, i10, i11, i12, i13, i14, i15, i16⟩ := hI9
  have hk0 : h = 33 ∨ h = 41 := by omega
  have hh : PassR h := by rcases hk0 with z | z <;> simp [PassR, z]
  have h41 : h ≤ 41 := by omega
  have hA9 := hA
  obtain ⟨c9, hLe, hB, hB1, hB2, ts4, hTB, t0, t16⟩ := hA9
  have hc : c0 < 100000 := by omega
  refine lv_aload_n hx hb dL_law_304 rfl (lv_at hl4 2 rfl) ?_
  refine lw_arg C hW hl ht hL 1 (by decide) dL_law_305 dL_law_306 dL_law_307 (by decide) dL_law_308 dL_law_309 ?_
  refine r_calll hW hA0 (va_runV (As := [.int (xs (6 * t + 1))]) (rest := []) ⟨hx, hb, hml, hown, hts⟩ (t_X10_drop l D G S _ hG hP it la le i11 hLe st i12 (xs (6 * t + 1))) (cwV 1 hts gL_law_X10_drop rfl rfl rfl (by decide +kernel) ⟨Nat.le_of_ble_eq_true rfl, Nat.le_of_ble_eq_true rfl⟩) (r_preV (k := 0) hA0 hW (ci := 9) (C := RX10) (T := TX10) (N := 10) rfl rfl (g_lt hG (by decide)) (g_kd hG (by decide) rfl) rfl rfl) rfl rfl hl4.1 rfl (lv_room (Nat.le_of_ble_eq_true rfl)) dL_law_310 ⟨(show cells + 0 ≤ 600000 by omega), (show slots + 0 ≤ 7302250 by omega)⟩) (fun r1 S1 H locs hp1 hW => ?_)
  obtain ⟨n1, n2, e1, n3⟩ := hp1
  have hP1 := hP.of n3.1
  have hI1 := hI.rows n1 n2 n3
  have hM1 := hM.ch n3 (fun j z => by omega)
  have hM9 := hM1
  obtain ⟨m1, m2, m3, m4, m5, m6, m7, m8, m9⟩ := hM9
  refine lv_aload_n hx hb dL_law_313 rfl (lv_at hl4 1 rfl) ?_
  refine lw_arg C hW hl ht hL 1 (by decide) dL_law_314 dL_law_315 dL_law_316 (by decide) dL_law_317 dL_law_318 ?_
  refine r_calll hW hA0 (va_runV (As := [.int (xs (6 * t + 1))]) (rest := [.long r1]) ⟨hx, hb, hml, hown, hts⟩ (t_X11_drop_s l D G S1 _ hG hP1 it la le m1 hLe st m2 (xs (6 * t + 1))) (cwV 1 hts gL_law_X11_drop rfl rfl rfl (by decide +kernel) ⟨Nat.le_of_ble_eq_true rfl, Nat.le_of_ble_eq_true rfl⟩) (r_preV (k := 65) hA0 hW (ci := 10) (C := RX11) (T := TX11) (N := 20) rfl rfl (g_lt hG (by decide)) (g_kd hG (by decide) rfl) rfl rfl) rfl rfl hl4.1 rfl (lv_room (Nat.le_of_ble_eq_true rfl)) dL_law_319 ⟨(show cells + 0 ≤ 600000 by omega), (show slots + 0 ≤ 7302250 by omega)⟩) (fun r2 S2 H locs hp2 hW => ?_)
  obtain ⟨⟨k1, k2, e2, -⟩, k3, k4⟩ := hp2
  have hP2 := hP1.of k4.1
  have hM2 := hM1.rows k1 k2 k3 k4
  have hI2 := hI1.mod k4.1 (fun j z => (k4.2 j (by omega)).1)
  refine W.lcmp hx hb dL_law_322 ?_
  refine lv_if_eq (tgt := 1043) hx hb dL_law_323 (by decide) (fun _ => ?_) (fun z => absurd ((lg_cmp_eq _ _).mpr (e1.trans e2.symm)) z)
  exact W.widen (Nat.le_add_right _ _) (Nat.le_add_right _ _) (KK G S2 H locs ⟨_, _, _, _, _, _, _, _, _, _, _, _, _, _, _, hG, hP2, hI2, hM2, hA.rows hc0 (hLe.drop st (xs (6 * t + 1)))⟩ rfl rfl hW)
set_option maxHeartbeats 4000000 in
set_option maxRecDepth 100000 in
theorem lw_op_feed (C : LwC p s m c b L xs) (hcl : cells + 16 ≤ 600000) (hsl : slots + 48 ≤ 7302250) {c0 t : Nat} (hI0 : Inv G S c0) (hc0 : c0 + 40 < 90000) (hW : Wd D (LwA s) s G S H locs) (hl : LwL ls G b t) (ht : 6 * t + 6 ≤ L) (hL : L ≤ 3072) (KK : ∀ (G1 : Gg) (S1 : Sg) (H1 : Heap) (locs1 : List Loc), Inv G1 S1 (c0 + 40) → gA G1 0 = gA G 0 → gA G1 65 = gA G 65 → Wd D (LwA s) s G1 S1 H1 locs1 → W p l e room_1 s m #[Value.ref b] below meth c H1 locs1 (cells + 16) (slots + 48) Q (F0 m 1043 ls [])) : W p l e room_1 s m #[Value.ref b] below meth c H locs cells slots Q (F0 m 328 ls []) := by
  have C9 := C
  obtain ⟨hx, hb, hml, hown, hts, hX, hbl⟩ := C9
  obtain ⟨h, k, nw, it, la, le, st, B, B1, B2, T, ts, lf, tl, tr, hG, hP, hI, hM, hA⟩ := hI0
  have hA0 : ∀ q, s.heap.size ≤ q → LwA s q := fun q z => z
  have hl4 : lv_has ls 4 [(3, .int (nI (6 * t))), (2, .ref (gA G 65)), (1, .ref (gA G 0)), (0, .ref b)] := hl
  have hI9 := hI
  obtain ⟨i1, i2, i3, i4, i5, i6, i7, i8, i9, i10, i11, i12, i13, i14, i15, i16⟩ := hI9
  have hk0 : h = 33 ∨ h = 41 := by omega
  have hh : PassR h := by rcases hk0 with z | z <;> simp [PassR, z]
  have h41 : h ≤ 41 := by omega
  have hA9 := hA
  obtain ⟨c9, hLe, hB, hB1, hB2, ts4, hTB, t0, t16⟩ := hA9
  have hc : c0 < 100000 := by omega
  refine lv_aload_n hx hb dL_law_328 rfl (lv_at hl4 2 rfl) ?_
  refine lw_arg C hW hl ht hL 1 (by decide) dL_law_329 dL_law_330 dL_law_331 (by decide) dL_law_332 dL_law_333 ?_
  refine lv_i2l hx hb dL_law_334 rfl ?_
  refine lv_bipush (v := 32) hx hb dL_law_335 (by decide) ?_
  refine lv_lshl hx hb dL_law_337 rfl ?_
  refine lw_arg C hW hl ht hL 2 (by decide) dL_law_338 dL_law_339 dL_law_340 (by decide) dL_law_341 dL_law_342 ?_
  refine lv_i2l hx hb dL_law_343 rfl ?_
  refine lv_ldc2 (v := 4294967295) hx hb hown (hts (.constantLong RL 32 (4294967295)) (List.mem_append_left _ (List.mem_of_getElem? (i := 6) rfl))) dL_law_344 ?_
  refine lv_land hx hb dL_law_347 ?_
  refine lv_lor hx hb dL_law_348 ?_
  refine lw_arg C hW hl ht hL 3 (by decide) dL_law_349 dL_law_350 dL_law_351 (by decide) dL_law_352 dL_law_353 ?_
  refine r_calll hW hA0 (va_runV (As := [.long ((xs (6 * t + 1)).toInt64 <<< ((32 : Int32).toInt64 &&& 63) ||| ((xs (6 * t + 2)).toInt64 &&& 4294967295)), .int (xs (6 * t + 3))]) (rest := []) ⟨hx, hb, hml, hown, hts⟩ (t_X10_feed l D G S _ hG hP T ts ts4 i13 ((xs (6 * t + 1)).toInt64 <<< ((32 : Int32).toInt64 &&& 63) ||| ((xs (6 * t + 2)).toInt64 &&& 4294967295)) (xs (6 * t + 3))) (cwV 2 hts gL_law_X10_feed rfl rfl rfl (by decide +kernel) ⟨Nat.le_of_ble_eq_true rfl, Nat.le_of_ble_eq_true rfl⟩) (r_preV (k := 0) hA0 hW (ci := 9) (C := RX10) (T := TX10) (N := 10) rfl rfl (g_lt hG (by decide)) (g_kd hG (by decide) rfl) rfl rfl) rfl rfl hl4.1 rfl (lv_room (Nat.le_of_ble_eq_true rfl)) dL_law_354 ⟨(show cells + 0 ≤ 600000 by omega), (show slots + 0 ≤ 7302250 by omega)⟩) (fun r1 S1 H locs hp1 hW => ?_)
  obtain ⟨e1, n1, n2, n3⟩ := hp1
  have hP1 := hP.of n3.1
  have hI1 := hI.feed n1 n2 n3
  have hM1 := hM.ch n3 (fun j z => by omega)
  have hM9 := hM1
  obtain ⟨m1, m2, m3, m4, m5, m6, m7, m8, m9⟩ := hM9
  refine lv_aload_n hx hb dL_law_357 rfl (lv_at hl4 1 rfl) ?_
  refine lw_arg C hW hl ht hL 1 (by decide) dL_law_358 dL_law_359 dL_law_360 (by decide) dL_law_361 dL_law_362 ?_
  refine lv_i2l hx hb dL_law_363 rfl ?_
  refine lv_bipush (v := 32) hx hb dL_law_364 (by decide) ?_
  refine lv_lshl hx hb dL_law_366 rfl ?_
  refine lw_arg C hW hl ht hL 2 (by decide) dL_law_367 dL_law_368 dL_law_369 (by decide) dL_law_370 dL_law_371 ?_
  refine lv_i2l hx hb dL_law_372 rfl ?_
  refine lv_ldc2 (v := 4294967295) hx hb hown (hts (.constantLong RL 32 (4294967295)) (List.mem_append_left _ (List.mem_of_getElem? (i := 6) rfl))) dL_law_373 ?_
  refine lv_land hx hb dL_law_376 ?_
  refine lv_lor hx hb dL_law_377 ?_
  refine lw_arg C hW hl ht hL 3 (by decide) dL_law_378 dL_law_379 dL_law_380 (by decide) dL_law_381 dL_law_382 ?_
  refine r_calll hW hA0 (va_runV (As := [.long ((xs (6 * t + 1)).toInt64 <<< ((32 : Int32).toInt64 &&& 63) ||| ((xs (6 * t + 2)).toInt64 &&& 4294967295)), .int (xs (6 * t + 3))]) (rest := [.long r1]) ⟨hx, hb, hml, hown, hts⟩ (t_X11_feed l D G S1 _ hG hP1 T ts ts4 m3 ((xs (6 * t + 1)).toInt64 <<< ((32 : Int32).toInt64 &&& 63) ||| ((xs (6 * t + 2)).toInt64 &&& 4294967295)) (xs (6 * t + 3))) (cwV 2 hts gL_law_X11_feed rfl rfl rfl (by decide +kernel) ⟨Nat.le_of_ble_eq_true rfl, Nat.le_of_ble_eq_true rfl⟩) (r_preV (k := 65) hA0 hW (ci := 10) (C := RX11) (T := TX11) (N := 20) rfl rfl (g_lt hG (by decide)) (g_kd hG (by decide) rfl) rfl rfl) rfl rfl hl4.1 rfl (lv_room (Nat.le_of_ble_eq_true rfl)) dL_law_383 ⟨(show cells + 0 ≤ 600000 by omega), (show slots + 0 ≤ 7302250 by omega)⟩) (fun r2 S2 H locs hp2 hW => ?_)
  obtain ⟨e2, k1, k2, k3⟩ := hp2
  have hP2 := hP1.of k3.1
  have hM2 := hM1.feed k1 k2 k3
  have hI2 := hI1.mod k3.1 (fun j z => (k3.2 j (by omega)).1)
  have hT := feed_ok ts4 hTB ((xs (6 * t + 1)).toInt64 <<< ((32 : Int32).toInt64 &&& 63) ||| ((xs (6 * t + 2)).toInt64 &&& 4294967295)) (xs (6 * t + 3))
  refine W.lcmp hx hb dL_law_386 ?_
  refine lv_if_eq (tgt := 1043) hx hb dL_law_387 (by decide) (fun _ => ?_) (fun z => absurd ((lg_cmp_eq _ _).mpr (e1.trans e2.symm)) z)
  exact W.widen (Nat.le_add_right _ _) (Nat.le_add_right _ _) (KK G S2 H locs ⟨_, _, _, _, _, _, _, _, _, _, _, _, _, _, _, hG, hP2, hI2, hM2, ⟨hc0, hLe, hA.b.1, hA.b.2.1, hA.b.2.2, hT.1, hT.2, t0, t16⟩⟩ rfl rfl hW)
set_option maxHeartbeats 4000000 in
set_option maxRecDepth 100000 in
theorem lw_op_pass (C : LwC p s m c b L xs) (hcl : cells + 16 ≤ 600000) (hsl : slots + 48 ≤ 7302250) {c0 t : Nat} (hI0 : Inv G S c0) (hc0 : c0 + 40 < 90000) (hW : Wd D (LwA s) s G S H locs) (hl : LwL ls G b t) (ht : 6 * t + 6 ≤ L) (hL : L ≤ 3072) (KK : ∀ (G1 : Gg) (S1 : Sg) (H1 : Heap) (locs1 : List Loc), Inv G1 S1 (c0 + 40) → gA G1 0 = gA G 0 → gA G1 65 = gA G 65 → Wd D (LwA s) s G1 S1 H1 locs1 → W p l e room_1 s m #[Value.ref b] below meth c H1 locs1 (cells + 16) (slots + 48) Q (F0 m 1043 ls [])) : W p l e room_1 s m #[Value.ref b] below meth c H locs cells slots Q (F0 m 392 ls []) := by
  have C9 := C
  obtain ⟨hx, hb, hml, hown, hts, hX, hbl⟩ := C9
  obtain ⟨h, k, nw, it, la, le, st, B, B1, B2, T, ts, lf, tl, tr, hG, hP, hI, hM, hA⟩ := hI0
  have hA0 : ∀ q, s.heap.size ≤ q → LwA s q := fun q z => z
  have hl4 : lv_has ls 4 [(3, .int (nI (6 * t))), (2, .ref (gA G 65)), (1, .ref (gA G 0)), (0, .ref b)] := hl
  have hI9 := hI
  obtain ⟨i1, i2, i3, i4, i5, i6, i7, i8, i9, i10, i11, i12, i13, i14, i15, i16⟩ := hI9
  have hk0 : h = 33 ∨ h = 41 := by omega
  have hh : PassR h := by rcases hk0 with z | z <;> simp [PassR, z]
  have h41 : h ≤ 41 := by omega
  have hA9 := hA
  obtain ⟨c9, hLe, hB, hB1, hB2, ts4, hTB, t0, t16⟩ := hA9
  have hc : c0 < 100000 := by omega
  refine lv_aload_n hx hb dL_law_392 rfl (lv_at hl4 2 rfl) ?_
  refine r_callla hW hA0 (va_runV (As := []) (rest := []) ⟨hx, hb, hml, hown, hts⟩ (t_X10_pass l D G S _ hG hP T ts ts4 hTB i13.1 i13.2 h k i1 i3 i4 B i7 i8 lf i14 ) (cwV 0 hts gL_law_X10_pass rfl rfl rfl (by decide +kernel) ⟨Nat.le_of_ble_eq_true rfl, Nat.le_of_ble_eq_true rfl⟩) (r_preV (k := 0) hA0 hW (ci := 9) (C := RX10) (T := TX10) (N := 10) rfl rfl (g_lt hG (by decide)) (g_kd hG (by decide) rfl) rfl rfl) rfl rfl hl4.1 rfl (lv_room (Nat.le_of_ble_eq_true rfl)) dL_law_393 ⟨(show cells + 16 ≤ 600000 by omega), (show slots + 48 ≤ 7302250 by omega)⟩) (fun r1 G1 S1 H locs hp1 hW => ?_)
  obtain ⟨e1, hX, ⟨h2, k2, hk2, n1, n2, n3, n4⟩, n5, n6, n7, n8⟩ := hp1
  have hX : XtP G G1 := hX
  have hP1 : GrP G1 S1 := GrP.pass hG hP hX n7 n8
  have hI1 := IXc.pass hG hI hX hk2 n1 n2 n3 n4 n5 n6 n7
  have hM1 := IMc.xpass (G' := G1) hG hM n7
  have hG0 := hG
  have hG := hG.xt hX
  have hl : LwL ls G1 b t := by unfold LwL; rw [(hX.2.1 0 (g_lt hG0 (by decide))).1, (hX.2.1 65 (g_lt hG0 (by decide))).1]; exact hl
  have hl4 : lv_has ls 4 [(3, .int (nI (6 * t))), (2, .ref (gA G1 65)), (1, .ref (gA G1 0)), (0, .ref b)] := hl
  have hM9 := hM1
  obtain ⟨m1, m2, m3, m4, m5, m6, m7, m8, m9⟩ := hM9
  refine lv_aload_n hx hb dL_law_396 rfl (lv_at hl4 1 rfl) ?_
  refine r_calll hW hA0 (va_runV (As := []) (rest := [.long r1]) ⟨hx, hb, hml, hown, hts⟩ (t_X11_pass l D G1 S1 _ hG hP1 T ts ts4 hTB m3 B lf m5 m4 ) (cwV 0 hts gL_law_X11_pass rfl rfl rfl (by decide +kernel) ⟨Nat.le_of_ble_eq_true rfl, Nat.le_of_ble_eq_true rfl⟩) (r_preV (k := 65) hA0 hW (ci := 10) (C := RX11) (T := TX11) (N := 20) rfl rfl (g_lt hG (by decide)) (g_kd hG (by decide) rfl) rfl rfl) rfl rfl hl4.1 rfl (lv_room (Nat.le_of_ble_eq_true rfl)) dL_law_397 ⟨(show cells + 16 + 0 ≤ 600000 by omega), (show slots + 48 + 0 ≤ 7302250 by omega)⟩) (fun r2 S2 H locs hp2 hW => ?_)
  obtain ⟨e2, k1, k3, k4, k5, k6, k7⟩ := hp2
  have hP2 := hP1.of k7.1
  have hM2 := hM1.pass k1 k3 k4 k5 k6 k7
  have hI2 := hI1.mod k7.1 (fun j z => (k7.2 j (by omega)).1)
  refine W.lcmp hx hb dL_law_400 ?_
  refine lv_if_eq (tgt := 1043) hx hb dL_law_401 (by decide) (fun _ => ?_) (fun z => absurd ((lg_cmp_eq _ _).mpr (e1.trans e2.symm)) z)
  exact KK G1 S2 H locs ⟨_, _, _, _, _, _, _, _, _, _, _, _, _, _, _, hG, hP2, hI2, hM2, ⟨hc0, hLe, hB.pass T ts lf, hA.b.2.1, hA.b.2.2, Nat.zero_le _, fun i hi => absurd hi (Nat.not_lt_zero _), t0, t16⟩⟩ (hX.2.1 0 (g_lt hG0 (by decide))).1 (hX.2.1 65 (g_lt hG0 (by decide))).1 hW
set_option maxHeartbeats 4000000 in
set_option maxRecDepth 100000 in
theorem lw_op_fault (C : LwC p s m c b L xs) (hcl : cells + 16 ≤ 600000) (hsl : slots + 48 ≤ 7302250) {c0 t : Nat} (hI0 : Inv G S c0) (hc0 : c0 + 40 < 90000) (hW : Wd D (LwA s) s G S H locs) (hl : LwL ls G b t) (ht : 6 * t + 6 ≤ L) (hL : L ≤ 3072) (KK : ∀ (G1 : Gg) (S1 : Sg) (H1 : Heap) (locs1 : List Loc), Inv G1 S1 (c0 + 40) → gA G1 0 = gA G 0 → gA G1 65 = gA G 65 → Wd D (LwA s) s G1 S1 H1 locs1 → W p l e room_1 s m #[Value.ref b] below meth c H1 locs1 (cells + 16) (slots + 48) Q (F0 m 1043 ls [])) : W p l e room_1 s m #[Value.ref b] below meth c H locs cells slots Q (F0 m 406 ls []) := by
  have C9 := C
  obtain ⟨hx, hb, hml, hown, hts, hX, hbl⟩ := C9
  obtain ⟨h, k, nw, it, la, le, st, B, B1, B2, T, ts, lf, tl, tr, hG, hP, hI, hM, hA⟩ := hI0
  have hA0 : ∀ q, s.heap.size ≤ q → LwA s q := fun q z => z
  have hl4 : lv_has ls 4 [(3, .int (nI (6 * t))), (2, .ref (gA G 65)), (1, .ref (gA G 0)), (0, .ref b)] := hl
  have hI9 := hI
  obtain ⟨i1, i2, i3, i4, i5, i6, i7, i8, i9, i10, i11, i12, i13, i14, i15, i16⟩ := hI9
  have hk0 : h = 33 ∨ h = 41 := by omega
  have hh : PassR h := by rcases hk0 with z | z <;> simp [PassR, z]
  have h41 : h ≤ 41 := by omega
  have hA9 := hA
  obtain ⟨c9, hLe, hB, hB1, hB2, ts4, hTB, t0, t16⟩ := hA9
  have hc : c0 < 100000 := by omega
  refine lv_aload_n hx hb dL_law_406 rfl (lv_at hl4 2 rfl) ?_
  refine r_calli hW hA0 (va_runV (As := []) (rest := []) ⟨hx, hb, hml, hown, hts⟩ (t_X10_fault l D G S _ hG hP  ) (cwV 0 hts gL_law_X10_fault rfl rfl rfl (by decide +kernel) ⟨Nat.le_of_ble_eq_true rfl, Nat.le_of_ble_eq_true rfl⟩) (r_preV (k := 0) hA0 hW (ci := 9) (C := RX10) (T := TX10) (N := 10) rfl rfl (g_lt hG (by decide)) (g_kd hG (by decide) rfl) rfl rfl) rfl rfl hl4.1 rfl (lv_room (Nat.le_of_ble_eq_true rfl)) dL_law_407 ⟨(show cells + 0 ≤ 600000 by omega), (show slots + 0 ≤ 7302250 by omega)⟩) (fun r1 S1 H locs hp1 hW => ?_)
  obtain ⟨e1, hS1⟩ := hp1
  rw [hS1] at hW
  have hP1 := hP
  have hM9 := hM
  obtain ⟨m1, m2, m3, m4, m5, m6, m7, m8, m9⟩ := hM9
  refine lv_aload_n hx hb dL_law_410 rfl (lv_at hl4 1 rfl) ?_
  refine r_calli hW hA0 (va_runV (As := []) (rest := [.int r1]) ⟨hx, hb, hml, hown, hts⟩ (t_X11_fault l D G S _ hG hP1  ) (cwV 0 hts gL_law_X11_fault rfl rfl rfl (by decide +kernel) ⟨Nat.le_of_ble_eq_true rfl, Nat.le_of_ble_eq_true rfl⟩) (r_preV (k := 65) hA0 hW (ci := 10) (C := RX11) (T := TX11) (N := 20) rfl rfl (g_lt hG (by decide)) (g_kd hG (by decide) rfl) rfl rfl) rfl rfl hl4.1 rfl (lv_room (Nat.le_of_ble_eq_true rfl)) dL_law_411 ⟨(show cells + 0 ≤ 600000 by omega), (show slots + 0 ≤ 7302250 by omega)⟩) (fun r2 S2 H locs hp2 hW => ?_)
  obtain ⟨e2, hS2⟩ := hp2
  rw [hS2] at hW
  have hP2 := hP
  rw [i14] at e1
  rw [m4] at e2
  refine lv_icmp_eq (tgt := 1043) hx hb dL_law_414 (by decide) (fun _ => ?_) (fun z => absurd (e1.trans e2.symm) z)
  exact W.widen (Nat.le_add_right _ _) (Nat.le_add_right _ _) (KK G S H locs ⟨_, _, _, _, _, _, _, _, _, _, _, _, _, _, _, hG, hP2, hI, hM, hA.same hc0⟩ rfl rfl hW)
set_option maxHeartbeats 4000000 in
set_option maxRecDepth 100000 in
theorem lw_op_night (C : LwC p s m c b L xs) (hcl : cells + 16 ≤ 600000) (hsl : slots + 48 ≤ 7302250) {c0 t : Nat} (hI0 : Inv G S c0) (hc0 : c0 + 40 < 90000) (hW : Wd D (LwA s) s G S H locs) (hl : LwL ls G b t) (ht : 6 * t + 6 ≤ L) (hL : L ≤ 3072) (KK : ∀ (G1 : Gg) (S1 : Sg) (H1 : Heap) (locs1 : List Loc), Inv G1 S1 (c0 + 40) → gA G1 0 = gA G 0 → gA G1 65 = gA G 65 → Wd D (LwA s) s G1 S1 H1 locs1 → W p l e room_1 s m #[Value.ref b] below meth c H1 locs1 (cells + 16) (slots + 48) Q (F0 m 1043 ls [])) : W p l e room_1 s m #[Value.ref b] below meth c H locs cells slots Q (F0 m 419 ls []) := by
  have C9 := C
  obtain ⟨hx, hb, hml, hown, hts, hX, hbl⟩ := C9
  obtain ⟨h, k, nw, it, la, le, st, B, B1, B2, T, ts, lf, tl, tr, hG, hP, hI, hM, hA⟩ := hI0
  have hA0 : ∀ q, s.heap.size ≤ q → LwA s q := fun q z => z
  have hl4 : lv_has ls 4 [(3, .int (nI (6 * t))), (2, .ref (gA G 65)), (1, .ref (gA G 0)), (0, .ref b)] := hl
  have hI9 := hI
  obtain ⟨i1, i2, i3, i4, i5, i6, i7, i8, i9, i10, i11, i12, i13, i14, i15, i16⟩ := hI9
  have hk0 : h = 33 ∨ h = 41 := by omega
  have hh : PassR h := by rcases hk0 with z | z <;> simp [PassR, z]
  have h41 : h ≤ 41 := by omega
  have hA9 := hA
  obtain ⟨c9, hLe, hB, hB1, hB2, ts4, hTB, t0, t16⟩ := hA9
  have hc : c0 < 100000 := by omega
  refine lv_aload_n hx hb dL_law_419 rfl (lv_at hl4 2 rfl) ?_
  refine lw_arg C hW hl ht hL 1 (by decide) dL_law_420 dL_law_421 dL_law_422 (by decide) dL_law_423 dL_law_424 ?_
  refine r_calll hW hA0 (va_runV (As := [.int (xs (6 * t + 1))]) (rest := []) ⟨hx, hb, hml, hown, hts⟩ (t_X10_night l D G S _ hG hP h hh i3 B c0 hB hc i7 (xs (6 * t + 1))) (cwV 1 hts gL_law_X10_night rfl rfl rfl (by decide +kernel) ⟨Nat.le_of_ble_eq_true rfl, Nat.le_of_ble_eq_true rfl⟩) (r_preV (k := 0) hA0 hW (ci := 9) (C := RX10) (T := TX10) (N := 10) rfl rfl (g_lt hG (by decide)) (g_kd hG (by decide) rfl) rfl rfl) rfl rfl hl4.1 rfl (lv_room (Nat.le_of_ble_eq_true rfl)) dL_law_425 ⟨(show cells + 0 ≤ 600000 by omega), (show slots + 0 ≤ 7302250 by omega)⟩) (fun r1 S1 H locs hp1 hW => ?_)
  obtain ⟨e1, n1, n3⟩ := hp1
  have hP1 := hP.of n3.1
  have hI1 := hI.hut0 n1 n3
  have hM1 := hM.ch n3 (fun j z => by omega)
  have hM9 := hM1
  obtain ⟨m1, m2, m3, m4, m5, m6, m7, m8, m9⟩ := hM9
  refine lv_aload_n hx hb dL_law_428 rfl (lv_at hl4 1 rfl) ?_
  refine lw_arg C hW hl ht hL 1 (by decide) dL_law_429 dL_law_430 dL_law_431 (by decide) dL_law_432 dL_law_433 ?_
  refine r_calll hW hA0 (va_runV (As := [.int (xs (6 * t + 1))]) (rest := [.long r1]) ⟨hx, hb, hml, hown, hts⟩ (t_X11_night l D G S1 _ hG hP1 B c0 hB hc m5 (xs (6 * t + 1))) (cwV 1 hts gL_law_X11_night rfl rfl rfl (by decide +kernel) ⟨Nat.le_of_ble_eq_true rfl, Nat.le_of_ble_eq_true rfl⟩) (r_preV (k := 65) hA0 hW (ci := 10) (C := RX11) (T := TX11) (N := 20) rfl rfl (g_lt hG (by decide)) (g_kd hG (by decide) rfl) rfl rfl) rfl rfl hl4.1 rfl (lv_room (Nat.le_of_ble_eq_true rfl)) dL_law_434 ⟨(show cells + 0 ≤ 600000 by omega), (show slots + 0 ≤ 7302250 by omega)⟩) (fun r2 S2 H locs hp2 hW => ?_)
  obtain ⟨e2, k1⟩ := hp2
  have hP2 := hP1.of k1.2.2.1
  have hM2 := hM1.hut k1
  have hI2 := hI1.mod k1.2.2.1 (fun j z => (k1.2.2.2 j (by omega)).1)
  refine W.lcmp hx hb dL_law_437 ?_
  refine lv_if_eq (tgt := 1043) hx hb dL_law_438 (by decide) (fun _ => ?_) (fun z => absurd ((lg_cmp_eq _ _).mpr (e1.trans e2.symm)) z)
  exact W.widen (Nat.le_add_right _ _) (Nat.le_add_right _ _) (KK G S2 H locs ⟨_, _, _, _, _, _, _, _, _, _, _, _, _, _, _, hG, hP2, hI2, hM2, hA.hut hc0 (hB.night (xs (6 * t + 1)))⟩ rfl rfl hW)
set_option maxHeartbeats 4000000 in
set_option maxRecDepth 100000 in
theorem lw_op_nights (C : LwC p s m c b L xs) (hcl : cells + 16 ≤ 600000) (hsl : slots + 48 ≤ 7302250) {c0 t : Nat} (hI0 : Inv G S c0) (hc0 : c0 + 40 < 90000) (hW : Wd D (LwA s) s G S H locs) (hl : LwL ls G b t) (ht : 6 * t + 6 ≤ L) (hL : L ≤ 3072) (KK : ∀ (G1 : Gg) (S1 : Sg) (H1 : Heap) (locs1 : List Loc), Inv G1 S1 (c0 + 40) → gA G1 0 = gA G 0 → gA G1 65 = gA G 65 → Wd D (LwA s) s G1 S1 H1 locs1 → W p l e room_1 s m #[Value.ref b] below meth c H1 locs1 (cells + 16) (slots + 48) Q (F0 m 1043 ls [])) : W p l e room_1 s m #[Value.ref b] below meth c H locs cells slots Q (F0 m 443 ls []) := by
  have C9 := C
  obtain ⟨hx, hb, hml, hown, hts, hX, hbl⟩ := C9
  obtain ⟨h, k, nw, it, la, le, st, B, B1, B2, T, ts, lf, tl, tr, hG, hP, hI, hM, hA⟩ := hI0
  have hA0 : ∀ q, s.heap.size ≤ q → LwA s q := fun q z => z
  have hl4 : lv_has ls 4 [(3, .int (nI (6 * t))), (2, .ref (gA G 65)), (1, .ref (gA G 0)), (0, .ref b)] := hl
  have hI9 := hI
  obtain ⟨i1, i2, i3, i4, i5, i6, i7, i8, i9, i10, i11, i12, i13, i14, i15, i16⟩ := hI9
  have hk0 : h = 33 ∨ h = 41 := by omega
  have hh : PassR h := by rcases hk0 with z | z <;> simp [PassR, z]
  have h41 : h ≤ 41 := by omega
  have hA9 := hA
  obtain ⟨c9, hLe, hB, hB1, hB2, ts4, hTB, t0, t16⟩ := hA9
  have hc : c0 < 100000 := by omega
  refine lv_aload_n hx hb dL_law_443 rfl (lv_at hl4 2 rfl) ?_
  refine lw_arg C hW hl ht hL 1 (by decide) dL_law_444 dL_law_445 dL_law_446 (by decide) dL_law_447 dL_law_448 ?_
  refine lw_arg C hW hl ht hL 2 (by decide) dL_law_449 dL_law_450 dL_law_451 (by decide) dL_law_452 dL_law_453 ?_
  refine lw_arg C hW hl ht hL 3 (by decide) dL_law_454 dL_law_455 dL_law_456 (by decide) dL_law_457 dL_law_458 ?_
  refine r_calll hW hA0 (va_runV (As := [.int (xs (6 * t + 1)), .int (xs (6 * t + 2)), .int (xs (6 * t + 3))]) (rest := []) ⟨hx, hb, hml, hown, hts⟩ (t_X10_nights l D G S _ hG hP h hh i3 B c0 hB hc i7 it la le i11 hLe st i12 (xs (6 * t + 1)) (xs (6 * t + 2)) (xs (6 * t + 3))) (cwV 3 hts gL_law_X10_nights rfl rfl rfl (by decide +kernel) ⟨Nat.le_of_ble_eq_true rfl, Nat.le_of_ble_eq_true rfl⟩) (r_preV (k := 0) hA0 hW (ci := 9) (C := RX10) (T := TX10) (N := 10) rfl rfl (g_lt hG (by decide)) (g_kd hG (by decide) rfl) rfl rfl) rfl rfl hl4.1 rfl (lv_room (Nat.le_of_ble_eq_true rfl)) dL_law_459 ⟨(show cells + 0 ≤ 600000 by omega), (show slots + 0 ≤ 7302250 by omega)⟩) (fun r1 S1 H locs hp1 hW => ?_)
  obtain ⟨e1, n1, n2, n3⟩ := hp1
  have hP1 := hP.of n3.1
  have hI1 := hI.hut n1 n2 n3
  have hM1 := hM.ch n3 (fun j z => by omega)
  have hM9 := hM1
  obtain ⟨m1, m2, m3, m4, m5, m6, m7, m8, m9⟩ := hM9
  refine lv_aload_n hx hb dL_law_462 rfl (lv_at hl4 1 rfl) ?_
  refine lw_arg C hW hl ht hL 1 (by decide) dL_law_463 dL_law_464 dL_law_465 (by decide) dL_law_466 dL_law_467 ?_
  refine lw_arg C hW hl ht hL 2 (by decide) dL_law_468 dL_law_469 dL_law_470 (by decide) dL_law_471 dL_law_472 ?_
  refine lw_arg C hW hl ht hL 3 (by decide) dL_law_473 dL_law_474 dL_law_475 (by decide) dL_law_476 dL_law_477 ?_
  refine r_calll hW hA0 (va_runV (As := [.int (xs (6 * t + 1)), .int (xs (6 * t + 2)), .int (xs (6 * t + 3))]) (rest := [.long r1]) ⟨hx, hb, hml, hown, hts⟩ (t_X11_nights_s l D G S1 _ hG hP1 B c0 hB hA.1 m5 it la le m1 hLe st m2 (xs (6 * t + 1)) (xs (6 * t + 2)) (xs (6 * t + 3))) (cwV 3 hts gL_law_X11_nights rfl rfl rfl (by decide +kernel) ⟨Nat.le_of_ble_eq_true rfl, Nat.le_of_ble_eq_true rfl⟩) (r_preV (k := 65) hA0 hW (ci := 10) (C := RX11) (T := TX11) (N := 20) rfl rfl (g_lt hG (by decide)) (g_kd hG (by decide) rfl) rfl rfl) rfl rfl hl4.1 rfl (lv_room (Nat.le_of_ble_eq_true rfl)) dL_law_478 ⟨(show cells + 0 ≤ 600000 by omega), (show slots + 0 ≤ 7302250 by omega)⟩) (fun r2 S2 H locs hp2 hW => ?_)
  obtain ⟨⟨e2, k1, k2, k3, k4⟩, k5⟩ := hp2
  have hP2 := hP1.of k4.1
  have hM2 := hM1.nts k1 k2 k3 k5 k4
  have hI2 := hI1.mod k4.1 (fun j z => (k4.2 j (by omega)).1)
  refine W.lcmp hx hb dL_law_481 ?_
  refine lv_if_eq (tgt := 1043) hx hb dL_law_482 (by decide) (fun _ => ?_) (fun z => absurd ((lg_cmp_eq _ _).mpr (e1.trans e2.symm)) z)
  exact W.widen (Nat.le_add_right _ _) (Nat.le_add_right _ _) (KK G S2 H locs ⟨_, _, _, _, _, _, _, _, _, _, _, _, _, _, _, hG, hP2, hI2, hM2, hA.hut hc0 (hB.nights it le st (xs (6 * t + 1)) (xs (6 * t + 2)) (xs (6 * t + 3)))⟩ rfl rfl hW)
set_option maxHeartbeats 4000000 in
set_option maxRecDepth 100000 in
theorem lw_op_snow (C : LwC p s m c b L xs) (hcl : cells + 16 ≤ 600000) (hsl : slots + 48 ≤ 7302250) {c0 t : Nat} (hI0 : Inv G S c0) (hc0 : c0 + 40 < 90000) (hW : Wd D (LwA s) s G S H locs) (hl : LwL ls G b t) (ht : 6 * t + 6 ≤ L) (hL : L ≤ 3072) (KK : ∀ (G1 : Gg) (S1 : Sg) (H1 : Heap) (locs1 : List Loc), Inv G1 S1 (c0 + 40) → gA G1 0 = gA G 0 → gA G1 65 = gA G 65 → Wd D (LwA s) s G1 S1 H1 locs1 → W p l e room_1 s m #[Value.ref b] below meth c H1 locs1 (cells + 16) (slots + 48) Q (F0 m 1043 ls [])) : W p l e room_1 s m #[Value.ref b] below meth c H locs cells slots Q (F0 m 487 ls []) := by
  have C9 := C
  obtain ⟨hx, hb, hml, hown, hts, hX, hbl⟩ := C9
  obtain ⟨h, k, nw, it, la, le, st, B, B1, B2, T, ts, lf, tl, tr, hG, hP, hI, hM, hA⟩ := hI0
  have hA0 : ∀ q, s.heap.size ≤ q → LwA s q := fun q z => z
  have hl4 : lv_has ls 4 [(3, .int (nI (6 * t))), (2, .ref (gA G 65)), (1, .ref (gA G 0)), (0, .ref b)] := hl
  have hI9 := hI
  obtain ⟨i1, i2, i3, i4, i5, i6, i7, i8, i9, i10, i11, i12, i13, i14, i15, i16⟩ := hI9
  have hk0 : h = 33 ∨ h = 41 := by omega
  have hh : PassR h := by rcases hk0 with z | z <;> simp [PassR, z]
  have h41 : h ≤ 41 := by omega
  have hA9 := hA
  obtain ⟨c9, hLe, hB, hB1, hB2, ts4, hTB, t0, t16⟩ := hA9
  have hc : c0 < 100000 := by omega
  refine lv_aload_n hx hb dL_law_487 rfl (lv_at hl4 2 rfl) ?_
  refine lw_arg C hW hl ht hL 1 (by decide) dL_law_488 dL_law_489 dL_law_490 (by decide) dL_law_491 dL_law_492 ?_
  refine r_calll hW hA0 (va_runV (As := [.int (xs (6 * t + 1))]) (rest := []) ⟨hx, hb, hml, hown, hts⟩ (t_X10_snow l D G S _ hG hP h hh i3 B c0 hB hc i7 (xs (6 * t + 1))) (cwV 1 hts gL_law_X10_snow rfl rfl rfl (by decide +kernel) ⟨Nat.le_of_ble_eq_true rfl, Nat.le_of_ble_eq_true rfl⟩) (r_preV (k := 0) hA0 hW (ci := 9) (C := RX10) (T := TX10) (N := 10) rfl rfl (g_lt hG (by decide)) (g_kd hG (by decide) rfl) rfl rfl) rfl rfl hl4.1 rfl (lv_room (Nat.le_of_ble_eq_true rfl)) dL_law_493 ⟨(show cells + 0 ≤ 600000 by omega), (show slots + 0 ≤ 7302250 by omega)⟩) (fun r1 S1 H locs hp1 hW => ?_)
  obtain ⟨e1, n1, n3⟩ := hp1
  have hP1 := hP.of n3.1
  have hI1 := hI.hut0 n1 n3
  have hM1 := hM.ch n3 (fun j z => by omega)
  have hM9 := hM1
  obtain ⟨m1, m2, m3, m4, m5, m6, m7, m8, m9⟩ := hM9
  refine lv_aload_n hx hb dL_law_496 rfl (lv_at hl4 1 rfl) ?_
  refine lw_arg C hW hl ht hL 1 (by decide) dL_law_497 dL_law_498 dL_law_499 (by decide) dL_law_500 dL_law_501 ?_
  refine r_calll hW hA0 (va_runV (As := [.int (xs (6 * t + 1))]) (rest := [.long r1]) ⟨hx, hb, hml, hown, hts⟩ (t_X11_snow l D G S1 _ hG hP1 B c0 hB hc m5 (xs (6 * t + 1))) (cwV 1 hts gL_law_X11_snow rfl rfl rfl (by decide +kernel) ⟨Nat.le_of_ble_eq_true rfl, Nat.le_of_ble_eq_true rfl⟩) (r_preV (k := 65) hA0 hW (ci := 10) (C := RX11) (T := TX11) (N := 20) rfl rfl (g_lt hG (by decide)) (g_kd hG (by decide) rfl) rfl rfl) rfl rfl hl4.1 rfl (lv_room (Nat.le_of_ble_eq_true rfl)) dL_law_502 ⟨(show cells + 0 ≤ 600000 by omega), (show slots + 0 ≤ 7302250 by omega)⟩) (fun r2 S2 H locs hp2 hW => ?_)
  obtain ⟨e2, k1⟩ := hp2
  have hP2 := hP1.of k1.2.2.1
  have hM2 := hM1.hut k1
  have hI2 := hI1.mod k1.2.2.1 (fun j z => (k1.2.2.2 j (by omega)).1)
  refine W.lcmp hx hb dL_law_505 ?_
  refine lv_if_eq (tgt := 1043) hx hb dL_law_506 (by decide) (fun _ => ?_) (fun z => absurd ((lg_cmp_eq _ _).mpr (e1.trans e2.symm)) z)
  exact W.widen (Nat.le_add_right _ _) (Nat.le_add_right _ _) (KK G S2 H locs ⟨_, _, _, _, _, _, _, _, _, _, _, _, _, _, _, hG, hP2, hI2, hM2, hA.hut hc0 (hB.snow (xs (6 * t + 1)))⟩ rfl rfl hW)
set_option maxHeartbeats 4000000 in
set_option maxRecDepth 100000 in
theorem lw_op_due (C : LwC p s m c b L xs) (hcl : cells + 16 ≤ 600000) (hsl : slots + 48 ≤ 7302250) {c0 t : Nat} (hI0 : Inv G S c0) (hc0 : c0 + 40 < 90000) (hW : Wd D (LwA s) s G S H locs) (hl : LwL ls G b t) (ht : 6 * t + 6 ≤ L) (hL : L ≤ 3072) (KK : ∀ (G1 : Gg) (S1 : Sg) (H1 : Heap) (locs1 : List Loc), Inv G1 S1 (c0 + 40) → gA G1 0 = gA G 0 → gA G1 65 = gA G 65 → Wd D (LwA s) s G1 S1 H1 locs1 → W p l e room_1 s m #[Value.ref b] below meth c H1 locs1 (cells + 16) (slots + 48) Q (F0 m 1043 ls [])) : W p l e room_1 s m #[Value.ref b] below meth c H locs cells slots Q (F0 m 511 ls []) := by
  have C9 := C
  obtain ⟨hx, hb, hml, hown, hts, hX, hbl⟩ := C9
  obtain ⟨h, k, nw, it, la, le, st, B, B1, B2, T, ts, lf, tl, tr, hG, hP, hI, hM, hA⟩ := hI0
  have hA0 : ∀ q, s.heap.size ≤ q → LwA s q := fun q z => z
  have hl4 : lv_has ls 4 [(3, .int (nI (6 * t))), (2, .ref (gA G 65)), (1, .ref (gA G 0)), (0, .ref b)] := hl
  have hI9 := hI
  obtain ⟨i1, i2, i3, i4, i5, i6, i7, i8, i9, i10, i11, i12, i13, i14, i15, i16⟩ := hI9
  have hk0 : h = 33 ∨ h = 41 := by omega
  have hh : PassR h := by rcases hk0 with z | z <;> simp [PassR, z]
  have h41 : h ≤ 41 := by omega
  have hA9 := hA
  obtain ⟨c9, hLe, hB, hB1, hB2, ts4, hTB, t0, t16⟩ := hA9
  have hc : c0 < 100000 := by omega
  refine lv_aload_n hx hb dL_law_511 rfl (lv_at hl4 2 rfl) ?_
  refine lw_arg C hW hl ht hL 1 (by decide) dL_law_512 dL_law_513 dL_law_514 (by decide) dL_law_515 dL_law_516 ?_
  refine lw_arg C hW hl ht hL 2 (by decide) dL_law_517 dL_law_518 dL_law_519 (by decide) dL_law_520 dL_law_521 ?_
  refine r_calll hW hA0 (va_runV (As := [.int (xs (6 * t + 1)), .int (xs (6 * t + 2))]) (rest := []) ⟨hx, hb, hml, hown, hts⟩ (t_X10_due l D G S _ hG hP h hh i3 B c0 hB hc i7 (xs (6 * t + 1)) (xs (6 * t + 2))) (cwV 2 hts gL_law_X10_due rfl rfl rfl (by decide +kernel) ⟨Nat.le_of_ble_eq_true rfl, Nat.le_of_ble_eq_true rfl⟩) (r_preV (k := 0) hA0 hW (ci := 9) (C := RX10) (T := TX10) (N := 10) rfl rfl (g_lt hG (by decide)) (g_kd hG (by decide) rfl) rfl rfl) rfl rfl hl4.1 rfl (lv_room (Nat.le_of_ble_eq_true rfl)) dL_law_522 ⟨(show cells + 0 ≤ 600000 by omega), (show slots + 0 ≤ 7302250 by omega)⟩) (fun r1 S1 H locs hp1 hW => ?_)
  obtain ⟨e1, hS1⟩ := hp1
  rw [hS1] at hW
  have hP1 := hP
  have hM9 := hM
  obtain ⟨m1, m2, m3, m4, m5, m6, m7, m8, m9⟩ := hM9
  refine lv_aload_n hx hb dL_law_525 rfl (lv_at hl4 1 rfl) ?_
  refine lw_arg C hW hl ht hL 1 (by decide) dL_law_526 dL_law_527 dL_law_528 (by decide) dL_law_529 dL_law_530 ?_
  refine lw_arg C hW hl ht hL 2 (by decide) dL_law_531 dL_law_532 dL_law_533 (by decide) dL_law_534 dL_law_535 ?_
  refine r_calll hW hA0 (va_runV (As := [.int (xs (6 * t + 1)), .int (xs (6 * t + 2))]) (rest := [.long r1]) ⟨hx, hb, hml, hown, hts⟩ (t_X11_due l D G S _ hG hP1 B c0 hB hc m5 (xs (6 * t + 1)) (xs (6 * t + 2))) (cwV 2 hts gL_law_X11_due rfl rfl rfl (by decide +kernel) ⟨Nat.le_of_ble_eq_true rfl, Nat.le_of_ble_eq_true rfl⟩) (r_preV (k := 65) hA0 hW (ci := 10) (C := RX11) (T := TX11) (N := 20) rfl rfl (g_lt hG (by decide)) (g_kd hG (by decide) rfl) rfl rfl) rfl rfl hl4.1 rfl (lv_room (Nat.le_of_ble_eq_true rfl)) dL_law_536 ⟨(show cells + 0 ≤ 600000 by omega), (show slots + 0 ≤ 7302250 by omega)⟩) (fun r2 S2 H locs hp2 hW => ?_)
  obtain ⟨e2, hS2⟩ := hp2
  rw [hS2] at hW
  have hP2 := hP
  refine W.lcmp hx hb dL_law_539 ?_
  refine lv_if_eq (tgt := 1043) hx hb dL_law_540 (by decide) (fun _ => ?_) (fun z => absurd ((lg_cmp_eq _ _).mpr (e1.trans e2.symm)) z)
  exact W.widen (Nat.le_add_right _ _) (Nat.le_add_right _ _) (KK G S H locs ⟨_, _, _, _, _, _, _, _, _, _, _, _, _, _, _, hG, hP2, hI, hM, hA.same hc0⟩ rfl rfl hW)
set_option maxHeartbeats 4000000 in
set_option maxRecDepth 100000 in
theorem lw_op_party (C : LwC p s m c b L xs) (hcl : cells + 16 ≤ 600000) (hsl : slots + 48 ≤ 7302250) {c0 t : Nat} (hI0 : Inv G S c0) (hc0 : c0 + 40 < 90000) (hW : Wd D (LwA s) s G S H locs) (hl : LwL ls G b t) (ht : 6 * t + 6 ≤ L) (hL : L ≤ 3072) (KK : ∀ (G1 : Gg) (S1 : Sg) (H1 : Heap) (locs1 : List Loc), Inv G1 S1 (c0 + 40) → gA G1 0 = gA G 0 → gA G1 65 = gA G 65 → Wd D (LwA s) s G1 S1 H1 locs1 → W p l e room_1 s m #[Value.ref b] below meth c H1 locs1 (cells + 16) (slots + 48) Q (F0 m 1043 ls [])) : W p l e room_1 s m #[Value.ref b] below meth c H locs cells slots Q (F0 m 545 ls []) := by
  have C9 := C
  obtain ⟨hx, hb, hml, hown, hts, hX, hbl⟩ := C9
  obtain ⟨h, k, nw, it, la, le, st, B, B1, B2, T, ts, lf, tl, tr, hG, hP, hI, hM, hA⟩ := hI0
  have hA0 : ∀ q, s.heap.size ≤ q → LwA s q := fun q z => z
  have hl4 : lv_has ls 4 [(3, .int (nI (6 * t))), (2, .ref (gA G 65)), (1, .ref (gA G 0)), (0, .ref b)] := hl
  have hI9 := hI
  obtain ⟨i1, i2, i3, i4, i5, i6, i7, i8, i9, i10, i11, i12, i13, i14, i15, i16⟩ := hI9
  have hk0 : h = 33 ∨ h = 41 := by omega
  have hh : PassR h := by rcases hk0 with z | z <;> simp [PassR, z]
  have h41 : h ≤ 41 := by omega
  have hA9 := hA
  obtain ⟨c9, hLe, hB, hB1, hB2, ts4, hTB, t0, t16⟩ := hA9
  have hc : c0 < 100000 := by omega
  refine lv_aload_n hx hb dL_law_545 rfl (lv_at hl4 2 rfl) ?_
  refine lw_arg C hW hl ht hL 1 (by decide) dL_law_546 dL_law_547 dL_law_548 (by decide) dL_law_549 dL_law_550 ?_
  refine lw_arg C hW hl ht hL 2 (by decide) dL_law_551 dL_law_552 dL_law_553 (by decide) dL_law_554 dL_law_555 ?_
  refine r_calll hW hA0 (va_runV (As := [.int (xs (6 * t + 1)), .int (xs (6 * t + 2))]) (rest := []) ⟨hx, hb, hml, hown, hts⟩ (t_X10_party l D G S _ hG hP h hh i3 B c0 hB hc i7 (xs (6 * t + 1)) (xs (6 * t + 2))) (cwV 2 hts gL_law_X10_party rfl rfl rfl (by decide +kernel) ⟨Nat.le_of_ble_eq_true rfl, Nat.le_of_ble_eq_true rfl⟩) (r_preV (k := 0) hA0 hW (ci := 9) (C := RX10) (T := TX10) (N := 10) rfl rfl (g_lt hG (by decide)) (g_kd hG (by decide) rfl) rfl rfl) rfl rfl hl4.1 rfl (lv_room (Nat.le_of_ble_eq_true rfl)) dL_law_556 ⟨(show cells + 0 ≤ 600000 by omega), (show slots + 0 ≤ 7302250 by omega)⟩) (fun r1 S1 H locs hp1 hW => ?_)
  obtain ⟨e1, hS1⟩ := hp1
  rw [hS1] at hW
  have hP1 := hP
  have hM9 := hM
  obtain ⟨m1, m2, m3, m4, m5, m6, m7, m8, m9⟩ := hM9
  refine lv_aload_n hx hb dL_law_559 rfl (lv_at hl4 1 rfl) ?_
  refine lw_arg C hW hl ht hL 1 (by decide) dL_law_560 dL_law_561 dL_law_562 (by decide) dL_law_563 dL_law_564 ?_
  refine lw_arg C hW hl ht hL 2 (by decide) dL_law_565 dL_law_566 dL_law_567 (by decide) dL_law_568 dL_law_569 ?_
  refine r_calll hW hA0 (va_runV (As := [.int (xs (6 * t + 1)), .int (xs (6 * t + 2))]) (rest := [.long r1]) ⟨hx, hb, hml, hown, hts⟩ (t_X11_party l D G S _ hG hP1 B c0 hB hc m5 (xs (6 * t + 1)) (xs (6 * t + 2))) (cwV 2 hts gL_law_X11_party rfl rfl rfl (by decide +kernel) ⟨Nat.le_of_ble_eq_true rfl, Nat.le_of_ble_eq_true rfl⟩) (r_preV (k := 65) hA0 hW (ci := 10) (C := RX11) (T := TX11) (N := 20) rfl rfl (g_lt hG (by decide)) (g_kd hG (by decide) rfl) rfl rfl) rfl rfl hl4.1 rfl (lv_room (Nat.le_of_ble_eq_true rfl)) dL_law_570 ⟨(show cells + 0 ≤ 600000 by omega), (show slots + 0 ≤ 7302250 by omega)⟩) (fun r2 S2 H locs hp2 hW => ?_)
  obtain ⟨e2, hS2⟩ := hp2
  rw [hS2] at hW
  have hP2 := hP
  refine W.lcmp hx hb dL_law_573 ?_
  refine lv_if_eq (tgt := 1043) hx hb dL_law_574 (by decide) (fun _ => ?_) (fun z => absurd ((lg_cmp_eq _ _).mpr (e1.trans e2.symm)) z)
  exact W.widen (Nat.le_add_right _ _) (Nat.le_add_right _ _) (KK G S H locs ⟨_, _, _, _, _, _, _, _, _, _, _, _, _, _, _, hG, hP2, hI, hM, hA.same hc0⟩ rfl rfl hW)
set_option maxHeartbeats 4000000 in
set_option maxRecDepth 100000 in
theorem lw_op_safe (C : LwC p s m c b L xs) (hcl : cells + 16 ≤ 600000) (hsl : slots + 48 ≤ 7302250) {c0 t : Nat} (hI0 : Inv G S c0) (hc0 : c0 + 40 < 90000) (hW : Wd D (LwA s) s G S H locs) (hl : LwL ls G b t) (ht : 6 * t + 6 ≤ L) (hL : L ≤ 3072) (KK : ∀ (G1 : Gg) (S1 : Sg) (H1 : Heap) (locs1 : List Loc), Inv G1 S1 (c0 + 40) → gA G1 0 = gA G 0 → gA G1 65 = gA G 65 → Wd D (LwA s) s G1 S1 H1 locs1 → W p l e room_1 s m #[Value.ref b] below meth c H1 locs1 (cells + 16) (slots + 48) Q (F0 m 1043 ls [])) : W p l e room_1 s m #[Value.ref b] below meth c H locs cells slots Q (F0 m 579 ls []) := by
  have C9 := C
  obtain ⟨hx, hb, hml, hown, hts, hX, hbl⟩ := C9
  obtain ⟨h, k, nw, it, la, le, st, B, B1, B2, T, ts, lf, tl, tr, hG, hP, hI, hM, hA⟩ := hI0
  have hA0 : ∀ q, s.heap.size ≤ q → LwA s q := fun q z => z
  have hl4 : lv_has ls 4 [(3, .int (nI (6 * t))), (2, .ref (gA G 65)), (1, .ref (gA G 0)), (0, .ref b)] := hl
  have hI9 := hI
  obtain ⟨i1, i2, i3, i4, i5, i6, i7, i8, i9, i10, i11, i12, i13, i14, i15, i16⟩ := hI9
  have hk0 : h = 33 ∨ h = 41 := by omega
  have hh : PassR h := by rcases hk0 with z | z <;> simp [PassR, z]
  have h41 : h ≤ 41 := by omega
  have hA9 := hA
  obtain ⟨c9, hLe, hB, hB1, hB2, ts4, hTB, t0, t16⟩ := hA9
  have hc : c0 < 100000 := by omega
  refine lv_aload_n hx hb dL_law_579 rfl (lv_at hl4 2 rfl) ?_
  refine lw_arg C hW hl ht hL 1 (by decide) dL_law_580 dL_law_581 dL_law_582 (by decide) dL_law_583 dL_law_584 ?_
  refine lw_arg C hW hl ht hL 2 (by decide) dL_law_585 dL_law_586 dL_law_587 (by decide) dL_law_588 dL_law_589 ?_
  refine lw_arg C hW hl ht hL 3 (by decide) dL_law_590 dL_law_591 dL_law_592 (by decide) dL_law_593 dL_law_594 ?_
  refine lw_arg C hW hl ht hL 4 (by decide) dL_law_595 dL_law_596 dL_law_597 (by decide) dL_law_598 dL_law_599 ?_
  refine r_calll hW hA0 (va_runV (As := [.int (xs (6 * t + 1)), .int (xs (6 * t + 2)), .int (xs (6 * t + 3)), .int (xs (6 * t + 4))]) (rest := []) ⟨hx, hb, hml, hown, hts⟩ (t_X10_safe l D G S _ hG hP h hh i3 B c0 hB hc i7 (xs (6 * t + 1)) (xs (6 * t + 2)) (xs (6 * t + 3)) (xs (6 * t + 4))) (cwV 4 hts gL_law_X10_safe rfl rfl rfl (by decide +kernel) ⟨Nat.le_of_ble_eq_true rfl, Nat.le_of_ble_eq_true rfl⟩) (r_preV (k := 0) hA0 hW (ci := 9) (C := RX10) (T := TX10) (N := 10) rfl rfl (g_lt hG (by decide)) (g_kd hG (by decide) rfl) rfl rfl) rfl rfl hl4.1 rfl (lv_room (Nat.le_of_ble_eq_true rfl)) dL_law_600 ⟨(show cells + 0 ≤ 600000 by omega), (show slots + 0 ≤ 7302250 by omega)⟩) (fun r1 S1 H locs hp1 hW => ?_)
  obtain ⟨e1, n1⟩ := hp1
  have hP1 := hP.of n1.1
  have hI1 := hI.wgh n1
  have hM1 := hM.ch n1 (fun j z => by omega)
  have hM9 := hM1
  obtain ⟨m1, m2, m3, m4, m5, m6, m7, m8, m9⟩ := hM9
  refine lv_aload_n hx hb dL_law_603 rfl (lv_at hl4 1 rfl) ?_
  refine lw_arg C hW hl ht hL 1 (by decide) dL_law_604 dL_law_605 dL_law_606 (by decide) dL_law_607 dL_law_608 ?_
  refine lw_arg C hW hl ht hL 2 (by decide) dL_law_609 dL_law_610 dL_law_611 (by decide) dL_law_612 dL_law_613 ?_
  refine lw_arg C hW hl ht hL 3 (by decide) dL_law_614 dL_law_615 dL_law_616 (by decide) dL_law_617 dL_law_618 ?_
  refine lw_arg C hW hl ht hL 4 (by decide) dL_law_619 dL_law_620 dL_law_621 (by decide) dL_law_622 dL_law_623 ?_
  refine r_calll hW hA0 (va_runV (As := [.int (xs (6 * t + 1)), .int (xs (6 * t + 2)), .int (xs (6 * t + 3)), .int (xs (6 * t + 4))]) (rest := [.long r1]) ⟨hx, hb, hml, hown, hts⟩ (t_X11_safe l D G S1 _ hG hP1 B c0 hB hc m5 (xs (6 * t + 1)) (xs (6 * t + 2)) (xs (6 * t + 3)) (xs (6 * t + 4))) (cwV 4 hts gL_law_X11_safe rfl rfl rfl (by decide +kernel) ⟨Nat.le_of_ble_eq_true rfl, Nat.le_of_ble_eq_true rfl⟩) (r_preV (k := 65) hA0 hW (ci := 10) (C := RX11) (T := TX11) (N := 20) rfl rfl (g_lt hG (by decide)) (g_kd hG (by decide) rfl) rfl rfl) rfl rfl hl4.1 rfl (lv_room (Nat.le_of_ble_eq_true rfl)) dL_law_624 ⟨(show cells + 0 ≤ 600000 by omega), (show slots + 0 ≤ 7302250 by omega)⟩) (fun r2 S2 H locs hp2 hW => ?_)
  obtain ⟨e2, k1⟩ := hp2
  have hP2 := hP1.of k1.1
  have hM2 := hM1.wgh k1
  have hI2 := hI1.mod k1.1 (fun j _ => by rw [k1.2.1])
  refine W.lcmp hx hb dL_law_627 ?_
  refine lv_if_eq (tgt := 1043) hx hb dL_law_628 (by decide) (fun _ => ?_) (fun z => absurd ((lg_cmp_eq _ _).mpr (e1.trans e2.symm)) z)
  exact W.widen (Nat.le_add_right _ _) (Nat.le_add_right _ _) (KK G S2 H locs ⟨_, _, _, _, _, _, _, _, _, _, _, _, _, _, _, hG, hP2, hI2, hM2, hA.same hc0⟩ rfl rfl hW)
set_option maxHeartbeats 4000000 in
set_option maxRecDepth 100000 in
theorem lw_op_stock (C : LwC p s m c b L xs) (hcl : cells + 16 ≤ 600000) (hsl : slots + 48 ≤ 7302250) {c0 t : Nat} (hI0 : Inv G S c0) (hc0 : c0 + 40 < 90000) (hW : Wd D (LwA s) s G S H locs) (hl : LwL ls G b t) (ht : 6 * t + 6 ≤ L) (hL : L ≤ 3072) (KK : ∀ (G1 : Gg) (S1 : Sg) (H1 : Heap) (locs1 : List Loc), Inv G1 S1 (c0 + 40) → gA G1 0 = gA G 0 → gA G1 65 = gA G 65 → Wd D (LwA s) s G1 S1 H1 locs1 → W p l e room_1 s m #[Value.ref b] below meth c H1 locs1 (cells + 16) (slots + 48) Q (F0 m 1043 ls [])) : W p l e room_1 s m #[Value.ref b] below meth c H locs cells slots Q (F0 m 633 ls []) := by
  have C9 := C
  obtain ⟨hx, hb, hml, hown, hts, hX, hbl⟩ := C9
  obtain ⟨h, k, nw, it, la, le, st, B, B1, B2, T, ts, lf, tl, tr, hG, hP, hI, hM, hA⟩ := hI0
  have hA0 : ∀ q, s.heap.size ≤ q → LwA s q := fun q z => z
  have hl4 : lv_has ls 4 [(3, .int (nI (6 * t))), (2, .ref (gA G 65)), (1, .ref (gA G 0)), (0, .ref b)] := hl
  have hI9 := hI
  obtain ⟨i1, i2, i3, i4, i5, i6, i7, i8, i9, i10, i11, i12, i13, i14, i15, i16⟩ := hI9
  have hk0 : h = 33 ∨ h = 41 := by omega
  have hh : PassR h := by rcases hk0 with z | z <;> simp [PassR, z]
  have h41 : h ≤ 41 := by omega
  have hA9 := hA
  obtain ⟨c9, hLe, hB, hB1, hB2, ts4, hTB, t0, t16⟩ := hA9
  have hc : c0 < 100000 := by omega
  refine lv_aload_n hx hb dL_law_633 rfl (lv_at hl4 2 rfl) ?_
  refine lw_arg C hW hl ht hL 1 (by decide) dL_law_634 dL_law_635 dL_law_636 (by decide) dL_law_637 dL_law_638 ?_
  refine lw_arg C hW hl ht hL 2 (by decide) dL_law_639 dL_law_640 dL_law_641 (by decide) dL_law_642 dL_law_643 ?_
  refine lw_arg C hW hl ht hL 3 (by decide) dL_law_644 dL_law_645 dL_law_646 (by decide) dL_law_647 dL_law_648 ?_
  refine r_calll hW hA0 (va_runV (As := [.int (xs (6 * t + 1)), .int (xs (6 * t + 2)), .int (xs (6 * t + 3))]) (rest := []) ⟨hx, hb, hml, hown, hts⟩ (t_X10_stock l D G S _ hG hP h hh i3 B c0 hB hc i7 (xs (6 * t + 1)) (xs (6 * t + 2)) (xs (6 * t + 3))) (cwV 3 hts gL_law_X10_stock rfl rfl rfl (by decide +kernel) ⟨Nat.le_of_ble_eq_true rfl, Nat.le_of_ble_eq_true rfl⟩) (r_preV (k := 0) hA0 hW (ci := 9) (C := RX10) (T := TX10) (N := 10) rfl rfl (g_lt hG (by decide)) (g_kd hG (by decide) rfl) rfl rfl) rfl rfl hl4.1 rfl (lv_room (Nat.le_of_ble_eq_true rfl)) dL_law_649 ⟨(show cells + 0 ≤ 600000 by omega), (show slots + 0 ≤ 7302250 by omega)⟩) (fun r1 S1 H locs hp1 hW => ?_)
  obtain ⟨e1, n1⟩ := hp1
  have hP1 := hP.of n1.1
  have hI1 := hI.wgh n1
  have hM1 := hM.ch n1 (fun j z => by omega)
  have hM9 := hM1
  obtain ⟨m1, m2, m3, m4, m5, m6, m7, m8, m9⟩ := hM9
  refine lv_aload_n hx hb dL_law_652 rfl (lv_at hl4 1 rfl) ?_
  refine lw_arg C hW hl ht hL 1 (by decide) dL_law_653 dL_law_654 dL_law_655 (by decide) dL_law_656 dL_law_657 ?_
  refine lw_arg C hW hl ht hL 2 (by decide) dL_law_658 dL_law_659 dL_law_660 (by decide) dL_law_661 dL_law_662 ?_
  refine lw_arg C hW hl ht hL 3 (by decide) dL_law_663 dL_law_664 dL_law_665 (by decide) dL_law_666 dL_law_667 ?_
  refine r_calll hW hA0 (va_runV (As := [.int (xs (6 * t + 1)), .int (xs (6 * t + 2)), .int (xs (6 * t + 3))]) (rest := [.long r1]) ⟨hx, hb, hml, hown, hts⟩ (t_X11_stock l D G S1 _ hG hP1 B c0 hB hc m5 (xs (6 * t + 1)) (xs (6 * t + 2)) (xs (6 * t + 3))) (cwV 3 hts gL_law_X11_stock rfl rfl rfl (by decide +kernel) ⟨Nat.le_of_ble_eq_true rfl, Nat.le_of_ble_eq_true rfl⟩) (r_preV (k := 65) hA0 hW (ci := 10) (C := RX11) (T := TX11) (N := 20) rfl rfl (g_lt hG (by decide)) (g_kd hG (by decide) rfl) rfl rfl) rfl rfl hl4.1 rfl (lv_room (Nat.le_of_ble_eq_true rfl)) dL_law_668 ⟨(show cells + 0 ≤ 600000 by omega), (show slots + 0 ≤ 7302250 by omega)⟩) (fun r2 S2 H locs hp2 hW => ?_)
  obtain ⟨e2, k1⟩ := hp2
  have hP2 := hP1.of k1.1
  have hM2 := hM1.wgh k1
  have hI2 := hI1.mod k1.1 (fun j _ => by rw [k1.2.1])
  refine W.lcmp hx hb dL_law_671 ?_
  refine lv_if_eq (tgt := 1043) hx hb dL_law_672 (by decide) (fun _ => ?_) (fun z => absurd ((lg_cmp_eq _ _).mpr (e1.trans e2.symm)) z)
  exact W.widen (Nat.le_add_right _ _) (Nat.le_add_right _ _) (KK G S2 H locs ⟨_, _, _, _, _, _, _, _, _, _, _, _, _, _, _, hG, hP2, hI2, hM2, hA.same hc0⟩ rfl rfl hW)
set_option maxHeartbeats 4000000 in
set_option maxRecDepth 100000 in
theorem lw_op_send (C : LwC p s m c b L xs) (hcl : cells + 16 ≤ 600000) (hsl : slots + 48 ≤ 7302250) {c0 t : Nat} (hI0 : Inv G S c0) (hc0 : c0 + 40 < 90000) (hW : Wd D (LwA s) s G S H locs) (hl : LwL ls G b t) (ht : 6 * t + 6 ≤ L) (hL : L ≤ 3072) (KK : ∀ (G1 : Gg) (S1 : Sg) (H1 : Heap) (locs1 : List Loc), Inv G1 S1 (c0 + 40) → gA G1 0 = gA G 0 → gA G1 65 = gA G 65 → Wd D (LwA s) s G1 S1 H1 locs1 → W p l e room_1 s m #[Value.ref b] below meth c H1 locs1 (cells + 16) (slots + 48) Q (F0 m 1043 ls [])) : W p l e room_1 s m #[Value.ref b] below meth c H locs cells slots Q (F0 m 677 ls []) := by
  have C9 := C
  obtain ⟨hx, hb, hml, hown, hts, hX, hbl⟩ := C9
  obtain ⟨h, k, nw, it, la, le, st, B, B1, B2, T, ts, lf, tl, tr, hG, hP, hI, hM, hA⟩ := hI0
  have hA0 : ∀ q, s.heap.size ≤ q → LwA s q := fun q z => z
  have hl4 : lv_has ls 4 [(3, .int (nI (6 * t))), (2, .ref (gA G 65)), (1, .ref (gA G 0)), (0, .ref b)] := hl
  have hI9 := hI
  obtain ⟨i1, i2, i3, i4, i5, i6, i7, i8, i9, i10, i11, i12, i13, i14, i15, i16⟩ := hI9
  have hk0 : h = 33 ∨ h = 41 := by omega
  have hh : PassR h := by rcases hk0 with z | z <;> simp [PassR, z]
  have h41 : h ≤ 41 := by omega
  have hA9 := hA
  obtain ⟨c9, hLe, hB, hB1, hB2, ts4, hTB, t0, t16⟩ := hA9
  have hc : c0 < 100000 := by omega
  refine lv_aload_n hx hb dL_law_677 rfl (lv_at hl4 2 rfl) ?_
  refine lw_arg C hW hl ht hL 1 (by decide) dL_law_678 dL_law_679 dL_law_680 (by decide) dL_law_681 dL_law_682 ?_
  refine lw_arg C hW hl ht hL 2 (by decide) dL_law_683 dL_law_684 dL_law_685 (by decide) dL_law_686 dL_law_687 ?_
  refine r_calll hW hA0 (va_runV (As := [.int (xs (6 * t + 1)), .int (xs (6 * t + 2))]) (rest := []) ⟨hx, hb, hml, hown, hts⟩ (t_X10_send l D G S _ hG hP h hh i3 B c0 hB hc i7 nw i2 i5 i6 (xs (6 * t + 1)) (xs (6 * t + 2))) (cwV 2 hts gL_law_X10_send rfl rfl rfl (by decide +kernel) ⟨Nat.le_of_ble_eq_true rfl, Nat.le_of_ble_eq_true rfl⟩) (r_preV (k := 0) hA0 hW (ci := 9) (C := RX10) (T := TX10) (N := 10) rfl rfl (g_lt hG (by decide)) (g_kd hG (by decide) rfl) rfl rfl) rfl rfl hl4.1 rfl (lv_room (Nat.le_of_ble_eq_true rfl)) dL_law_688 ⟨(show cells + 0 ≤ 600000 by omega), (show slots + 0 ≤ 7302250 by omega)⟩) (fun r1 S1 H locs hp1 hW => ?_)
  obtain ⟨e1, n1⟩ := hp1
  have hP1 := hP.send n1
  obtain ⟨nw2, hI1⟩ := hI.send n1
  have hM1 := hM.cls (fun j z => n1.1 j (by omega))
  have hM9 := hM1
  obtain ⟨m1, m2, m3, m4, m5, m6, m7, m8, m9⟩ := hM9
  refine lv_aload_n hx hb dL_law_691 rfl (lv_at hl4 1 rfl) ?_
  refine lw_arg C hW hl ht hL 1 (by decide) dL_law_692 dL_law_693 dL_law_694 (by decide) dL_law_695 dL_law_696 ?_
  refine lw_arg C hW hl ht hL 2 (by decide) dL_law_697 dL_law_698 dL_law_699 (by decide) dL_law_700 dL_law_701 ?_
  refine r_calll hW hA0 (va_runV (As := [.int (xs (6 * t + 1)), .int (xs (6 * t + 2))]) (rest := [.long r1]) ⟨hx, hb, hml, hown, hts⟩ (t_X11_send l D G S1 _ hG hP1 B c0 hB hc m5 (xs (6 * t + 1)) (xs (6 * t + 2))) (cwV 2 hts gL_law_X11_send rfl rfl rfl (by decide +kernel) ⟨Nat.le_of_ble_eq_true rfl, Nat.le_of_ble_eq_true rfl⟩) (r_preV (k := 65) hA0 hW (ci := 10) (C := RX11) (T := TX11) (N := 20) rfl rfl (g_lt hG (by decide)) (g_kd hG (by decide) rfl) rfl rfl) rfl rfl hl4.1 rfl (lv_room (Nat.le_of_ble_eq_true rfl)) dL_law_702 ⟨(show cells + 0 ≤ 600000 by omega), (show slots + 0 ≤ 7302250 by omega)⟩) (fun r2 S2 H locs hp2 hW => ?_)
  obtain ⟨e2, k1⟩ := hp2
  have hP2 := hP1.of k1.1
  have hM2 := hM1.wgh k1
  have hI2 := hI1.mod k1.1 (fun j _ => by rw [k1.2.1])
  refine W.lcmp hx hb dL_law_705 ?_
  refine lv_if_eq (tgt := 1043) hx hb dL_law_706 (by decide) (fun _ => ?_) (fun z => absurd ((lg_cmp_eq _ _).mpr (e1.trans e2.symm)) z)
  exact W.widen (Nat.le_add_right _ _) (Nat.le_add_right _ _) (KK G S2 H locs ⟨_, _, _, _, _, _, _, _, _, _, _, _, _, _, _, hG, hP2, hI2, hM2, hA.same hc0⟩ rfl rfl hW)
set_option maxHeartbeats 4000000 in
set_option maxRecDepth 100000 in
theorem lw_op_broke (C : LwC p s m c b L xs) (hcl : cells + 16 ≤ 600000) (hsl : slots + 48 ≤ 7302250) {c0 t : Nat} (hI0 : Inv G S c0) (hc0 : c0 + 40 < 90000) (hW : Wd D (LwA s) s G S H locs) (hl : LwL ls G b t) (ht : 6 * t + 6 ≤ L) (hL : L ≤ 3072) (KK : ∀ (G1 : Gg) (S1 : Sg) (H1 : Heap) (locs1 : List Loc), Inv G1 S1 (c0 + 40) → gA G1 0 = gA G 0 → gA G1 65 = gA G 65 → Wd D (LwA s) s G1 S1 H1 locs1 → W p l e room_1 s m #[Value.ref b] below meth c H1 locs1 (cells + 16) (slots + 48) Q (F0 m 1043 ls [])) : W p l e room_1 s m #[Value.ref b] below meth c H locs cells slots Q (F0 m 711 ls []) := by
  have C9 := C
  obtain ⟨hx, hb, hml, hown, hts, hX, hbl⟩ := C9
  obtain ⟨h, k, nw, it, la, le, st, B, B1, B2, T, ts, lf, tl, tr, hG, hP, hI, hM, hA⟩ := hI0
  have hA0 : ∀ q, s.heap.size ≤ q → LwA s q := fun q z => z
  have hl4 : lv_has ls 4 [(3, .int (nI (6 * t))), (2, .ref (gA G 65)), (1, .ref (gA G 0)), (0, .ref b)] := hl
  have hI9 := hI
  obtain ⟨i1, i2, i3, i4, i5, i6, i7, i8, i9, i10, i11, i12, i13, i14, i15, i16⟩ := hI9
  have hk0 : h = 33 ∨ h = 41 := by omega
  have hh : PassR h := by rcases hk0 with z | z <;> simp [PassR, z]
  have h41 : h ≤ 41 := by omega
  have hA9 := hA
  obtain ⟨c9, hLe, hB, hB1, hB2, ts4, hTB, t0, t16⟩ := hA9
  have hc : c0 < 100000 := by omega
  refine lv_aload_n hx hb dL_law_711 rfl (lv_at hl4 2 rfl) ?_
  refine lw_arg C hW hl ht hL 1 (by decide) dL_law_712 dL_law_713 dL_law_714 (by decide) dL_law_715 dL_law_716 ?_
  refine lw_arg C hW hl ht hL 2 (by decide) dL_law_717 dL_law_718 dL_law_719 (by decide) dL_law_720 dL_law_721 ?_
  refine lw_arg C hW hl ht hL 3 (by decide) dL_law_722 dL_law_723 dL_law_724 (by decide) dL_law_725 dL_law_726 ?_
  refine r_calll hW hA0 (va_runV (As := [.int (xs (6 * t + 1)), .int (xs (6 * t + 2)), .int (xs (6 * t + 3))]) (rest := []) ⟨hx, hb, hml, hown, hts⟩ (t_X10_broke l D G S _ hG hP h hh i3 B c0 hB hc i7 it la le i11 hLe st i12 (xs (6 * t + 1)) (xs (6 * t + 2)) (xs (6 * t + 3))) (cwV 3 hts gL_law_X10_broke rfl rfl rfl (by decide +kernel) ⟨Nat.le_of_ble_eq_true rfl, Nat.le_of_ble_eq_true rfl⟩) (r_preV (k := 0) hA0 hW (ci := 9) (C := RX10) (T := TX10) (N := 10) rfl rfl (g_lt hG (by decide)) (g_kd hG (by decide) rfl) rfl rfl) rfl rfl hl4.1 rfl (lv_room (Nat.le_of_ble_eq_true rfl)) dL_law_727 ⟨(show cells + 0 ≤ 600000 by omega), (show slots + 0 ≤ 7302250 by omega)⟩) (fun r1 S1 H locs hp1 hW => ?_)
  obtain ⟨e1, n2, n3⟩ := hp1
  have hP1 := hP.of n3.1
  have hI1 := hI.stt n2 n3
  have hM1 := hM.ch n3 (fun j z => by omega)
  have hM9 := hM1
  obtain ⟨m1, m2, m3, m4, m5, m6, m7, m8, m9⟩ := hM9
  refine lv_aload_n hx hb dL_law_730 rfl (lv_at hl4 1 rfl) ?_
  refine lw_arg C hW hl ht hL 1 (by decide) dL_law_731 dL_law_732 dL_law_733 (by decide) dL_law_734 dL_law_735 ?_
  refine lw_arg C hW hl ht hL 2 (by decide) dL_law_736 dL_law_737 dL_law_738 (by decide) dL_law_739 dL_law_740 ?_
  refine lw_arg C hW hl ht hL 3 (by decide) dL_law_741 dL_law_742 dL_law_743 (by decide) dL_law_744 dL_law_745 ?_
  refine r_calll hW hA0 (va_runV (As := [.int (xs (6 * t + 1)), .int (xs (6 * t + 2)), .int (xs (6 * t + 3))]) (rest := [.long r1]) ⟨hx, hb, hml, hown, hts⟩ (t_X11_broke_s l D G S1 _ hG hP1 B c0 hB hc m5 it la le m1 hLe st m2 (xs (6 * t + 1)) (xs (6 * t + 2)) (xs (6 * t + 3))) (cwV 3 hts gL_law_X11_broke rfl rfl rfl (by decide +kernel) ⟨Nat.le_of_ble_eq_true rfl, Nat.le_of_ble_eq_true rfl⟩) (r_preV (k := 65) hA0 hW (ci := 10) (C := RX11) (T := TX11) (N := 20) rfl rfl (g_lt hG (by decide)) (g_kd hG (by decide) rfl) rfl rfl) rfl rfl hl4.1 rfl (lv_room (Nat.le_of_ble_eq_true rfl)) dL_law_746 ⟨(show cells + 0 ≤ 600000 by omega), (show slots + 0 ≤ 7302250 by omega)⟩) (fun r2 S2 H locs hp2 hW => ?_)
  obtain ⟨⟨e2, k1, k2⟩, k3⟩ := hp2
  have hP2 := hP1.of k2.1
  have hM2 := hM1.stt k1 k3 k2
  have hI2 := hI1.mod k2.1 (fun j z => (k2.2 j (by omega)).1)
  refine W.lcmp hx hb dL_law_749 ?_
  refine lv_if_eq (tgt := 1043) hx hb dL_law_750 (by decide) (fun _ => ?_) (fun z => absurd ((lg_cmp_eq _ _).mpr (e1.trans e2.symm)) z)
  exact W.widen (Nat.le_add_right _ _) (Nat.le_add_right _ _) (KK G S2 H locs ⟨_, _, _, _, _, _, _, _, _, _, _, _, _, _, _, hG, hP2, hI2, hM2, hA.same hc0⟩ rfl rfl hW)
set_option maxHeartbeats 4000000 in
set_option maxRecDepth 100000 in
theorem lw_op_lies (C : LwC p s m c b L xs) (hcl : cells + 16 ≤ 600000) (hsl : slots + 48 ≤ 7302250) {c0 t : Nat} (hI0 : Inv G S c0) (hc0 : c0 + 40 < 90000) (hW : Wd D (LwA s) s G S H locs) (hl : LwL ls G b t) (ht : 6 * t + 6 ≤ L) (hL : L ≤ 3072) (KK : ∀ (G1 : Gg) (S1 : Sg) (H1 : Heap) (locs1 : List Loc), Inv G1 S1 (c0 + 40) → gA G1 0 = gA G 0 → gA G1 65 = gA G 65 → Wd D (LwA s) s G1 S1 H1 locs1 → W p l e room_1 s m #[Value.ref b] below meth c H1 locs1 (cells + 16) (slots + 48) Q (F0 m 1043 ls [])) : W p l e room_1 s m #[Value.ref b] below meth c H locs cells slots Q (F0 m 755 ls []) := by
  have C9 := C
  obtain ⟨hx, hb, hml, hown, hts, hX, hbl⟩ := C9
  obtain ⟨h, k, nw, it, la, le, st, B, B1, B2, T, ts, lf, tl, tr, hG, hP, hI, hM, hA⟩ := hI0
  have hA0 : ∀ q, s.heap.size ≤ q → LwA s q := fun q z => z
  have hl4 : lv_has ls 4 [(3, .int (nI (6 * t))), (2, .ref (gA G 65)), (1, .ref (gA G 0)), (0, .ref b)] := hl
  have hI9 := hI
  obtain ⟨i1, i2, i3, i4, i5, i6, i7, i8, i9, i10, i11, i12, i13, i14, i15, i16⟩ := hI9
  have hk0 : h = 33 ∨ h = 41 := by omega
  have hh : PassR h := by rcases hk0 with z | z <;> simp [PassR, z]
  have h41 : h ≤ 41 := by omega
  have hA9 := hA
  obtain ⟨c9, hLe, hB, hB1, hB2, ts4, hTB, t0, t16⟩ := hA9
  have hc : c0 < 100000 := by omega
  refine lv_aload_n hx hb dL_law_755 rfl (lv_at hl4 2 rfl) ?_
  refine lw_arg C hW hl ht hL 1 (by decide) dL_law_756 dL_law_757 dL_law_758 (by decide) dL_law_759 dL_law_760 ?_
  refine lw_arg C hW hl ht hL 2 (by decide) dL_law_761 dL_law_762 dL_law_763 (by decide) dL_law_764 dL_law_765 ?_
  refine lw_arg C hW hl ht hL 3 (by decide) dL_law_766 dL_law_767 dL_law_768 (by decide) dL_law_769 dL_law_770 ?_
  refine r_calll hW hA0 (va_runV (As := [.int (xs (6 * t + 1)), .int (xs (6 * t + 2)), .int (xs (6 * t + 3))]) (rest := []) ⟨hx, hb, hml, hown, hts⟩ (t_X10_lies l D G S _ hG hP it la le i11 hLe st i12 (xs (6 * t + 1)) (xs (6 * t + 2)) (xs (6 * t + 3))) (cwV 3 hts gL_law_X10_lies rfl rfl rfl (by decide +kernel) ⟨Nat.le_of_ble_eq_true rfl, Nat.le_of_ble_eq_true rfl⟩) (r_preV (k := 0) hA0 hW (ci := 9) (C := RX10) (T := TX10) (N := 10) rfl rfl (g_lt hG (by decide)) (g_kd hG (by decide) rfl) rfl rfl) rfl rfl hl4.1 rfl (lv_room (Nat.le_of_ble_eq_true rfl)) dL_law_771 ⟨(show cells + 0 ≤ 600000 by omega), (show slots + 0 ≤ 7302250 by omega)⟩) (fun r1 S1 H locs hp1 hW => ?_)
  obtain ⟨e1, n2, n3⟩ := hp1
  have hP1 := hP.of n3.1
  have hI1 := hI.stt n2 n3
  have hM1 := hM.ch n3 (fun j z => by omega)
  have hM9 := hM1
  obtain ⟨m1, m2, m3, m4, m5, m6, m7, m8, m9⟩ := hM9
  refine lv_aload_n hx hb dL_law_774 rfl (lv_at hl4 1 rfl) ?_
  refine lw_arg C hW hl ht hL 1 (by decide) dL_law_775 dL_law_776 dL_law_777 (by decide) dL_law_778 dL_law_779 ?_
  refine lw_arg C hW hl ht hL 2 (by decide) dL_law_780 dL_law_781 dL_law_782 (by decide) dL_law_783 dL_law_784 ?_
  refine lw_arg C hW hl ht hL 3 (by decide) dL_law_785 dL_law_786 dL_law_787 (by decide) dL_law_788 dL_law_789 ?_
  refine r_calll hW hA0 (va_runV (As := [.int (xs (6 * t + 1)), .int (xs (6 * t + 2)), .int (xs (6 * t + 3))]) (rest := [.long r1]) ⟨hx, hb, hml, hown, hts⟩ (t_X11_lies_s l D G S1 _ hG hP1 it la le m1 hLe st m2 (xs (6 * t + 1)) (xs (6 * t + 2)) (xs (6 * t + 3))) (cwV 3 hts gL_law_X11_lies rfl rfl rfl (by decide +kernel) ⟨Nat.le_of_ble_eq_true rfl, Nat.le_of_ble_eq_true rfl⟩) (r_preV (k := 65) hA0 hW (ci := 10) (C := RX11) (T := TX11) (N := 20) rfl rfl (g_lt hG (by decide)) (g_kd hG (by decide) rfl) rfl rfl) rfl rfl hl4.1 rfl (lv_room (Nat.le_of_ble_eq_true rfl)) dL_law_790 ⟨(show cells + 0 ≤ 600000 by omega), (show slots + 0 ≤ 7302250 by omega)⟩) (fun r2 S2 H locs hp2 hW => ?_)
  obtain ⟨⟨e2, k1, k2⟩, k3⟩ := hp2
  have hP2 := hP1.of k2.1
  have hM2 := hM1.stt k1 k3 k2
  have hI2 := hI1.mod k2.1 (fun j z => (k2.2 j (by omega)).1)
  refine W.lcmp hx hb dL_law_793 ?_
  refine lv_if_eq (tgt := 1043) hx hb dL_law_794 (by decide) (fun _ => ?_) (fun z => absurd ((lg_cmp_eq _ _).mpr (e1.trans e2.symm)) z)
  exact W.widen (Nat.le_add_right _ _) (Nat.le_add_right _ _) (KK G S2 H locs ⟨_, _, _, _, _, _, _, _, _, _, _, _, _, _, _, hG, hP2, hI2, hM2, hA.same hc0⟩ rfl rfl hW)
set_option maxHeartbeats 4000000 in
set_option maxRecDepth 100000 in
theorem lw_op_carry (C : LwC p s m c b L xs) (hcl : cells + 16 ≤ 600000) (hsl : slots + 48 ≤ 7302250) {c0 t : Nat} (hI0 : Inv G S c0) (hc0 : c0 + 40 < 90000) (hW : Wd D (LwA s) s G S H locs) (hl : LwL ls G b t) (ht : 6 * t + 6 ≤ L) (hL : L ≤ 3072) (KK : ∀ (G1 : Gg) (S1 : Sg) (H1 : Heap) (locs1 : List Loc), Inv G1 S1 (c0 + 40) → gA G1 0 = gA G 0 → gA G1 65 = gA G 65 → Wd D (LwA s) s G1 S1 H1 locs1 → W p l e room_1 s m #[Value.ref b] below meth c H1 locs1 (cells + 16) (slots + 48) Q (F0 m 1043 ls [])) : W p l e room_1 s m #[Value.ref b] below meth c H locs cells slots Q (F0 m 799 ls []) := by
  have C9 := C
  obtain ⟨hx, hb, hml, hown, hts, hX, hbl⟩ := C9
  obtain ⟨h, k, nw, it, la, le, st, B, B1, B2, T, ts, lf, tl, tr, hG, hP, hI, hM, hA⟩ := hI0
  have hA0 : ∀ q, s.heap.size ≤ q → LwA s q := fun q z => z
  have hl4 : lv_has ls 4 [(3, .int (nI (6 * t))), (2, .ref (gA G 65)), (1, .ref (gA G 0)), (0, .ref b)] := hl
  have hI9 := hI
  obtain ⟨i1, i2, i3, i4, i5, i6, i7, i8, i9, i10, i11, i12, i13, i14, i15, i16⟩ := hI9
  have hk0 : h = 33 ∨ h = 41 := by omega
  have hh : PassR h := by rcases hk0 with z | z <;> simp [PassR, z]
  have h41 : h ≤ 41 := by omega
  have hA9 := hA
  obtain ⟨c9, hLe, hB, hB1, hB2, ts4, hTB, t0, t16⟩ := hA9
  have hc : c0 < 100000 := by omega
  refine lv_aload_n hx hb dL_law_799 rfl (lv_at hl4 2 rfl) ?_
  refine lw_arg C hW hl ht hL 1 (by decide) dL_law_800 dL_law_801 dL_law_802 (by decide) dL_law_803 dL_law_804 ?_
  refine lw_arg C hW hl ht hL 2 (by decide) dL_law_805 dL_law_806 dL_law_807 (by decide) dL_law_808 dL_law_809 ?_
  refine lw_arg C hW hl ht hL 3 (by decide) dL_law_810 dL_law_811 dL_law_812 (by decide) dL_law_813 dL_law_814 ?_
  refine r_calll hW hA0 (va_runV (As := [.int (xs (6 * t + 1)), .int (xs (6 * t + 2)), .int (xs (6 * t + 3))]) (rest := []) ⟨hx, hb, hml, hown, hts⟩ (t_X10_carry l D G S _ hG hP h hh i3 B c0 hB hc i7 (xs (6 * t + 1)) (xs (6 * t + 2)) (xs (6 * t + 3))) (cwV 3 hts gL_law_X10_carry rfl rfl rfl (by decide +kernel) ⟨Nat.le_of_ble_eq_true rfl, Nat.le_of_ble_eq_true rfl⟩) (r_preV (k := 0) hA0 hW (ci := 9) (C := RX10) (T := TX10) (N := 10) rfl rfl (g_lt hG (by decide)) (g_kd hG (by decide) rfl) rfl rfl) rfl rfl hl4.1 rfl (lv_room (Nat.le_of_ble_eq_true rfl)) dL_law_815 ⟨(show cells + 0 ≤ 600000 by omega), (show slots + 0 ≤ 7302250 by omega)⟩) (fun r1 S1 H locs hp1 hW => ?_)
  obtain ⟨e1, n1⟩ := hp1
  have hP1 := hP.of n1.1
  have hI1 := hI.wgh n1
  have hM1 := hM.ch n1 (fun j z => by omega)
  have hM9 := hM1
  obtain ⟨m1, m2, m3, m4, m5, m6, m7, m8, m9⟩ := hM9
  refine lv_aload_n hx hb dL_law_818 rfl (lv_at hl4 1 rfl) ?_
  refine lw_arg C hW hl ht hL 1 (by decide) dL_law_819 dL_law_820 dL_law_821 (by decide) dL_law_822 dL_law_823 ?_
  refine lw_arg C hW hl ht hL 2 (by decide) dL_law_824 dL_law_825 dL_law_826 (by decide) dL_law_827 dL_law_828 ?_
  refine lw_arg C hW hl ht hL 3 (by decide) dL_law_829 dL_law_830 dL_law_831 (by decide) dL_law_832 dL_law_833 ?_
  refine r_calll hW hA0 (va_runV (As := [.int (xs (6 * t + 1)), .int (xs (6 * t + 2)), .int (xs (6 * t + 3))]) (rest := [.long r1]) ⟨hx, hb, hml, hown, hts⟩ (t_X11_carry l D G S1 _ hG hP1 B c0 hB hc m5 (xs (6 * t + 1)) (xs (6 * t + 2)) (xs (6 * t + 3))) (cwV 3 hts gL_law_X11_carry rfl rfl rfl (by decide +kernel) ⟨Nat.le_of_ble_eq_true rfl, Nat.le_of_ble_eq_true rfl⟩) (r_preV (k := 65) hA0 hW (ci := 10) (C := RX11) (T := TX11) (N := 20) rfl rfl (g_lt hG (by decide)) (g_kd hG (by decide) rfl) rfl rfl) rfl rfl hl4.1 rfl (lv_room (Nat.le_of_ble_eq_true rfl)) dL_law_834 ⟨(show cells + 0 ≤ 600000 by omega), (show slots + 0 ≤ 7302250 by omega)⟩) (fun r2 S2 H locs hp2 hW => ?_)
  obtain ⟨e2, k1⟩ := hp2
  have hP2 := hP1.of k1.1
  have hM2 := hM1.wgh k1
  have hI2 := hI1.mod k1.1 (fun j _ => by rw [k1.2.1])
  refine W.lcmp hx hb dL_law_837 ?_
  refine lv_if_eq (tgt := 1043) hx hb dL_law_838 (by decide) (fun _ => ?_) (fun z => absurd ((lg_cmp_eq _ _).mpr (e1.trans e2.symm)) z)
  exact W.widen (Nat.le_add_right _ _) (Nat.le_add_right _ _) (KK G S2 H locs ⟨_, _, _, _, _, _, _, _, _, _, _, _, _, _, _, hG, hP2, hI2, hM2, hA.same hc0⟩ rfl rfl hW)
set_option maxHeartbeats 4000000 in
set_option maxRecDepth 100000 in
theorem lw_op_image (C : LwC p s m c b L xs) (hcl : cells + 16 ≤ 600000) (hsl : slots + 48 ≤ 7302250) {c0 t : Nat} (hI0 : Inv G S c0) (hc0 : c0 + 40 < 90000) (hW : Wd D (LwA s) s G S H locs) (hl : LwL ls G b t) (ht : 6 * t + 6 ≤ L) (hL : L ≤ 3072) (KK : ∀ (G1 : Gg) (S1 : Sg) (H1 : Heap) (locs1 : List Loc), Inv G1 S1 (c0 + 40) → gA G1 0 = gA G 0 → gA G1 65 = gA G 65 → Wd D (LwA s) s G1 S1 H1 locs1 → W p l e room_1 s m #[Value.ref b] below meth c H1 locs1 (cells + 16) (slots + 48) Q (F0 m 1043 ls [])) : W p l e room_1 s m #[Value.ref b] below meth c H locs cells slots Q (F0 m 843 ls []) := by
  have C9 := C
  obtain ⟨hx, hb, hml, hown, hts, hX, hbl⟩ := C9
  obtain ⟨h, k, nw, it, la, le, st, B, B1, B2, T, ts, lf, tl, tr, hG, hP, hI, hM, hA⟩ := hI0
  have hA0 : ∀ q, s.heap.size ≤ q → LwA s q := fun q z => z
  have hl4 : lv_has ls 4 [(3, .int (nI (6 * t))), (2, .ref (gA G 65)), (1, .ref (gA G 0)), (0, .ref b)] := hl
  have hI9 := hI
  obtain ⟨i1, i2, i3, i4, i5, i6, i7, i8, i9, i10, i11, i12, i13, i14, i15, i16⟩ := hI9
  have hk0 : h = 33 ∨ h = 41 := by omega
  have hh : PassR h := by rcases hk0 with z | z <;> simp [PassR, z]
  have h41 : h ≤ 41 := by omega
  have hA9 := hA
  obtain ⟨c9, hLe, hB, hB1, hB2, ts4, hTB, t0, t16⟩ := hA9
  have hc : c0 < 100000 := by omega
  refine lv_aload_n hx hb dL_law_843 rfl (lv_at hl4 2 rfl) ?_
  refine lw_arg C hW hl ht hL 1 (by decide) dL_law_844 dL_law_845 dL_law_846 (by decide) dL_law_847 dL_law_848 ?_
  refine r_calll hW hA0 (va_runV (As := [.int (xs (6 * t + 1))]) (rest := []) ⟨hx, hb, hml, hown, hts⟩ (t_X10_image_s l D G S _ hG hP h hh i3 B c0 hB hc i7 h41 (xs (6 * t + 1))) (cwV 1 hts gL_law_X10_image rfl rfl rfl (by decide +kernel) ⟨Nat.le_of_ble_eq_true rfl, Nat.le_of_ble_eq_true rfl⟩) (r_preV (k := 0) hA0 hW (ci := 9) (C := RX10) (T := TX10) (N := 10) rfl rfl (g_lt hG (by decide)) (g_kd hG (by decide) rfl) rfl rfl) rfl rfl hl4.1 rfl (lv_room (Nat.le_of_ble_eq_true rfl)) dL_law_849 ⟨(show cells + 0 ≤ 600000 by omega), (show slots + 0 ≤ 7302250 by omega)⟩) (fun r1 S1 H locs hp1 hW => ?_)
  obtain ⟨⟨e1, n1⟩, n5⟩ := hp1
  rcases n1 with ⟨f1, n1, n2⟩ | ⟨f1, hS1⟩
  · rcases img_01 f1 with z0 | z0
    · rw [z0] at n1 n2
      have n1 : RP G S1 49 B := n1
      have n2 : Ch3 (fun j => 49 ≤ j ∧ j ≤ 49 + 7) S S1 := n2
      have hP1 := hP.of2 (fun j _ _ c d => n5 j c d)
      have hI1 := hI.image1 n1 n2
      have hM1 := hM.cls (fun j z => ⟨(n2 j (by omega)).1, (n2 j (by omega)).2.1⟩)
      have hM9 := hM1
      obtain ⟨m1, m2, m3, m4, m5, m6, m7, m8, m9⟩ := hM9
      refine lv_aload_n hx hb dL_law_852 rfl (lv_at hl4 1 rfl) ?_
      refine lw_arg C hW hl ht hL 1 (by decide) dL_law_853 dL_law_854 dL_law_855 (by decide) dL_law_856 dL_law_857 ?_
      refine r_calll hW hA0 (va_runV (As := [.int (xs (6 * t + 1))]) (rest := [.long r1]) ⟨hx, hb, hml, hown, hts⟩ (t_X11_image l D G S1 _ hG hP1 B c0 hB hc m5 (xs (6 * t + 1))) (cwV 1 hts gL_law_X11_image rfl rfl rfl (by decide +kernel) ⟨Nat.le_of_ble_eq_true rfl, Nat.le_of_ble_eq_true rfl⟩) (r_preV (k := 65) hA0 hW (ci := 10) (C := RX11) (T := TX11) (N := 20) rfl rfl (g_lt hG (by decide)) (g_kd hG (by decide) rfl) rfl rfl) rfl rfl hl4.1 rfl (lv_room (Nat.le_of_ble_eq_true rfl)) dL_law_858 ⟨(show cells + 0 ≤ 600000 by omega), (show slots + 0 ≤ 7302250 by omega)⟩) (fun r2 S2 H locs hp2 hW => ?_)
      obtain ⟨e2, k1⟩ := hp2
      rcases k1 with ⟨g1, k1, k2, k3⟩ | ⟨g1, -⟩
      · rw [z0] at k1 k2
        have hP2 := hP1.of k3.1
        have hM2 := hM1.image1 k1 k2 k3
        have hI2 := hI1.mod k3.1 (fun j z => (k3.2 j (by omega)).1)
        refine W.lcmp hx hb dL_law_861 ?_
        refine lv_if_eq (tgt := 1043) hx hb dL_law_862 (by decide) (fun _ => ?_) (fun z => absurd ((lg_cmp_eq _ _).mpr (e1.trans e2.symm)) z)
        exact W.widen (Nat.le_add_right _ _) (Nat.le_add_right _ _) (KK G S2 H locs ⟨_, _, _, _, _, _, _, _, _, _, _, _, _, _, _, hG, hP2, hI2, hM2, ⟨hc0, hLe, hA.b.1, hA.b.1, hA.b.2.2, ts4, hTB, t0, t16⟩⟩ rfl rfl hW)
      · exact absurd f1 g1
    · rw [z0] at n1 n2
      have n1 : RP G S1 57 B := n1
      have n2 : Ch3 (fun j => 57 ≤ j ∧ j ≤ 57 + 7) S S1 := n2
      have hP1 := hP.of2 (fun j _ _ c d => n5 j c d)
      have hI1 := hI.image2 n1 n2
      have hM1 := hM.cls (fun j z => ⟨(n2 j (by omega)).1, (n2 j (by omega)).2.1⟩)
      have hM9 := hM1
      obtain ⟨m1, m2, m3, m4, m5, m6, m7, m8, m9⟩ := hM9
      refine lv_aload_n hx hb dL_law_852 rfl (lv_at hl4 1 rfl) ?_
      refine lw_arg C hW hl ht hL 1 (by decide) dL_law_853 dL_law_854 dL_law_855 (by decide) dL_law_856 dL_law_857 ?_
      refine r_calll hW hA0 (va_runV (As := [.int (xs (6 * t + 1))]) (rest := [.long r1]) ⟨hx, hb, hml, hown, hts⟩ (t_X11_image l D G S1 _ hG hP1 B c0 hB hc m5 (xs (6 * t + 1))) (cwV 1 hts gL_law_X11_image rfl rfl rfl (by decide +kernel) ⟨Nat.le_of_ble_eq_true rfl, Nat.le_of_ble_eq_true rfl⟩) (r_preV (k := 65) hA0 hW (ci := 10) (C := RX11) (T := TX11) (N := 20) rfl rfl (g_lt hG (by decide)) (g_kd hG (by decide) rfl) rfl rfl) rfl rfl hl4.1 rfl (lv_room (Nat.le_of_ble_eq_true rfl)) dL_law_858 ⟨(show cells + 0 ≤ 600000 by omega), (show slots + 0 ≤ 7302250 by omega)⟩) (fun r2 S2 H locs hp2 hW => ?_)
      obtain ⟨e2, k1⟩ := hp2
      rcases k1 with ⟨g1, k1, k2, k3⟩ | ⟨g1, -⟩
      · rw [z0] at k1 k2
        have hP2 := hP1.of k3.1
        have hM2 := hM1.image2 k1 k2 k3
        have hI2 := hI1.mod k3.1 (fun j z => (k3.2 j (by omega)).1)
        refine W.lcmp hx hb dL_law_861 ?_
        refine lv_if_eq (tgt := 1043) hx hb dL_law_862 (by decide) (fun _ => ?_) (fun z => absurd ((lg_cmp_eq _ _).mpr (e1.trans e2.symm)) z)
        exact W.widen (Nat.le_add_right _ _) (Nat.le_add_right _ _) (KK G S2 H locs ⟨_, _, _, _, _, _, _, _, _, _, _, _, _, _, _, hG, hP2, hI2, hM2, ⟨hc0, hLe, hA.b.1, hA.b.2.1, hA.b.1, ts4, hTB, t0, t16⟩⟩ rfl rfl hW)
      · exact absurd f1 g1
  · rw [hS1] at hW
    have hP1 := hP
    have hM9 := hM
    obtain ⟨m1, m2, m3, m4, m5, m6, m7, m8, m9⟩ := hM9
    refine lv_aload_n hx hb dL_law_852 rfl (lv_at hl4 1 rfl) ?_
    refine lw_arg C hW hl ht hL 1 (by decide) dL_law_853 dL_law_854 dL_law_855 (by decide) dL_law_856 dL_law_857 ?_
    refine r_calll hW hA0 (va_runV (As := [.int (xs (6 * t + 1))]) (rest := [.long r1]) ⟨hx, hb, hml, hown, hts⟩ (t_X11_image l D G S _ hG hP1 B c0 hB hc m5 (xs (6 * t + 1))) (cwV 1 hts gL_law_X11_image rfl rfl rfl (by decide +kernel) ⟨Nat.le_of_ble_eq_true rfl, Nat.le_of_ble_eq_true rfl⟩) (r_preV (k := 65) hA0 hW (ci := 10) (C := RX11) (T := TX11) (N := 20) rfl rfl (g_lt hG (by decide)) (g_kd hG (by decide) rfl) rfl rfl) rfl rfl hl4.1 rfl (lv_room (Nat.le_of_ble_eq_true rfl)) dL_law_858 ⟨(show cells + 0 ≤ 600000 by omega), (show slots + 0 ≤ 7302250 by omega)⟩) (fun r2 S2 H locs hp2 hW => ?_)
    obtain ⟨e2, k1⟩ := hp2
    rcases k1 with ⟨g1, -⟩ | ⟨g1, hS2⟩
    · exact absurd g1 f1
    · rw [hS2] at hW
      have hP2 := hP
      refine W.lcmp hx hb dL_law_861 ?_
      refine lv_if_eq (tgt := 1043) hx hb dL_law_862 (by decide) (fun _ => ?_) (fun z => absurd ((lg_cmp_eq _ _).mpr (e1.trans e2.symm)) z)
      exact W.widen (Nat.le_add_right _ _) (Nat.le_add_right _ _) (KK G S H locs ⟨_, _, _, _, _, _, _, _, _, _, _, _, _, _, _, hG, hP2, hI, hM, hA.same hc0⟩ rfl rfl hW)
set_option maxHeartbeats 4000000 in
set_option maxRecDepth 100000 in
theorem lw_op_restore (C : LwC p s m c b L xs) (hcl : cells + 16 ≤ 600000) (hsl : slots + 48 ≤ 7302250) {c0 t : Nat} (hI0 : Inv G S c0) (hc0 : c0 + 40 < 90000) (hW : Wd D (LwA s) s G S H locs) (hl : LwL ls G b t) (ht : 6 * t + 6 ≤ L) (hL : L ≤ 3072) (KK : ∀ (G1 : Gg) (S1 : Sg) (H1 : Heap) (locs1 : List Loc), Inv G1 S1 (c0 + 40) → gA G1 0 = gA G 0 → gA G1 65 = gA G 65 → Wd D (LwA s) s G1 S1 H1 locs1 → W p l e room_1 s m #[Value.ref b] below meth c H1 locs1 (cells + 16) (slots + 48) Q (F0 m 1043 ls [])) : W p l e room_1 s m #[Value.ref b] below meth c H locs cells slots Q (F0 m 867 ls []) := by
  have C9 := C
  obtain ⟨hx, hb, hml, hown, hts, hX, hbl⟩ := C9
  obtain ⟨h, k, nw, it, la, le, st, B, B1, B2, T, ts, lf, tl, tr, hG, hP, hI, hM, hA⟩ := hI0
  have hA0 : ∀ q, s.heap.size ≤ q → LwA s q := fun q z => z
  have hl4 : lv_has ls 4 [(3, .int (nI (6 * t))), (2, .ref (gA G 65)), (1, .ref (gA G 0)), (0, .ref b)] := hl
  have hI9 := hI
  obtain ⟨i1, i2, i3, i4, i5, i6, i7, i8, i9, i10, i11, i12, i13, i14, i15, i16⟩ := hI9
  have hk0 : h = 33 ∨ h = 41 := by omega
  have hh : PassR h := by rcases hk0 with z | z <;> simp [PassR, z]
  have h41 : h ≤ 41 := by omega
  have hA9 := hA
  obtain ⟨c9, hLe, hB, hB1, hB2, ts4, hTB, t0, t16⟩ := hA9
  have hc : c0 < 100000 := by omega
  refine lv_aload_n hx hb dL_law_867 rfl (lv_at hl4 2 rfl) ?_
  refine lw_arg C hW hl ht hL 1 (by decide) dL_law_868 dL_law_869 dL_law_870 (by decide) dL_law_871 dL_law_872 ?_
  refine r_calll hW hA0 (va_runV (As := [.int (xs (6 * t + 1))]) (rest := []) ⟨hx, hb, hml, hown, hts⟩ (t_X10_restore_s l D G S _ hG hP h hh i3 B1 B2 c0 hB1 hB2 i9 i10 h41 (xs (6 * t + 1))) (cwV 1 hts gL_law_X10_restore rfl rfl rfl (by decide +kernel) ⟨Nat.le_of_ble_eq_true rfl, Nat.le_of_ble_eq_true rfl⟩) (r_preV (k := 0) hA0 hW (ci := 9) (C := RX10) (T := TX10) (N := 10) rfl rfl (g_lt hG (by decide)) (g_kd hG (by decide) rfl) rfl rfl) rfl rfl hl4.1 rfl (lv_room (Nat.le_of_ble_eq_true rfl)) dL_law_873 ⟨(show cells + 0 ≤ 600000 by omega), (show slots + 0 ≤ 7302250 by omega)⟩) (fun r1 S1 H locs hp1 hW => ?_)
  obtain ⟨⟨e1, n1⟩, n5⟩ := hp1
  rcases n1 with ⟨f1, n1, n2⟩ | ⟨f1, hS1⟩
  · have hP1 := hP.of2 (fun j _ _ _ _ => n5 j (by omega))
    have hI1 := hI.restore n1 n2
    have hM1 := hM.cls (fun j z => ⟨(n2 j (by omega)).1, (n2 j (by omega)).2.1⟩)
    have hM9 := hM1
    obtain ⟨m1, m2, m3, m4, m5, m6, m7, m8, m9⟩ := hM9
    refine lv_aload_n hx hb dL_law_876 rfl (lv_at hl4 1 rfl) ?_
    refine lw_arg C hW hl ht hL 1 (by decide) dL_law_877 dL_law_878 dL_law_879 (by decide) dL_law_880 dL_law_881 ?_
    refine r_calll hW hA0 (va_runV (As := [.int (xs (6 * t + 1))]) (rest := [.long r1]) ⟨hx, hb, hml, hown, hts⟩ (t_X11_restore l D G S1 _ hG hP1 B1 B2 c0 hB1 hB2 m6 m7 (xs (6 * t + 1))) (cwV 1 hts gL_law_X11_restore rfl rfl rfl (by decide +kernel) ⟨Nat.le_of_ble_eq_true rfl, Nat.le_of_ble_eq_true rfl⟩) (r_preV (k := 65) hA0 hW (ci := 10) (C := RX11) (T := TX11) (N := 20) rfl rfl (g_lt hG (by decide)) (g_kd hG (by decide) rfl) rfl rfl) rfl rfl hl4.1 rfl (lv_room (Nat.le_of_ble_eq_true rfl)) dL_law_882 ⟨(show cells + 0 ≤ 600000 by omega), (show slots + 0 ≤ 7302250 by omega)⟩) (fun r2 S2 H locs hp2 hW => ?_)
    obtain ⟨e2, k1⟩ := hp2
    rcases k1 with ⟨g1, k1⟩ | ⟨g1, -⟩
    · have hP2 := hP1.of k1.2.2.1
      have hM2 := hM1.hut k1
      have hI2 := hI1.mod k1.2.2.1 (fun j z => (k1.2.2.2 j (by omega)).1)
      refine W.lcmp hx hb dL_law_885 ?_
      refine lv_if_eq (tgt := 1043) hx hb dL_law_886 (by decide) (fun _ => ?_) (fun z => absurd ((lg_cmp_eq _ _).mpr (e1.trans e2.symm)) z)
      exact W.widen (Nat.le_add_right _ _) (Nat.le_add_right _ _) (KK G S2 H locs ⟨_, _, _, _, _, _, _, _, _, _, _, _, _, _, _, hG, hP2, hI2, hM2, hA.hut hc0 (by split; exact hA.b.2.1; exact hA.b.2.2)⟩ rfl rfl hW)
    · exact absurd f1 g1
  · rw [hS1] at hW
    have hP1 := hP
    have hM9 := hM
    obtain ⟨m1, m2, m3, m4, m5, m6, m7, m8, m9⟩ := hM9
    refine lv_aload_n hx hb dL_law_876 rfl (lv_at hl4 1 rfl) ?_
    refine lw_arg C hW hl ht hL 1 (by decide) dL_law_877 dL_law_878 dL_law_879 (by decide) dL_law_880 dL_law_881 ?_
    refine r_calll hW hA0 (va_runV (As := [.int (xs (6 * t + 1))]) (rest := [.long r1]) ⟨hx, hb, hml, hown, hts⟩ (t_X11_restore l D G S _ hG hP1 B1 B2 c0 hB1 hB2 m6 m7 (xs (6 * t + 1))) (cwV 1 hts gL_law_X11_restore rfl rfl rfl (by decide +kernel) ⟨Nat.le_of_ble_eq_true rfl, Nat.le_of_ble_eq_true rfl⟩) (r_preV (k := 65) hA0 hW (ci := 10) (C := RX11) (T := TX11) (N := 20) rfl rfl (g_lt hG (by decide)) (g_kd hG (by decide) rfl) rfl rfl) rfl rfl hl4.1 rfl (lv_room (Nat.le_of_ble_eq_true rfl)) dL_law_882 ⟨(show cells + 0 ≤ 600000 by omega), (show slots + 0 ≤ 7302250 by omega)⟩) (fun r2 S2 H locs hp2 hW => ?_)
    obtain ⟨e2, k1⟩ := hp2
    rcases k1 with ⟨g1, -⟩ | ⟨g1, hS2⟩
    · exact absurd g1 f1
    · rw [hS2] at hW
      have hP2 := hP
      refine W.lcmp hx hb dL_law_885 ?_
      refine lv_if_eq (tgt := 1043) hx hb dL_law_886 (by decide) (fun _ => ?_) (fun z => absurd ((lg_cmp_eq _ _).mpr (e1.trans e2.symm)) z)
      exact W.widen (Nat.le_add_right _ _) (Nat.le_add_right _ _) (KK G S H locs ⟨_, _, _, _, _, _, _, _, _, _, _, _, _, _, _, hG, hP2, hI, hM, hA.same hc0⟩ rfl rfl hW)
set_option maxHeartbeats 4000000 in
set_option maxRecDepth 100000 in
theorem lw_op_kind (C : LwC p s m c b L xs) (hcl : cells + 16 ≤ 600000) (hsl : slots + 48 ≤ 7302250) {c0 t : Nat} (hI0 : Inv G S c0) (hc0 : c0 + 40 < 90000) (hW : Wd D (LwA s) s G S H locs) (hl : LwL ls G b t) (ht : 6 * t + 6 ≤ L) (hL : L ≤ 3072) (KK : ∀ (G1 : Gg) (S1 : Sg) (H1 : Heap) (locs1 : List Loc), Inv G1 S1 (c0 + 40) → gA G1 0 = gA G 0 → gA G1 65 = gA G 65 → Wd D (LwA s) s G1 S1 H1 locs1 → W p l e room_1 s m #[Value.ref b] below meth c H1 locs1 (cells + 16) (slots + 48) Q (F0 m 1043 ls [])) : W p l e room_1 s m #[Value.ref b] below meth c H locs cells slots Q (F0 m 891 ls []) := by
  have C9 := C
  obtain ⟨hx, hb, hml, hown, hts, hX, hbl⟩ := C9
  obtain ⟨h, k, nw, it, la, le, st, B, B1, B2, T, ts, lf, tl, tr, hG, hP, hI, hM, hA⟩ := hI0
  have hA0 : ∀ q, s.heap.size ≤ q → LwA s q := fun q z => z
  have hl4 : lv_has ls 4 [(3, .int (nI (6 * t))), (2, .ref (gA G 65)), (1, .ref (gA G 0)), (0, .ref b)] := hl
  have hI9 := hI
  obtain ⟨i1, i2, i3, i4, i5, i6, i7, i8, i9, i10, i11, i12, i13, i14, i15, i16⟩ := hI9
  have hk0 : h = 33 ∨ h = 41 := by omega
  have hh : PassR h := by rcases hk0 with z | z <;> simp [PassR, z]
  have h41 : h ≤ 41 := by omega
  have hA9 := hA
  obtain ⟨c9, hLe, hB, hB1, hB2, ts4, hTB, t0, t16⟩ := hA9
  have hc : c0 < 100000 := by omega
  refine lv_aload_n hx hb dL_law_891 rfl (lv_at hl4 2 rfl) ?_
  refine lw_arg C hW hl ht hL 1 (by decide) dL_law_892 dL_law_893 dL_law_894 (by decide) dL_law_895 dL_law_896 ?_
  refine r_calll hW hA0 (va_runV (As := [.int (xs (6 * t + 1))]) (rest := []) ⟨hx, hb, hml, hown, hts⟩ (t_X10_kind l D G S _ hG hP h hh i3 B c0 hB hc i7 (xs (6 * t + 1))) (cwV 1 hts gL_law_X10_kind rfl rfl rfl (by decide +kernel) ⟨Nat.le_of_ble_eq_true rfl, Nat.le_of_ble_eq_true rfl⟩) (r_preV (k := 0) hA0 hW (ci := 9) (C := RX10) (T := TX10) (N := 10) rfl rfl (g_lt hG (by decide)) (g_kd hG (by decide) rfl) rfl rfl) rfl rfl hl4.1 rfl (lv_room (Nat.le_of_ble_eq_true rfl)) dL_law_897 ⟨(show cells + 0 ≤ 600000 by omega), (show slots + 0 ≤ 7302250 by omega)⟩) (fun r1 S1 H locs hp1 hW => ?_)
  obtain ⟨e1, hS1⟩ := hp1
  rw [hS1] at hW
  have hP1 := hP
  have hM9 := hM
  obtain ⟨m1, m2, m3, m4, m5, m6, m7, m8, m9⟩ := hM9
  refine lv_aload_n hx hb dL_law_900 rfl (lv_at hl4 1 rfl) ?_
  refine lw_arg C hW hl ht hL 1 (by decide) dL_law_901 dL_law_902 dL_law_903 (by decide) dL_law_904 dL_law_905 ?_
  refine r_calll hW hA0 (va_runV (As := [.int (xs (6 * t + 1))]) (rest := [.long r1]) ⟨hx, hb, hml, hown, hts⟩ (t_X11_kind l D G S _ hG hP1 B c0 hB hc m5 (xs (6 * t + 1))) (cwV 1 hts gL_law_X11_kind rfl rfl rfl (by decide +kernel) ⟨Nat.le_of_ble_eq_true rfl, Nat.le_of_ble_eq_true rfl⟩) (r_preV (k := 65) hA0 hW (ci := 10) (C := RX11) (T := TX11) (N := 20) rfl rfl (g_lt hG (by decide)) (g_kd hG (by decide) rfl) rfl rfl) rfl rfl hl4.1 rfl (lv_room (Nat.le_of_ble_eq_true rfl)) dL_law_906 ⟨(show cells + 0 ≤ 600000 by omega), (show slots + 0 ≤ 7302250 by omega)⟩) (fun r2 S2 H locs hp2 hW => ?_)
  obtain ⟨e2, hS2⟩ := hp2
  rw [hS2] at hW
  have hP2 := hP
  refine W.lcmp hx hb dL_law_909 ?_
  refine lv_if_eq (tgt := 1043) hx hb dL_law_910 (by decide) (fun _ => ?_) (fun z => absurd ((lg_cmp_eq _ _).mpr (e1.trans e2.symm)) z)
  exact W.widen (Nat.le_add_right _ _) (Nat.le_add_right _ _) (KK G S H locs ⟨_, _, _, _, _, _, _, _, _, _, _, _, _, _, _, hG, hP2, hI, hM, hA.same hc0⟩ rfl rfl hW)
set_option maxHeartbeats 4000000 in
set_option maxRecDepth 100000 in
theorem lw_op_as (C : LwC p s m c b L xs) (hcl : cells + 16 ≤ 600000) (hsl : slots + 48 ≤ 7302250) {c0 t : Nat} (hI0 : Inv G S c0) (hc0 : c0 + 40 < 90000) (hW : Wd D (LwA s) s G S H locs) (hl : LwL ls G b t) (ht : 6 * t + 6 ≤ L) (hL : L ≤ 3072) (KK : ∀ (G1 : Gg) (S1 : Sg) (H1 : Heap) (locs1 : List Loc), Inv G1 S1 (c0 + 40) → gA G1 0 = gA G 0 → gA G1 65 = gA G 65 → Wd D (LwA s) s G1 S1 H1 locs1 → W p l e room_1 s m #[Value.ref b] below meth c H1 locs1 (cells + 16) (slots + 48) Q (F0 m 1043 ls [])) : W p l e room_1 s m #[Value.ref b] below meth c H locs cells slots Q (F0 m 915 ls []) := by
  have C9 := C
  obtain ⟨hx, hb, hml, hown, hts, hX, hbl⟩ := C9
  obtain ⟨h, k, nw, it, la, le, st, B, B1, B2, T, ts, lf, tl, tr, hG, hP, hI, hM, hA⟩ := hI0
  have hA0 : ∀ q, s.heap.size ≤ q → LwA s q := fun q z => z
  have hl4 : lv_has ls 4 [(3, .int (nI (6 * t))), (2, .ref (gA G 65)), (1, .ref (gA G 0)), (0, .ref b)] := hl
  have hI9 := hI
  obtain ⟨i1, i2, i3, i4, i5, i6, i7, i8, i9, i10, i11, i12, i13, i14, i15, i16⟩ := hI9
  have hk0 : h = 33 ∨ h = 41 := by omega
  have hh : PassR h := by rcases hk0 with z | z <;> simp [PassR, z]
  have h41 : h ≤ 41 := by omega
  have hA9 := hA
  obtain ⟨c9, hLe, hB, hB1, hB2, ts4, hTB, t0, t16⟩ := hA9
  have hc : c0 < 100000 := by omega
  refine lv_aload_n hx hb dL_law_915 rfl (lv_at hl4 2 rfl) ?_
  refine lw_arg C hW hl ht hL 1 (by decide) dL_law_916 dL_law_917 dL_law_918 (by decide) dL_law_919 dL_law_920 ?_
  refine lw_arg C hW hl ht hL 2 (by decide) dL_law_921 dL_law_922 dL_law_923 (by decide) dL_law_924 dL_law_925 ?_
  refine r_calll hW hA0 (va_runV (As := [.int (xs (6 * t + 1)), .int (xs (6 * t + 2))]) (rest := []) ⟨hx, hb, hml, hown, hts⟩ (t_X10_as l D G S _ hG hP h hh i3 B c0 hB hc i7 st i12 (xs (6 * t + 1)) (xs (6 * t + 2))) (cwV 2 hts gL_law_X10_as rfl rfl rfl (by decide +kernel) ⟨Nat.le_of_ble_eq_true rfl, Nat.le_of_ble_eq_true rfl⟩) (r_preV (k := 0) hA0 hW (ci := 9) (C := RX10) (T := TX10) (N := 10) rfl rfl (g_lt hG (by decide)) (g_kd hG (by decide) rfl) rfl rfl) rfl rfl hl4.1 rfl (lv_room (Nat.le_of_ble_eq_true rfl)) dL_law_926 ⟨(show cells + 0 ≤ 600000 by omega), (show slots + 0 ≤ 7302250 by omega)⟩) (fun r1 S1 H locs hp1 hW => ?_)
  obtain ⟨e1, n2, n3⟩ := hp1
  have hP1 := hP.of n3.1
  have hI1 := hI.stt n2 n3
  have hM1 := hM.ch n3 (fun j z => by omega)
  have hM9 := hM1
  obtain ⟨m1, m2, m3, m4, m5, m6, m7, m8, m9⟩ := hM9
  refine lv_aload_n hx hb dL_law_929 rfl (lv_at hl4 1 rfl) ?_
  refine lw_arg C hW hl ht hL 1 (by decide) dL_law_930 dL_law_931 dL_law_932 (by decide) dL_law_933 dL_law_934 ?_
  refine lw_arg C hW hl ht hL 2 (by decide) dL_law_935 dL_law_936 dL_law_937 (by decide) dL_law_938 dL_law_939 ?_
  refine r_calll hW hA0 (va_runV (As := [.int (xs (6 * t + 1)), .int (xs (6 * t + 2))]) (rest := [.long r1]) ⟨hx, hb, hml, hown, hts⟩ (t_X11_as_s l D G S1 _ hG hP1 B c0 hB hc m5 st m2 (xs (6 * t + 1)) (xs (6 * t + 2))) (cwV 2 hts gL_law_X11_as rfl rfl rfl (by decide +kernel) ⟨Nat.le_of_ble_eq_true rfl, Nat.le_of_ble_eq_true rfl⟩) (r_preV (k := 65) hA0 hW (ci := 10) (C := RX11) (T := TX11) (N := 20) rfl rfl (g_lt hG (by decide)) (g_kd hG (by decide) rfl) rfl rfl) rfl rfl hl4.1 rfl (lv_room (Nat.le_of_ble_eq_true rfl)) dL_law_940 ⟨(show cells + 0 ≤ 600000 by omega), (show slots + 0 ≤ 7302250 by omega)⟩) (fun r2 S2 H locs hp2 hW => ?_)
  obtain ⟨⟨e2, k1, k2⟩, k3⟩ := hp2
  have hP2 := hP1.of k2.1
  have hM2 := hM1.stt k1 k3 k2
  have hI2 := hI1.mod k2.1 (fun j z => (k2.2 j (by omega)).1)
  refine W.lcmp hx hb dL_law_943 ?_
  refine lv_if_eq (tgt := 1043) hx hb dL_law_944 (by decide) (fun _ => ?_) (fun z => absurd ((lg_cmp_eq _ _).mpr (e1.trans e2.symm)) z)
  exact W.widen (Nat.le_add_right _ _) (Nat.le_add_right _ _) (KK G S2 H locs ⟨_, _, _, _, _, _, _, _, _, _, _, _, _, _, _, hG, hP2, hI2, hM2, hA.same hc0⟩ rfl rfl hW)
set_option maxHeartbeats 4000000 in
set_option maxRecDepth 100000 in
theorem lw_op_ask (C : LwC p s m c b L xs) (hcl : cells + 16 ≤ 600000) (hsl : slots + 48 ≤ 7302250) {c0 t : Nat} (hI0 : Inv G S c0) (hc0 : c0 + 40 < 90000) (hW : Wd D (LwA s) s G S H locs) (hl : LwL ls G b t) (ht : 6 * t + 6 ≤ L) (hL : L ≤ 3072) (KK : ∀ (G1 : Gg) (S1 : Sg) (H1 : Heap) (locs1 : List Loc), Inv G1 S1 (c0 + 40) → gA G1 0 = gA G 0 → gA G1 65 = gA G 65 → Wd D (LwA s) s G1 S1 H1 locs1 → W p l e room_1 s m #[Value.ref b] below meth c H1 locs1 (cells + 16) (slots + 48) Q (F0 m 1043 ls [])) : W p l e room_1 s m #[Value.ref b] below meth c H locs cells slots Q (F0 m 949 ls []) := by
  have C9 := C
  obtain ⟨hx, hb, hml, hown, hts, hX, hbl⟩ := C9
  obtain ⟨h, k, nw, it, la, le, st, B, B1, B2, T, ts, lf, tl, tr, hG, hP, hI, hM, hA⟩ := hI0
  have hA0 : ∀ q, s.heap.size ≤ q → LwA s q := fun q z => z
  have hl4 : lv_has ls 4 [(3, .int (nI (6 * t))), (2, .ref (gA G 65)), (1, .ref (gA G 0)), (0, .ref b)] := hl
  have hI9 := hI
  obtain ⟨i1, i2, i3, i4, i5, i6, i7, i8, i9, i10, i11, i12, i13, i14, i15, i16⟩ := hI9
  have hk0 : h = 33 ∨ h = 41 := by omega
  have hh : PassR h := by rcases hk0 with z | z <;> simp [PassR, z]
  have h41 : h ≤ 41 := by omega
  have hA9 := hA
  obtain ⟨c9, hLe, hB, hB1, hB2, ts4, hTB, t0, t16⟩ := hA9
  have hc : c0 < 100000 := by omega
  refine lv_aload_n hx hb dL_law_949 rfl (lv_at hl4 2 rfl) ?_
  refine lw_arg C hW hl ht hL 1 (by decide) dL_law_950 dL_law_951 dL_law_952 (by decide) dL_law_953 dL_law_954 ?_
  refine lw_arg C hW hl ht hL 2 (by decide) dL_law_955 dL_law_956 dL_law_957 (by decide) dL_law_958 dL_law_959 ?_
  refine r_calll hW hA0 (va_runV (As := [.int (xs (6 * t + 1)), .int (xs (6 * t + 2))]) (rest := []) ⟨hx, hb, hml, hown, hts⟩ (t_X10_ask l D G S _ hG hP h hh i3 B c0 hB hc i7 (xs (6 * t + 1)) (xs (6 * t + 2))) (cwV 2 hts gL_law_X10_ask rfl rfl rfl (by decide +kernel) ⟨Nat.le_of_ble_eq_true rfl, Nat.le_of_ble_eq_true rfl⟩) (r_preV (k := 0) hA0 hW (ci := 9) (C := RX10) (T := TX10) (N := 10) rfl rfl (g_lt hG (by decide)) (g_kd hG (by decide) rfl) rfl rfl) rfl rfl hl4.1 rfl (lv_room (Nat.le_of_ble_eq_true rfl)) dL_law_960 ⟨(show cells + 0 ≤ 600000 by omega), (show slots + 0 ≤ 7302250 by omega)⟩) (fun r1 S1 H locs hp1 hW => ?_)
  obtain ⟨e1, n1, n2, n3⟩ := hp1
  rw [i15, i16] at n1 n2
  have hP1 := hP.of n3.1
  have hI1 := hI.ask n1 n2 n3
  have hM1 := hM.ch n3 (fun j z => by omega)
  have hM9 := hM1
  obtain ⟨m1, m2, m3, m4, m5, m6, m7, m8, m9⟩ := hM9
  refine lv_aload_n hx hb dL_law_963 rfl (lv_at hl4 1 rfl) ?_
  refine lw_arg C hW hl ht hL 1 (by decide) dL_law_964 dL_law_965 dL_law_966 (by decide) dL_law_967 dL_law_968 ?_
  refine lw_arg C hW hl ht hL 2 (by decide) dL_law_969 dL_law_970 dL_law_971 (by decide) dL_law_972 dL_law_973 ?_
  refine r_calll hW hA0 (va_runV (As := [.int (xs (6 * t + 1)), .int (xs (6 * t + 2))]) (rest := [.long r1]) ⟨hx, hb, hml, hown, hts⟩ (t_X11_ask l D G S1 _ hG hP1 B c0 hB hc m5 (xs (6 * t + 1)) (xs (6 * t + 2))) (cwV 2 hts gL_law_X11_ask rfl rfl rfl (by decide +kernel) ⟨Nat.le_of_ble_eq_true rfl, Nat.le_of_ble_eq_true rfl⟩) (r_preV (k := 65) hA0 hW (ci := 10) (C := RX11) (T := TX11) (N := 20) rfl rfl (g_lt hG (by decide)) (g_kd hG (by decide) rfl) rfl rfl) rfl rfl hl4.1 rfl (lv_room (Nat.le_of_ble_eq_true rfl)) dL_law_974 ⟨(show cells + 0 ≤ 600000 by omega), (show slots + 0 ≤ 7302250 by omega)⟩) (fun r2 S2 H locs hp2 hW => ?_)
  obtain ⟨e2, k1, k2, k3⟩ := hp2
  rw [m8, m9] at k1 k2
  have hP2 := hP1.of k3.1
  have hM2 := hM1.ask k1 k2 k3
  have hI2 := hI1.mod k3.1 (fun j z => k3.2.2.1 j (by omega) (by omega))
  have hT := tr_ok t0 t16 tr B (xs (6 * t + 1)) (xs (6 * t + 2))
  refine W.lcmp hx hb dL_law_977 ?_
  refine lv_if_eq (tgt := 1043) hx hb dL_law_978 (by decide) (fun _ => ?_) (fun z => absurd ((lg_cmp_eq _ _).mpr (e1.trans e2.symm)) z)
  exact W.widen (Nat.le_add_right _ _) (Nat.le_add_right _ _) (KK G S2 H locs ⟨_, _, _, _, _, _, _, _, _, _, _, _, _, _, _, hG, hP2, hI2, hM2, ⟨hc0, hLe, hA.b.1, hA.b.2.1, hA.b.2.2, ts4, hTB, hT.1, hT.2⟩⟩ rfl rfl hW)
set_option maxHeartbeats 4000000 in
set_option maxRecDepth 100000 in
theorem lw_op_trace (C : LwC p s m c b L xs) (hcl : cells + 16 ≤ 600000) (hsl : slots + 48 ≤ 7302250) {c0 t : Nat} (hI0 : Inv G S c0) (hc0 : c0 + 40 < 90000) (hW : Wd D (LwA s) s G S H locs) (hl : LwL ls G b t) (ht : 6 * t + 6 ≤ L) (hL : L ≤ 3072) (KK : ∀ (G1 : Gg) (S1 : Sg) (H1 : Heap) (locs1 : List Loc), Inv G1 S1 (c0 + 40) → gA G1 0 = gA G 0 → gA G1 65 = gA G 65 → Wd D (LwA s) s G1 S1 H1 locs1 → W p l e room_1 s m #[Value.ref b] below meth c H1 locs1 (cells + 16) (slots + 48) Q (F0 m 1043 ls [])) : W p l e room_1 s m #[Value.ref b] below meth c H locs cells slots Q (F0 m 983 ls []) := by
  have C9 := C
  obtain ⟨hx, hb, hml, hown, hts, hX, hbl⟩ := C9
  obtain ⟨h, k, nw, it, la, le, st, B, B1, B2, T, ts, lf, tl, tr, hG, hP, hI, hM, hA⟩ := hI0
  have hA0 : ∀ q, s.heap.size ≤ q → LwA s q := fun q z => z
  have hl4 : lv_has ls 4 [(3, .int (nI (6 * t))), (2, .ref (gA G 65)), (1, .ref (gA G 0)), (0, .ref b)] := hl
  have hI9 := hI
  obtain ⟨i1, i2, i3, i4, i5, i6, i7, i8, i9, i10, i11, i12, i13, i14, i15, i16⟩ := hI9
  have hk0 : h = 33 ∨ h = 41 := by omega
  have hh : PassR h := by rcases hk0 with z | z <;> simp [PassR, z]
  have h41 : h ≤ 41 := by omega
  have hA9 := hA
  obtain ⟨c9, hLe, hB, hB1, hB2, ts4, hTB, t0, t16⟩ := hA9
  have hc : c0 < 100000 := by omega
  refine lv_aload_n hx hb dL_law_983 rfl (lv_at hl4 2 rfl) ?_
  refine lw_arg C hW hl ht hL 1 (by decide) dL_law_984 dL_law_985 dL_law_986 (by decide) dL_law_987 dL_law_988 ?_
  refine r_calli hW hA0 (va_runV (As := [.int (xs (6 * t + 1))]) (rest := []) ⟨hx, hb, hml, hown, hts⟩ (t_X10_trace l D G S _ hG hP (by rw [i15]; exact t16) (xs (6 * t + 1))) (cwV 1 hts gL_law_X10_trace rfl rfl rfl (by decide +kernel) ⟨Nat.le_of_ble_eq_true rfl, Nat.le_of_ble_eq_true rfl⟩) (r_preV (k := 0) hA0 hW (ci := 9) (C := RX10) (T := TX10) (N := 10) rfl rfl (g_lt hG (by decide)) (g_kd hG (by decide) rfl) rfl rfl) rfl rfl hl4.1 rfl (lv_room (Nat.le_of_ble_eq_true rfl)) dL_law_989 ⟨(show cells + 0 ≤ 600000 by omega), (show slots + 0 ≤ 7302250 by omega)⟩) (fun r1 S1 H locs hp1 hW => ?_)
  obtain ⟨e1, hS1⟩ := hp1
  rw [hS1] at hW
  have hP1 := hP
  have hM9 := hM
  obtain ⟨m1, m2, m3, m4, m5, m6, m7, m8, m9⟩ := hM9
  refine lv_aload_n hx hb dL_law_992 rfl (lv_at hl4 1 rfl) ?_
  refine lw_arg C hW hl ht hL 1 (by decide) dL_law_993 dL_law_994 dL_law_995 (by decide) dL_law_996 dL_law_997 ?_
  refine r_calli hW hA0 (va_runV (As := [.int (xs (6 * t + 1))]) (rest := [.int r1]) ⟨hx, hb, hml, hown, hts⟩ (t_X11_trace l D G S _ hG hP1 (by rw [m8]; exact t0) (by rw [m8]; exact t16) (xs (6 * t + 1))) (cwV 1 hts gL_law_X11_trace rfl rfl rfl (by decide +kernel) ⟨Nat.le_of_ble_eq_true rfl, Nat.le_of_ble_eq_true rfl⟩) (r_preV (k := 65) hA0 hW (ci := 10) (C := RX11) (T := TX11) (N := 20) rfl rfl (g_lt hG (by decide)) (g_kd hG (by decide) rfl) rfl rfl) rfl rfl hl4.1 rfl (lv_room (Nat.le_of_ble_eq_true rfl)) dL_law_998 ⟨(show cells + 0 ≤ 600000 by omega), (show slots + 0 ≤ 7302250 by omega)⟩) (fun r2 S2 H locs hp2 hW => ?_)
  obtain ⟨e2, hS2⟩ := hp2
  rw [hS2] at hW
  have hP2 := hP
  rw [i15, i16] at e1
  rw [m8, m9] at e2
  refine lv_icmp_eq (tgt := 1043) hx hb dL_law_1001 (by decide) (fun _ => ?_) (fun z => absurd (e1.trans e2.symm) z)
  exact W.widen (Nat.le_add_right _ _) (Nat.le_add_right _ _) (KK G S H locs ⟨_, _, _, _, _, _, _, _, _, _, _, _, _, _, _, hG, hP2, hI, hM, hA.same hc0⟩ rfl rfl hW)
set_option maxHeartbeats 4000000 in
set_option maxRecDepth 100000 in
theorem lw_op_count (C : LwC p s m c b L xs) (hcl : cells + 16 ≤ 600000) (hsl : slots + 48 ≤ 7302250) {c0 t : Nat} (hI0 : Inv G S c0) (hc0 : c0 + 40 < 90000) (hW : Wd D (LwA s) s G S H locs) (hl : LwL ls G b t) (ht : 6 * t + 6 ≤ L) (hL : L ≤ 3072) (KK : ∀ (G1 : Gg) (S1 : Sg) (H1 : Heap) (locs1 : List Loc), Inv G1 S1 (c0 + 40) → gA G1 0 = gA G 0 → gA G1 65 = gA G 65 → Wd D (LwA s) s G1 S1 H1 locs1 → W p l e room_1 s m #[Value.ref b] below meth c H1 locs1 (cells + 16) (slots + 48) Q (F0 m 1043 ls [])) : W p l e room_1 s m #[Value.ref b] below meth c H locs cells slots Q (F0 m 1006 ls []) := by
  have C9 := C
  obtain ⟨hx, hb, hml, hown, hts, hX, hbl⟩ := C9
  obtain ⟨h, k, nw, it, la, le, st, B, B1, B2, T, ts, lf, tl, tr, hG, hP, hI, hM, hA⟩ := hI0
  have hA0 : ∀ q, s.heap.size ≤ q → LwA s q := fun q z => z
  have hl4 : lv_has ls 4 [(3, .int (nI (6 * t))), (2, .ref (gA G 65)), (1, .ref (gA G 0)), (0, .ref b)] := hl
  have hI9 := hI
  obtain ⟨i1, i2, i3, i4, i5, i6, i7, i8, i9, i10, i11, i12, i13, i14, i15, i16⟩ := hI9
  have hk0 : h = 33 ∨ h = 41 := by omega
  have hh : PassR h := by rcases hk0 with z | z <;> simp [PassR, z]
  have h41 : h ≤ 41 := by omega
  have hA9 := hA
  obtain ⟨c9, hLe, hB, hB1, hB2, ts4, hTB, t0, t16⟩ := hA9
  have hc : c0 < 100000 := by omega
  refine lv_aload_n hx hb dL_law_1006 rfl (lv_at hl4 2 rfl) ?_
  refine lw_arg C hW hl ht hL 1 (by decide) dL_law_1007 dL_law_1008 dL_law_1009 (by decide) dL_law_1010 dL_law_1011 ?_
  refine r_calll hW hA0 (va_runV (As := [.int (xs (6 * t + 1))]) (rest := []) ⟨hx, hb, hml, hown, hts⟩ (t_X10_count l D G S _ hG hP h hh i3 B c0 hB hc i7 le (fun r hr => (i11 r hr).2.1) ts ts4 i13.1 (xs (6 * t + 1))) (cwV 1 hts gL_law_X10_count rfl rfl rfl (by decide +kernel) ⟨Nat.le_of_ble_eq_true rfl, Nat.le_of_ble_eq_true rfl⟩) (r_preV (k := 0) hA0 hW (ci := 9) (C := RX10) (T := TX10) (N := 10) rfl rfl (g_lt hG (by decide)) (g_kd hG (by decide) rfl) rfl rfl) rfl rfl hl4.1 rfl (lv_room (Nat.le_of_ble_eq_true rfl)) dL_law_1012 ⟨(show cells + 0 ≤ 600000 by omega), (show slots + 0 ≤ 7302250 by omega)⟩) (fun r1 S1 H locs hp1 hW => ?_)
  obtain ⟨e1, hS1⟩ := hp1
  rw [hS1] at hW
  have hP1 := hP
  have hM9 := hM
  obtain ⟨m1, m2, m3, m4, m5, m6, m7, m8, m9⟩ := hM9
  refine lv_aload_n hx hb dL_law_1015 rfl (lv_at hl4 1 rfl) ?_
  refine lw_arg C hW hl ht hL 1 (by decide) dL_law_1016 dL_law_1017 dL_law_1018 (by decide) dL_law_1019 dL_law_1020 ?_
  refine r_calll hW hA0 (va_runV (As := [.int (xs (6 * t + 1))]) (rest := [.long r1]) ⟨hx, hb, hml, hown, hts⟩ (t_X11_count l D G S _ hG hP1 B c0 hB hc m5 la le it m1 hLe ts ts4 m3.1 (xs (6 * t + 1))) (cwV 1 hts gL_law_X11_count rfl rfl rfl (by decide +kernel) ⟨Nat.le_of_ble_eq_true rfl, Nat.le_of_ble_eq_true rfl⟩) (r_preV (k := 65) hA0 hW (ci := 10) (C := RX11) (T := TX11) (N := 20) rfl rfl (g_lt hG (by decide)) (g_kd hG (by decide) rfl) rfl rfl) rfl rfl hl4.1 rfl (lv_room (Nat.le_of_ble_eq_true rfl)) dL_law_1021 ⟨(show cells + 0 ≤ 600000 by omega), (show slots + 0 ≤ 7302250 by omega)⟩) (fun r2 S2 H locs hp2 hW => ?_)
  obtain ⟨e2, hS2⟩ := hp2
  rw [hS2] at hW
  have hP2 := hP
  refine W.lcmp hx hb dL_law_1024 ?_
  refine lv_if_eq (tgt := 1043) hx hb dL_law_1025 (by decide) (fun _ => ?_) (fun z => absurd ((lg_cmp_eq _ _).mpr (e1.trans e2.symm)) z)
  exact W.widen (Nat.le_add_right _ _) (Nat.le_add_right _ _) (KK G S H locs ⟨_, _, _, _, _, _, _, _, _, _, _, _, _, _, _, hG, hP2, hI, hM, hA.same hc0⟩ rfl rfl hW)
set_option maxHeartbeats 4000000 in
set_option maxRecDepth 100000 in
theorem lw_op_status (C : LwC p s m c b L xs) (hcl : cells + 16 ≤ 600000) (hsl : slots + 48 ≤ 7302250) {c0 t : Nat} (hI0 : Inv G S c0) (hc0 : c0 + 40 < 90000) (hW : Wd D (LwA s) s G S H locs) (hl : LwL ls G b t) (ht : 6 * t + 6 ≤ L) (hL : L ≤ 3072) (KK : ∀ (G1 : Gg) (S1 : Sg) (H1 : Heap) (locs1 : List Loc), Inv G1 S1 (c0 + 40) → gA G1 0 = gA G 0 → gA G1 65 = gA G 65 → Wd D (LwA s) s G1 S1 H1 locs1 → W p l e room_1 s m #[Value.ref b] below meth c H1 locs1 (cells + 16) (slots + 48) Q (F0 m 1043 ls [])) : W p l e room_1 s m #[Value.ref b] below meth c H locs cells slots Q (F0 m 1030 ls []) := by
  have C9 := C
  obtain ⟨hx, hb, hml, hown, hts, hX, hbl⟩ := C9
  obtain ⟨h, k, nw, it, la, le, st, B, B1, B2, T, ts, lf, tl, tr, hG, hP, hI, hM, hA⟩ := hI0
  have hA0 : ∀ q, s.heap.size ≤ q → LwA s q := fun q z => z
  have hl4 : lv_has ls 4 [(3, .int (nI (6 * t))), (2, .ref (gA G 65)), (1, .ref (gA G 0)), (0, .ref b)] := hl
  have hI9 := hI
  obtain ⟨i1, i2, i3, i4, i5, i6, i7, i8, i9, i10, i11, i12, i13, i14, i15, i16⟩ := hI9
  have hk0 : h = 33 ∨ h = 41 := by omega
  have hh : PassR h := by rcases hk0 with z | z <;> simp [PassR, z]
  have h41 : h ≤ 41 := by omega
  have hA9 := hA
  obtain ⟨c9, hLe, hB, hB1, hB2, ts4, hTB, t0, t16⟩ := hA9
  have hc : c0 < 100000 := by omega
  refine lv_aload_n hx hb dL_law_1030 rfl (lv_at hl4 2 rfl) ?_
  refine r_calli hW hA0 (va_runV (As := []) (rest := []) ⟨hx, hb, hml, hown, hts⟩ (t_X10_status l D G S _ hG hP  ) (cwV 0 hts gL_law_X10_status rfl rfl rfl (by decide +kernel) ⟨Nat.le_of_ble_eq_true rfl, Nat.le_of_ble_eq_true rfl⟩) (r_preV (k := 0) hA0 hW (ci := 9) (C := RX10) (T := TX10) (N := 10) rfl rfl (g_lt hG (by decide)) (g_kd hG (by decide) rfl) rfl rfl) rfl rfl hl4.1 rfl (lv_room (Nat.le_of_ble_eq_true rfl)) dL_law_1031 ⟨(show cells + 0 ≤ 600000 by omega), (show slots + 0 ≤ 7302250 by omega)⟩) (fun r1 S1 H locs hp1 hW => ?_)
  obtain ⟨e1, hS1⟩ := hp1
  rw [hS1] at hW
  have hP1 := hP
  have hM9 := hM
  obtain ⟨m1, m2, m3, m4, m5, m6, m7, m8, m9⟩ := hM9
  refine lv_aload_n hx hb dL_law_1034 rfl (lv_at hl4 1 rfl) ?_
  refine r_calli hW hA0 (va_runV (As := []) (rest := [.int r1]) ⟨hx, hb, hml, hown, hts⟩ (t_X11_status l D G S _ hG hP1  ) (cwV 0 hts gL_law_X11_status rfl rfl rfl (by decide +kernel) ⟨Nat.le_of_ble_eq_true rfl, Nat.le_of_ble_eq_true rfl⟩) (r_preV (k := 65) hA0 hW (ci := 10) (C := RX11) (T := TX11) (N := 20) rfl rfl (g_lt hG (by decide)) (g_kd hG (by decide) rfl) rfl rfl) rfl rfl hl4.1 rfl (lv_room (Nat.le_of_ble_eq_true rfl)) dL_law_1035 ⟨(show cells + 0 ≤ 600000 by omega), (show slots + 0 ≤ 7302250 by omega)⟩) (fun r2 S2 H locs hp2 hW => ?_)
  obtain ⟨e2, hS2⟩ := hp2
  rw [hS2] at hW
  have hP2 := hP
  rw [i12] at e1
  rw [m2] at e2
  refine lv_icmp_eq (tgt := 1043) hx hb dL_law_1038 (by decide) (fun _ => ?_) (fun z => absurd (e1.trans e2.symm) z)
  exact W.widen (Nat.le_add_right _ _) (Nat.le_add_right _ _) (KK G S H locs ⟨_, _, _, _, _, _, _, _, _, _, _, _, _, _, _, hG, hP2, hI, hM, hA.same hc0⟩ rfl rfl hW)
end LAWW
