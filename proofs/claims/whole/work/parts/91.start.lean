/-! the law from its entry -/
theorem RP0 {G : Gg} {S : Sg} {h : Nat} (e : ∀ k, h ≤ k → k ≤ h + 6 → gi S k = fun _ => 0) (ep : gp S (h + 7) = fun _ => none) : RP G S h (fun _ => 0) := by
  have z0 : (0 : Int32) = nI 0 := nI_0.symm
  refine ⟨?_, fun i hi => absurd hi (Nat.not_lt_zero _), fun i hi => ?_, fun i hi => absurd hi (Nat.not_lt_zero _), fun j _ => Or.inl (by rw [ep])⟩
  · unfold RPs
    rw [e h (by omega) (by omega)]
    exact ⟨z0, z0, z0, z0, z0, z0, z0, z0, z0⟩
  · rw [e (h + 3) (by omega) (by omega), e (h + 4) (by omega) (by omega), e (h + 5) (by omega) (by omega), e (h + 6) (by omega) (by omega)]
    exact ⟨z0, z0, z0, z0⟩
theorem Inv0 {G : Gg} {S : Sg} (hN : gN G = 75) (hK : ∀ k, k < 75 → gK G k = K0.getD k 0) (hZ : ∀ k, k < 75 → gZ G k = Z0.getD k 0) (hP : GrP G S) (h7 : gp S 0 7 = some (gA G 33)) (h8 : gp S 0 8 = some (gA G 41)) (n4 : gp S 14 4 = some (gA G 28)) (n5 : gp S 14 5 = some (gA G 29)) (hi : ∀ k, k ≠ 11 → k ≠ 69 → gi S k = fun _ => 0) (h11 : ∀ r, r < 8 → gi S 11 r = -1) (h69 : ∀ r, r < 8 → gi S 69 r = -1) (hj : gj S = fun _ _ => 0) (hp : ∀ j, j = 40 ∨ j = 48 ∨ j = 56 ∨ j = 64 → gp S j = fun _ => none) : Inv G S 0 := by
  have z0 : (0 : Int32) = nI 0 := nI_0.symm
  have l0 : (0 : Int64) = lN 0 := by decide +kernel
  have bp : BP (fun _ => 0) 0 := Or.inl ⟨rfl, fun _ => rfl⟩
  refine ⟨33, 41, 28, fun _ _ => 0, fun _ => 0, fun _ => -1, 0, fun _ => 0, fun _ => 0, fun _ => 0, fun _ => 0, 0, 0, 0, fun _ => 0, ⟨by omega, hK, hZ, fun k h1 h2 => absurd h2 (by omega)⟩, hP, ⟨Or.inl ⟨rfl, rfl⟩, Or.inl rfl, h7, h8, n4, n5, RP0 (fun k a1 a2 => hi k (by omega) (by omega)) (hp 40 (by omega)), fun j _ => Or.inl (congrFun (hp 48 (by omega)) j), RP0 (fun k a1 a2 => hi k (by omega) (by omega)) (hp 56 (by omega)), RP0 (fun k a1 a2 => hi k (by omega) (by omega)) (hp 64 (by omega)), fun r hr => ⟨congrFun (hi 10 (by omega) (by omega)) r, h11 r hr, fun j _ => congrFun (hi (2 + r) (by omega) (by omega)) j⟩, congrFun (hi 0 (by omega) (by omega)) 9, ⟨(congrFun (hi 12 (by omega) (by omega)) 1).trans z0, fun i h9 => absurd h9 (Nat.not_lt_zero _)⟩, (congrFun (hi 12 (by omega) (by omega)) 6).trans z0, congrFun (hi 30 (by omega) (by omega)) 1, hi 31 (by omega) (by omega)⟩, ⟨fun r hr => ⟨congrFun (hi 68 (by omega) (by omega)) r, h69 r hr, fun j _ => congrFun (hi 67 (by omega) (by omega)) _⟩, congrFun (hi 65 (by omega) (by omega)) 4, ⟨(congrFun (hi 65 (by omega) (by omega)) 7).trans z0, fun i h9 => absurd h9 (Nat.not_lt_zero _)⟩, (congrFun (hi 65 (by omega) (by omega)) 14).trans z0, fun k _ => by rw [hj]; exact l0, fun k _ => by rw [hj]; exact l0, fun k _ => by rw [hj]; exact l0, congrFun (hi 65 (by omega) (by omega)) 19, hi 74 (by omega) (by omega)⟩, ⟨by omega, fun r _ => Or.inl (show (-1 : Int32).toInt = -1 by decide), bp, bp, bp, by omega, fun i h9 => absurd h9 (Nat.not_lt_zero _), by decide, by decide⟩⟩
def EX11 : List (Nat × Nat) := [(13, 560), (12, 320), (12, 8), (12, 8), (12, 40), (12, 400), (13, 1000), (13, 1000), (12, 16)]
theorem kz11 : ∀ k, 66 ≤ k → k < 75 → (EX11.getD (k - 66) (0, 0)).1 = K0.getD k 0 ∧ (EX11.getD (k - 66) (0, 0)).2 = Z0.getD k 0 := by
  have h : ∀ k, k < 75 → 66 ≤ k → (EX11.getD (k - 66) (0, 0)).1 = K0.getD k 0 ∧ (EX11.getD (k - 66) (0, 0)).2 = Z0.getD k 0 := by decide +kernel
  exact fun k a b => h k b a
def LK10 : List (Nat × Nat × Nat) := lk0.filter (fun q => q.1 < 65) ++ [(0, 7, 33), (0, 8, 41), (14, 4, 28), (14, 5, 29)]
def LK11 : List (Nat × Nat × Nat) := (((((((((LK10 ++ [(65, 0, 66)]) ++ [(65, 1, (66 + 1))]) ++ [(65, 2, (66 + 2))]) ++ [(65, 3, (66 + 3))]) ++ [(65, 5, (66 + 4))]) ++ [(65, 6, (66 + 5))]) ++ [(65, 15, (66 + 6))]) ++ [(65, 16, (66 + 7))]) ++ [(65, 18, (66 + 8))])
theorem lk11 : ∀ x ∈ lk0, x ∈ LK11 := by decide +kernel
set_option maxHeartbeats 4000000 in
set_option maxRecDepth 100000 in
theorem whole_start {p : Program} {e : Env} {s : State} {m : MethodId} {below : List Frame} {meth : Method} {c : Code} (l : Launch) (hflags : l.flags = flags0) {b L : Nat} {xs : Nat → Int32} (hL : L ≤ 3072) (C0 : lw_At p s m meth c b L xs) : W p l e room_1 s m #[Value.ref b] below meth c s.heap [] 0 0 (lw_Z below #[Value.ref b] s) (entryFrame m ([Value.ref b] : List Value).toArray 4) := by
  obtain ⟨D, hK, hS⟩ := lw_world C0
  obtain ⟨hx, hb, hr, hml, hown, hts0, hX, hbl, hlocks, hgv⟩ := C0
  have hb : c.code = cL_law := hb
  have hown : s.vm.findClass RL = some m.cls := hown
  have hts : ∀ w ∈ wsL_law, w.before #[Value.ref b] s = true := fun w h => hts0 w (wsL_law_in w h)
  have C : LwC p s m c b L xs := ⟨hx, hb, hml, hown, hts, hX, hbl⟩
  have hA : ∀ q, s.heap.size ≤ q → LwA s q := fun q h => h
  obtain ⟨G0, hG0⟩ : ∃ g : Gg, g = (0, fun _ => 0, fun _ => 0, fun _ => 0) := ⟨_, rfl⟩
  obtain ⟨S0, hS0⟩ : ∃ g : Sg, g = (fun _ _ => 0, fun _ _ => 0, fun _ _ => none) := ⟨_, rfl⟩
  have hN0 : gN G0 = 0 := by rw [hG0]; rfl
  have hF0 : Fr G0 S0 := fun k _ => by rw [hS0]; exact ⟨rfl, rfl, rfl⟩
  have hI0 : gi S0 = fun _ _ => 0 := by rw [hS0]; rfl
  have hJ0 : gj S0 = fun _ _ => 0 := by rw [hS0]; rfl
  have hP0 : gp S0 = fun _ _ => none := by rw [hS0]; rfl
  have hws : wS D.2.1 G0 S0 = [] := by unfold wS; rw [hN0]; rfl
  have hW : Wd D (LwA s) s G0 S0 s.heap [] := by
    refine ⟨hK, ?_, ?_, ⟨Nat.le_refl _, fun _ _ _ => rfl, fun q hq => absurd hq List.not_mem_nil⟩, hS⟩
    · rw [hws]
      intro k q hq
      simp at hq
    · rw [hws]
      refine ⟨fun i j x y hx9 hy9 _ => ?_, fun k q hq => ?_⟩
      · simp at hx9
      · simp at hq
  have hl := lv_entry ([.ref b]) (n := 4) (Nat.le_of_ble_eq_true rfl)
  rw [lg_entry_eq]
  generalize (lg_sl ([.ref b]) ++ List.replicate (4 - (lg_sl ([.ref b])).length) Slot.unset).toArray = ls at hl ⊢
  have hl : lv_has ls 4 [(0, .ref b)] := hl
  have q0 := hts (.classLink RL 7 RX10) (List.mem_append_left _ (List.mem_of_getElem? (i := 0) rfl))
  have q1 := hts (.instantiable RX10 10) (List.mem_append_left _ (List.mem_of_getElem? (i := 1) rfl))
  have q2 := hts (.initialized RX10) (List.mem_append_left _ (List.mem_of_getElem? (i := 2) rfl))
  have q3 := hts (.classLink RL 10 RX11) (List.mem_append_left _ (List.mem_of_getElem? (i := 3) rfl))
  have q4 := hts (.instantiable RX11 20) (List.mem_append_left _ (List.mem_of_getElem? (i := 4) rfl))
  have q5 := hts (.initialized RX11) (List.mem_append_left _ (List.mem_of_getElem? (i := 5) rfl))
  have q6 := hts (.methodLink RL 9 yX10_init) (List.mem_append_left _ (List.mem_of_getElem? (i := 7) rfl))
  have q7 := hts (.instanceMethod yX10_init) (List.mem_append_left _ (List.mem_of_getElem? (i := 8) rfl))
  have q8 := hts (.methodLink RL 12 yX11_init) (by decide +kernel)
  have q9 := hts (.instanceMethod yX11_init) (by decide +kernel)
  refine r_newF (ci := 9) (C := RX10) (T := TX10) (N := 10) (fs := [.null, .null, .null, .null, .null, .null, .null, .null, .null, .int 0]) hx hb hts inlX10 tyX10 tyX10_ok hown q0 q1 q2 hW hA hF0 rfl rfl (fun j hj => by rcases (show j = 0 ∨ j = 1 ∨ j = 2 ∨ j = 3 ∨ j = 4 ∨ j = 5 ∨ j = 6 ∨ j = 7 ∨ j = 8 ∨ j = 9 by omega) with rfl | rfl | rfl | rfl | rfl | rfl | rfl | rfl | rfl | rfl <;> rfl) (Nat.le_of_ble_eq_true rfl) (Nat.le_of_ble_eq_true rfl) dL_law_0 (fun ad0 H hW => ?_)
  obtain ⟨G1, hG1⟩ : ∃ g, g = gAdd G0 ad0 9 0 := ⟨_, rfl⟩
  rw [← hG1] at hW
  have hX1 : Ext G0 G1 [(9, 0)] := by rw [hG1]; exact Ext.add
  have hN1 : gN G1 = 1 := by have h9 := hX1.1; rw [hN0] at h9; exact h9
  have hQ0 : gA G1 0 = ad0 := by
    have h9 := gAdd_As (G := G0) (q := ad0) (kd := 9) (zz := 0)
    rw [hN0] at h9
    rw [hG1]; exact h9
  have hkd : gK G1 0 = 9 := (hX1.kz hN0 (Nat.le_refl 0) (by decide)).1
  have hz0 : gZ G1 0 = 0 := (hX1.kz hN0 (Nat.le_refl 0) (by decide)).2
  have hF1 : Fr G1 S0 := hF0.mono (by omega)
  refine lv_dup hx hb dL_law_3 rfl ?_
  refine W.eq (g2 := F0 m 4 ls [.ref (gA G1 0), .ref ad0]) (by rw [hQ0]) ?_
  refine r_callva hW hA (va_runI (As := []) (rest := [.ref ad0]) ⟨hx, hb, hml, hown, hts⟩ (t_X10_init_s l D G1 S0 _ hN1 hkd hz0 hF1 hI0 hJ0 hP0) (cwI 0 hts gL_law_X10_init rfl rfl rfl q2 q6 q7 rfl (by decide +kernel) ⟨Nat.le_of_ble_eq_true rfl, Nat.le_of_ble_eq_true rfl⟩) (r_preS hA hW) rfl rfl hl.1 rfl (lv_room (Nat.le_of_ble_eq_true rfl)) dL_law_4 ⟨(show 0 + 1 + 64 ≤ 600000 by omega), (show 0 + 10 + 8380 ≤ 7302250 by omega)⟩) (fun G2 S2 H locs hp2 hW => ?_)
  obtain ⟨a1, a2, a3, a4, a5, a6, a7, a8⟩ := hp2
  have a1 : gN G2 = 65 := a1
  have a2 : gA G2 0 = gA G1 0 := a2
  have a3 : ∀ k, k < 65 → gK G2 k = K0.getD k 0 ∧ gZ G2 k = Z0.getD k 0 := a3
  have a4 : Fr G2 S2 := a4
  have a5 : LkS G2 S2 LK10 := a5
  have a6 : gi S2 = va_up (fun _ _ => 0) 11 (flR (fun _ => 0) 8 (-1)) := a6
  have a7 : gj S2 = fun _ _ => 0 := a7
  have a8 : ∀ j, j = 40 ∨ j = 48 ∨ j = 56 ∨ j = 64 → gp S2 j = fun _ => none := a8
  refine lv_astore_n (lv' := [(1, .ref ad0), (0, .ref b)]) hx hb dL_law_7 rfl hl (by decide) rfl (fun ls hl => ?_)
  refine r_newF (ci := 10) (C := RX11) (T := TX11) (N := 20) (fs := [.null, .null, .null, .null, .int 0, .null, .null, .int 0, .int 0, .int 0, .int 0, .int 0, .int 0, .int 0, .int 0, .null, .null, .long 0, .null, .int 0]) hx hb hts inlX11 tyX11 tyX11_ok hown q3 q4 q5 hW hA a4 rfl rfl (fun j hj => by rcases (show j = 0 ∨ j = 1 ∨ j = 2 ∨ j = 3 ∨ j = 4 ∨ j = 5 ∨ j = 6 ∨ j = 7 ∨ j = 8 ∨ j = 9 ∨ j = 10 ∨ j = 11 ∨ j = 12 ∨ j = 13 ∨ j = 14 ∨ j = 15 ∨ j = 16 ∨ j = 17 ∨ j = 18 ∨ j = 19 by omega) with rfl | rfl | rfl | rfl | rfl | rfl | rfl | rfl | rfl | rfl | rfl | rfl | rfl | rfl | rfl | rfl | rfl | rfl | rfl | rfl <;> rfl) (Nat.le_of_ble_eq_true rfl) (Nat.le_of_ble_eq_true rfl) dL_law_8 (fun ad1 H hW => ?_)
  obtain ⟨G3, hG3⟩ : ∃ g, g = gAdd G2 ad1 10 0 := ⟨_, rfl⟩
  rw [← hG3] at hW
  have hX3 : Ext G2 G3 [(10, 0)] := by rw [hG3]; exact Ext.add
  have hN3 : gN G3 = 66 := by have h9 := hX3.1; rw [a1] at h9; exact h9
  have hQ1 : gA G3 65 = ad1 := by
    have h9 := gAdd_As (G := G2) (q := ad1) (kd := 10) (zz := 0)
    rw [a1] at h9
    rw [hG3]; exact h9
  have hkd3 : gK G3 65 = 10 := (hX3.kz a1 (Nat.le_refl 65) (by decide)).1
  have hz3 : gZ G3 65 = 0 := (hX3.kz a1 (Nat.le_refl 65) (by decide)).2
  have hF3 : Fr G3 S2 := a4.mono (by omega)
  refine lv_dup hx hb dL_law_11 rfl ?_
  refine W.eq (g2 := F0 m 12 ls [.ref (gA G3 65), .ref ad1]) (by rw [hQ1]) ?_
  refine r_callva hW hA (va_runI (As := []) (rest := [.ref ad1]) ⟨hx, hb, hml, hown, hts⟩ (t_X11_init l D G3 S2 _ 65 66 (by omega) hkd3 hN3 hF3) (cwI 0 hts gL_law_X11_init rfl rfl rfl q5 q8 q9 rfl (by decide +kernel) ⟨Nat.le_of_ble_eq_true rfl, Nat.le_of_ble_eq_true rfl⟩) (r_preS hA hW) rfl rfl hl.1 rfl (lv_room (Nat.le_of_ble_eq_true rfl)) dL_law_12 ⟨(show 0 + 1 + 64 + 1 + 9 ≤ 600000 by omega), (show 0 + 10 + 8380 + 20 + 3352 ≤ 7302250 by omega)⟩) (fun G4 S4 H locs hp4 hW => ?_)
  obtain ⟨b1, b2, b3, b4, b5, b6, b7⟩ := hp4
  have b1 : Ext G3 G4 EX11 := b1
  have hLk : LkS G4 S4 LK11 := b3 LK10 (a5.ext hX3) (by decide +kernel)
  have b4 : ∀ j, j ≠ 66 + 3 → gi S4 j = gi S2 j := b4
  have b5 : ∀ r, r < 8 → gi S4 (66 + 3) r = -1 := b5
  have b6 : gj S4 = gj S2 := b6
  have b7 : ∀ j, j ≠ 65 → j ≠ 66 → gp S4 j = gp S2 j := b7
  have hN4 : gN G4 = 75 := by have h9 := b1.1; rw [hN3] at h9; exact h9
  have e0 : gA G4 0 = ad0 := (b1.2.1 0 (by omega)).1.trans ((hX3.2.1 0 (by omega)).1.trans (a2.trans hQ0))
  have e65 : gA G4 65 = ad1 := (b1.2.1 65 (by omega)).1.trans hQ1
  have hKZ : ∀ k, k < 75 → gK G4 k = K0.getD k 0 ∧ gZ G4 k = Z0.getD k 0 := by
    intro k hk
    by_cases k65 : k < 65
    · have r1 := b1.2.1 k (by omega)
      have r2 := hX3.2.1 k (by omega)
      have r3 := a3 k k65
      exact ⟨r1.2.1.trans (r2.2.1.trans r3.1), r1.2.2.trans (r2.2.2.trans r3.2)⟩
    · by_cases k66 : k = 65
      · subst k66
        have r1 := b1.2.1 65 (by omega)
        exact ⟨r1.2.1.trans hkd3, r1.2.2.trans hz3⟩
      · have r1 := b1.kz (k := k) hN3 (by omega) (show k < 66 + 9 by omega)
        have r2 := kz11 k (by omega) hk
        exact ⟨r1.1.trans r2.1, r1.2.trans r2.2⟩
  have hInv : Inv G4 S4 0 := Inv0 hN4 (fun k hk => (hKZ k hk).1) (fun k hk => (hKZ k hk).2) (fun x hx => (hLk x (lk11 x hx)).1) (hLk (0, 7, 33) (by decide +kernel)).1 (hLk (0, 8, 41) (by decide +kernel)).1 (hLk (14, 4, 28) (by decide +kernel)).1 (hLk (14, 5, 29) (by decide +kernel)).1 (fun k k1 k2 => (b4 k k2).trans (by rw [a6, up_n _ _ k1])) (fun r hr => by rw [b4 11 (by omega), a6, up_s]; unfold flR; rw [if_pos hr]) b5 (b6.trans a7) (fun j hj => (b7 j (by omega) (by omega)).trans (a8 j hj))
  refine lv_astore_n (lv' := [(2, .ref ad1), (1, .ref ad0), (0, .ref b)]) hx hb dL_law_15 rfl hl (by decide) rfl (fun ls hl => ?_)
  refine lv_iconst (v := nI (6 * 0)) hx hb dL_law_16 (by decide) ?_
  refine lv_istore_n (lv' := [(3, .int (nI (6 * 0))), (2, .ref ad1), (1, .ref ad0), (0, .ref b)]) hx hb dL_law_17 rfl hl (by decide) rfl (fun ls hl => ?_)
  have hl9 : LwL ls G4 b 0 := by unfold LwL; rw [e0, e65]; exact hl
  exact lw_loop C hr hlocks hL 600 0 _ _ 0 G4 S4 H locs ls (by omega) (by omega) (by omega) (by omega) (by omega) hInv hW hl9
