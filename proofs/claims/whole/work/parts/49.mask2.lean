def rmX11_markOf : Jvm.Room := { frames := 3, cells := 0, slots := 0, locals := 63 }
set_option maxHeartbeats 4000000 in
set_option maxRecDepth 100000 in
theorem t_X11_markOf_1 (l : Launch) (D : Dc) (G : Gg) (S : Sg) (z : Nat) (hG : GrG G) (hP : GrP G S) (B : Nat → Nat) (c : Nat) (hB1 : BP1 B c) (hc : c < 100000) (hM : ∀ k, k < 140 → gj S 66 k = lN (B k)) (h0 : 0 ≤ (gi S 65 19).toInt) (p : Nat) (hp : p < B 17) (hkn : kdN (B (34 + p)) (B (18 + p)) = 1) : ML l yX11_markOf wsX11_markOf rmX11_markOf D G S z [.ref (gA G 65), .int (nI p)] (fun r S' => r = (lN p + 10 * lN (dueN (B 3) (B 1) (B 2) (B (18 + p)))) ∧ S' = (trcM (trcM S 21) 20)) := by
  refine Met.ofW (cc := cX11_markOf) (maxL := 3) (ret := (some .long)) (by decide +kernel) rfl ?_
  intro pP eE s mM args bl mT cD s₁ bD hml hv
  obtain ⟨rfl, hv⟩ := hv
  have hz := hv.1
  subst hz
  have hx := bD.exec
  have hb := bD.bytes
  have hr := bD.returns
  have hts := atoms_spec (ws := wsX11_markOf) bD.pre
  have hown : s.vm.findClass RX11 = some mM.cls := findClass_of_methodNamed bD.named
  have hlocks := bD.notSynchronized
  have hW := Wd.start hv
  have hA : ∀ q, s.heap.size ≤ q → AW G s.heap.size q := fun q h => Or.inr h
  have hl := lv_entry ([.ref (gA G 65), .int (nI p)]) (n := 3) (Nat.le_of_ble_eq_true rfl)
  rw [lg_entry_eq]
  generalize (lg_sl ([.ref (gA G 65), .int (nI p)]) ++ List.replicate (3 - (lg_sl ([.ref (gA G 65), .int (nI p)])).length) Slot.unset).toArray = ls at hl ⊢
  have hl : lv_has ls 3 [(0, .ref (gA G 65)), (1, .int (nI p))] := hl
  obtain ⟨b0, b1, b2, b3, b4, b5, b6, b7, b8, b9, b10, b11, b12⟩ := id hB1
  have b9p := b9 p hp
  refine lv_aload_n hx hb dX11_markOf_0 rfl (lv_at hl 0 rfl) ?_
  refine lv_iload_n hx hb dX11_markOf_1 rfl (lv_at hl 1 rfl) ?_
  refine r_calli hW hA (va_runV (As := [.int (nI p)]) (rest := []) ⟨hx, hb, hml, hown, hts⟩ (t_X11_kindOf l D G S _ hG hP B c hB1 hc hM p hp) (cwV 1 hts gX11_markOf_X11_kindOf rfl rfl rfl (by decide +kernel) ⟨Nat.le_of_ble_eq_true rfl, Nat.le_of_ble_eq_true rfl⟩) (r_preV (k := 65) hA hW (ci := 10) (C := RX11) (T := TX11) (N := 20) rfl rfl (g_lt hG (by decide)) (g_kd hG (by decide) rfl) rfl rfl) rfl rfl hl.1 rfl (lv_room (Nat.le_of_ble_eq_true rfl)) dX11_markOf_2 ⟨Nat.zero_le _, Nat.zero_le _⟩) (fun r2 S2 H locs hp2 hW => ?_)
  obtain ⟨hs2, rfl⟩ := hp2
  rw [hs2] at hW
  rw [hkn]
  refine lv_istore_n (lv' := [(2, .int 1), (0, .ref (gA G 65)), (1, .int (nI p))]) hx hb dX11_markOf_5 rfl hl (by decide) rfl (fun ls hl => ?_)
  refine lv_iload_n hx hb dX11_markOf_6 rfl (lv_at hl 0 rfl) ?_
  refine lv_iconst (v := 4) hx hb dX11_markOf_7 (by decide) ?_
  refine lv_icmp_ne (tgt := 33) hx hb dX11_markOf_8 (by decide) (fun c8 => ?_) (fun c8 => ?_)
  · skip
    refine lv_iload_n hx hb dX11_markOf_33 rfl (lv_at hl 0 rfl) ?_
    refine lv_iconst (v := 5) hx hb dX11_markOf_34 (by decide) ?_
    refine lv_icmp_ne (tgt := 54) hx hb dX11_markOf_35 (by decide) (fun c35 => ?_) (fun c35 => ?_)
    · skip
      refine lv_aload_n hx hb dX11_markOf_54 rfl (lv_at hl 1 rfl) ?_
      refine lv_iload_n hx hb dX11_markOf_55 rfl (lv_at hl 2 rfl) ?_
      refine r_calll hW hA (va_runV (As := [.int (nI p)]) (rest := []) ⟨hx, hb, hml, hown, hts⟩ (t_X11_keepersMark l D G S _ hG hP B c hB1 hc hM h0 p hp) (cwV 1 hts gX11_markOf_X11_keepersMark rfl rfl rfl (by decide +kernel) ⟨Nat.le_of_ble_eq_true rfl, Nat.le_of_ble_eq_true rfl⟩) (r_preV (k := 65) hA hW (ci := 10) (C := RX11) (T := TX11) (N := 20) rfl rfl (g_lt hG (by decide)) (g_kd hG (by decide) rfl) rfl rfl) rfl rfl hl.1 rfl (lv_room (Nat.le_of_ble_eq_true rfl)) dX11_markOf_56 ⟨Nat.zero_le _, Nat.zero_le _⟩) (fun r56 S56 H locs hp56 hW => ?_)
      obtain ⟨rfl, hs56⟩ := hp56
      rw [hs56] at hW
      refine r_lret hx hb hr hlocks hW ?_ dX11_markOf_59
      exact ⟨rfl, rfl⟩
    · exact absurd c35 (by decide)
  · exact absurd c8 (by decide)

set_option maxHeartbeats 4000000 in
set_option maxRecDepth 100000 in
theorem t_X11_markOf_2 (l : Launch) (D : Dc) (G : Gg) (S : Sg) (z : Nat) (hG : GrG G) (hP : GrP G S) (B : Nat → Nat) (c : Nat) (hB1 : BP1 B c) (hc : c < 100000) (hM : ∀ k, k < 140 → gj S 66 k = lN (B k)) (h0 : 0 ≤ (gi S 65 19).toInt) (p : Nat) (hp : p < B 17) (hkn : kdN (B (34 + p)) (B (18 + p)) = 2) : ML l yX11_markOf wsX11_markOf rmX11_markOf D G S z [.ref (gA G 65), .int (nI p)] (fun r S' => r = (lN p + 10 * lN (dueN (B 3) (B 1) (B 2) (B (18 + p)))) ∧ S' = (trcM (trcM S 21) 20)) := by
  refine Met.ofW (cc := cX11_markOf) (maxL := 3) (ret := (some .long)) (by decide +kernel) rfl ?_
  intro pP eE s mM args bl mT cD s₁ bD hml hv
  obtain ⟨rfl, hv⟩ := hv
  have hz := hv.1
  subst hz
  have hx := bD.exec
  have hb := bD.bytes
  have hr := bD.returns
  have hts := atoms_spec (ws := wsX11_markOf) bD.pre
  have hown : s.vm.findClass RX11 = some mM.cls := findClass_of_methodNamed bD.named
  have hlocks := bD.notSynchronized
  have hW := Wd.start hv
  have hA : ∀ q, s.heap.size ≤ q → AW G s.heap.size q := fun q h => Or.inr h
  have hl := lv_entry ([.ref (gA G 65), .int (nI p)]) (n := 3) (Nat.le_of_ble_eq_true rfl)
  rw [lg_entry_eq]
  generalize (lg_sl ([.ref (gA G 65), .int (nI p)]) ++ List.replicate (3 - (lg_sl ([.ref (gA G 65), .int (nI p)])).length) Slot.unset).toArray = ls at hl ⊢
  have hl : lv_has ls 3 [(0, .ref (gA G 65)), (1, .int (nI p))] := hl
  obtain ⟨b0, b1, b2, b3, b4, b5, b6, b7, b8, b9, b10, b11, b12⟩ := id hB1
  have b9p := b9 p hp
  refine lv_aload_n hx hb dX11_markOf_0 rfl (lv_at hl 0 rfl) ?_
  refine lv_iload_n hx hb dX11_markOf_1 rfl (lv_at hl 1 rfl) ?_
  refine r_calli hW hA (va_runV (As := [.int (nI p)]) (rest := []) ⟨hx, hb, hml, hown, hts⟩ (t_X11_kindOf l D G S _ hG hP B c hB1 hc hM p hp) (cwV 1 hts gX11_markOf_X11_kindOf rfl rfl rfl (by decide +kernel) ⟨Nat.le_of_ble_eq_true rfl, Nat.le_of_ble_eq_true rfl⟩) (r_preV (k := 65) hA hW (ci := 10) (C := RX11) (T := TX11) (N := 20) rfl rfl (g_lt hG (by decide)) (g_kd hG (by decide) rfl) rfl rfl) rfl rfl hl.1 rfl (lv_room (Nat.le_of_ble_eq_true rfl)) dX11_markOf_2 ⟨Nat.zero_le _, Nat.zero_le _⟩) (fun r2 S2 H locs hp2 hW => ?_)
  obtain ⟨hs2, rfl⟩ := hp2
  rw [hs2] at hW
  rw [hkn]
  refine lv_istore_n (lv' := [(2, .int 2), (0, .ref (gA G 65)), (1, .int (nI p))]) hx hb dX11_markOf_5 rfl hl (by decide) rfl (fun ls hl => ?_)
  refine lv_iload_n hx hb dX11_markOf_6 rfl (lv_at hl 0 rfl) ?_
  refine lv_iconst (v := 4) hx hb dX11_markOf_7 (by decide) ?_
  refine lv_icmp_ne (tgt := 33) hx hb dX11_markOf_8 (by decide) (fun c8 => ?_) (fun c8 => ?_)
  · skip
    refine lv_iload_n hx hb dX11_markOf_33 rfl (lv_at hl 0 rfl) ?_
    refine lv_iconst (v := 5) hx hb dX11_markOf_34 (by decide) ?_
    refine lv_icmp_ne (tgt := 54) hx hb dX11_markOf_35 (by decide) (fun c35 => ?_) (fun c35 => ?_)
    · skip
      refine lv_aload_n hx hb dX11_markOf_54 rfl (lv_at hl 1 rfl) ?_
      refine lv_iload_n hx hb dX11_markOf_55 rfl (lv_at hl 2 rfl) ?_
      refine r_calll hW hA (va_runV (As := [.int (nI p)]) (rest := []) ⟨hx, hb, hml, hown, hts⟩ (t_X11_keepersMark l D G S _ hG hP B c hB1 hc hM h0 p hp) (cwV 1 hts gX11_markOf_X11_keepersMark rfl rfl rfl (by decide +kernel) ⟨Nat.le_of_ble_eq_true rfl, Nat.le_of_ble_eq_true rfl⟩) (r_preV (k := 65) hA hW (ci := 10) (C := RX11) (T := TX11) (N := 20) rfl rfl (g_lt hG (by decide)) (g_kd hG (by decide) rfl) rfl rfl) rfl rfl hl.1 rfl (lv_room (Nat.le_of_ble_eq_true rfl)) dX11_markOf_56 ⟨Nat.zero_le _, Nat.zero_le _⟩) (fun r56 S56 H locs hp56 hW => ?_)
      obtain ⟨rfl, hs56⟩ := hp56
      rw [hs56] at hW
      refine r_lret hx hb hr hlocks hW ?_ dX11_markOf_59
      exact ⟨rfl, rfl⟩
    · exact absurd c35 (by decide)
  · exact absurd c8 (by decide)

set_option maxHeartbeats 4000000 in
set_option maxRecDepth 100000 in
theorem t_X11_markOf_5 (l : Launch) (D : Dc) (G : Gg) (S : Sg) (z : Nat) (hG : GrG G) (hP : GrP G S) (B : Nat → Nat) (c : Nat) (hB1 : BP1 B c) (hc : c < 100000) (hM : ∀ k, k < 140 → gj S 66 k = lN (B k)) (h0 : 0 ≤ (gi S 65 19).toInt) (p : Nat) (hp : p < B 17) (hkn : kdN (B (34 + p)) (B (18 + p)) = 5) : ML l yX11_markOf wsX11_markOf rmX11_markOf D G S z [.ref (gA G 65), .int (nI p)] (fun r S' => r = ((lN p + 10 * lN (dueN (B 3) (B 1) (B 2) (B (18 + p)))) - 1000) ∧ S' = (trcM (trcM (trcM S 24) 21) 20)) := by
  refine Met.ofW (cc := cX11_markOf) (maxL := 3) (ret := (some .long)) (by decide +kernel) rfl ?_
  intro pP eE s mM args bl mT cD s₁ bD hml hv
  obtain ⟨rfl, hv⟩ := hv
  have hz := hv.1
  subst hz
  have hx := bD.exec
  have hb := bD.bytes
  have hr := bD.returns
  have hts := atoms_spec (ws := wsX11_markOf) bD.pre
  have hown : s.vm.findClass RX11 = some mM.cls := findClass_of_methodNamed bD.named
  have hlocks := bD.notSynchronized
  have hW := Wd.start hv
  have hA : ∀ q, s.heap.size ≤ q → AW G s.heap.size q := fun q h => Or.inr h
  have hl := lv_entry ([.ref (gA G 65), .int (nI p)]) (n := 3) (Nat.le_of_ble_eq_true rfl)
  rw [lg_entry_eq]
  generalize (lg_sl ([.ref (gA G 65), .int (nI p)]) ++ List.replicate (3 - (lg_sl ([.ref (gA G 65), .int (nI p)])).length) Slot.unset).toArray = ls at hl ⊢
  have hl : lv_has ls 3 [(0, .ref (gA G 65)), (1, .int (nI p))] := hl
  have q0 := hts (.constantLong RX11 156 (1000)) (List.mem_of_getElem? (i := 2) rfl)
  obtain ⟨b0, b1, b2, b3, b4, b5, b6, b7, b8, b9, b10, b11, b12⟩ := id hB1
  have b9p := b9 p hp
  refine lv_aload_n hx hb dX11_markOf_0 rfl (lv_at hl 0 rfl) ?_
  refine lv_iload_n hx hb dX11_markOf_1 rfl (lv_at hl 1 rfl) ?_
  refine r_calli hW hA (va_runV (As := [.int (nI p)]) (rest := []) ⟨hx, hb, hml, hown, hts⟩ (t_X11_kindOf l D G S _ hG hP B c hB1 hc hM p hp) (cwV 1 hts gX11_markOf_X11_kindOf rfl rfl rfl (by decide +kernel) ⟨Nat.le_of_ble_eq_true rfl, Nat.le_of_ble_eq_true rfl⟩) (r_preV (k := 65) hA hW (ci := 10) (C := RX11) (T := TX11) (N := 20) rfl rfl (g_lt hG (by decide)) (g_kd hG (by decide) rfl) rfl rfl) rfl rfl hl.1 rfl (lv_room (Nat.le_of_ble_eq_true rfl)) dX11_markOf_2 ⟨Nat.zero_le _, Nat.zero_le _⟩) (fun r2 S2 H locs hp2 hW => ?_)
  obtain ⟨hs2, rfl⟩ := hp2
  rw [hs2] at hW
  rw [hkn]
  refine lv_istore_n (lv' := [(2, .int 5), (0, .ref (gA G 65)), (1, .int (nI p))]) hx hb dX11_markOf_5 rfl hl (by decide) rfl (fun ls hl => ?_)
  refine lv_iload_n hx hb dX11_markOf_6 rfl (lv_at hl 0 rfl) ?_
  refine lv_iconst (v := 4) hx hb dX11_markOf_7 (by decide) ?_
  refine lv_icmp_ne (tgt := 33) hx hb dX11_markOf_8 (by decide) (fun c8 => ?_) (fun c8 => ?_)
  · skip
    refine lv_iload_n hx hb dX11_markOf_33 rfl (lv_at hl 0 rfl) ?_
    refine lv_iconst (v := 5) hx hb dX11_markOf_34 (by decide) ?_
    refine lv_icmp_ne (tgt := 54) hx hb dX11_markOf_35 (by decide) (fun c35 => ?_) (fun c35 => ?_)
    · exact absurd (by decide) c35
    · skip
      refine lv_aload_n hx hb dX11_markOf_38 rfl (lv_at hl 1 rfl) ?_
      refine lv_bipush (v := 24) hx hb dX11_markOf_39 (by decide) ?_
      refine r_callv hW hA (va_runV (As := [.int 24]) (rest := []) ⟨hx, hb, hml, hown, hts⟩ (t_X11_leave l D G S _ hG hP 24 h0) (cwV 1 hts gX11_markOf_X11_leave rfl rfl rfl (by decide +kernel) ⟨Nat.le_of_ble_eq_true rfl, Nat.le_of_ble_eq_true rfl⟩) (r_preV (k := 65) hA hW (ci := 10) (C := RX11) (T := TX11) (N := 20) rfl rfl (g_lt hG (by decide)) (g_kd hG (by decide) rfl) rfl rfl) rfl rfl hl.1 rfl (lv_room (Nat.le_of_ble_eq_true rfl)) dX11_markOf_41 ⟨Nat.zero_le _, Nat.zero_le _⟩) (fun S41 H locs hp41 hW => ?_)
      rw [hp41] at hW
      refine lv_aload_n hx hb dX11_markOf_44 rfl (lv_at hl 1 rfl) ?_
      refine lv_iload_n hx hb dX11_markOf_45 rfl (lv_at hl 2 rfl) ?_
      refine r_calll hW hA (va_runV (As := [.int (nI p)]) (rest := []) ⟨hx, hb, hml, hown, hts⟩ (t_X11_keepersMark l D G (trcM S 24) _ hG (GrP.trcM hP) B c hB1 hc hM (trcM_0 h0) p hp) (cwV 1 hts gX11_markOf_X11_keepersMark rfl rfl rfl (by decide +kernel) ⟨Nat.le_of_ble_eq_true rfl, Nat.le_of_ble_eq_true rfl⟩) (r_preV (k := 65) hA hW (ci := 10) (C := RX11) (T := TX11) (N := 20) rfl rfl (g_lt hG (by decide)) (g_kd hG (by decide) rfl) rfl rfl) rfl rfl hl.1 rfl (lv_room (Nat.le_of_ble_eq_true rfl)) dX11_markOf_46 ⟨Nat.zero_le _, Nat.zero_le _⟩) (fun r46 S46 H locs hp46 hW => ?_)
      obtain ⟨rfl, hs46⟩ := hp46
      rw [hs46] at hW
      refine lv_ldc2 (v := (1000)) hx hb hown q0 dX11_markOf_49 ?_
      refine lv_lsub hx hb dX11_markOf_52 ?_
      refine r_lret hx hb hr hlocks hW ?_ dX11_markOf_53
      exact ⟨rfl, rfl⟩
  · exact absurd c8 (by decide)

set_option maxHeartbeats 4000000 in
set_option maxRecDepth 100000 in
theorem t_X11_markOf_4 (l : Launch) (D : Dc) (G : Gg) (S : Sg) (z : Nat) (hG : GrG G) (hP : GrP G S) (B : Nat → Nat) (c : Nat) (hB1 : BP1 B c) (hc : c < 100000) (hM : ∀ k, k < 140 → gj S 66 k = lN (B k)) (h0 : 0 ≤ (gi S 65 19).toInt) (p : Nat) (hp : p < B 17) (hkn : kdN (B (34 + p)) (B (18 + p)) = 4) : ML l yX11_markOf wsX11_markOf rmX11_markOf D G S z [.ref (gA G 65), .int (nI p)] (fun r S' => r = (lN p + lN (B (50 + p))) ∧ S' = (trcM (trcM S 22) 20)) := by
  refine Met.ofW (cc := cX11_markOf) (maxL := 3) (ret := (some .long)) (by decide +kernel) rfl ?_
  intro pP eE s mM args bl mT cD s₁ bD hml hv
  obtain ⟨rfl, hv⟩ := hv
  have hz := hv.1
  subst hz
  have hx := bD.exec
  have hb := bD.bytes
  have hr := bD.returns
  have hts := atoms_spec (ws := wsX11_markOf) bD.pre
  have hown : s.vm.findClass RX11 = some mM.cls := findClass_of_methodNamed bD.named
  have hlocks := bD.notSynchronized
  have hW := Wd.start hv
  have hA : ∀ q, s.heap.size ≤ q → AW G s.heap.size q := fun q h => Or.inr h
  have hl := lv_entry ([.ref (gA G 65), .int (nI p)]) (n := 3) (Nat.le_of_ble_eq_true rfl)
  rw [lg_entry_eq]
  generalize (lg_sl ([.ref (gA G 65), .int (nI p)]) ++ List.replicate (3 - (lg_sl ([.ref (gA G 65), .int (nI p)])).length) Slot.unset).toArray = ls at hl ⊢
  have hl : lv_has ls 3 [(0, .ref (gA G 65)), (1, .int (nI p))] := hl
  have q0 := hts (.fieldLink RX11 7 "WoodForTwoModel" "w" "[J") (List.mem_of_getElem? (i := 1) rfl)
  have iX11 : ∀ w ∈ wsX110, w ∈ wsX11_markOf := fun _ h => List.mem_cons_of_mem _ (List.mem_append_right _ (h))
  obtain ⟨b0, b1, b2, b3, b4, b5, b6, b7, b8, b9, b10, b11, b12⟩ := id hB1
  have b9p := b9 p hp
  refine lv_aload_n hx hb dX11_markOf_0 rfl (lv_at hl 0 rfl) ?_
  refine lv_iload_n hx hb dX11_markOf_1 rfl (lv_at hl 1 rfl) ?_
  refine r_calli hW hA (va_runV (As := [.int (nI p)]) (rest := []) ⟨hx, hb, hml, hown, hts⟩ (t_X11_kindOf l D G S _ hG hP B c hB1 hc hM p hp) (cwV 1 hts gX11_markOf_X11_kindOf rfl rfl rfl (by decide +kernel) ⟨Nat.le_of_ble_eq_true rfl, Nat.le_of_ble_eq_true rfl⟩) (r_preV (k := 65) hA hW (ci := 10) (C := RX11) (T := TX11) (N := 20) rfl rfl (g_lt hG (by decide)) (g_kd hG (by decide) rfl) rfl rfl) rfl rfl hl.1 rfl (lv_room (Nat.le_of_ble_eq_true rfl)) dX11_markOf_2 ⟨Nat.zero_le _, Nat.zero_le _⟩) (fun r2 S2 H locs hp2 hW => ?_)
  obtain ⟨hs2, rfl⟩ := hp2
  rw [hs2] at hW
  rw [hkn]
  refine lv_istore_n (lv' := [(2, .int 4), (0, .ref (gA G 65)), (1, .int (nI p))]) hx hb dX11_markOf_5 rfl hl (by decide) rfl (fun ls hl => ?_)
  refine lv_iload_n hx hb dX11_markOf_6 rfl (lv_at hl 0 rfl) ?_
  refine lv_iconst (v := 4) hx hb dX11_markOf_7 (by decide) ?_
  refine lv_icmp_ne (tgt := 33) hx hb dX11_markOf_8 (by decide) (fun c8 => ?_) (fun c8 => ?_)
  · exact absurd (by decide) c8
  · skip
    refine lv_aload_n hx hb dX11_markOf_11 rfl (lv_at hl 1 rfl) ?_
    refine lv_bipush (v := 22) hx hb dX11_markOf_12 (by decide) ?_
    refine r_callv hW hA (va_runV (As := [.int 22]) (rest := []) ⟨hx, hb, hml, hown, hts⟩ (t_X11_leave l D G S _ hG hP 22 h0) (cwV 1 hts gX11_markOf_X11_leave rfl rfl rfl (by decide +kernel) ⟨Nat.le_of_ble_eq_true rfl, Nat.le_of_ble_eq_true rfl⟩) (r_preV (k := 65) hA hW (ci := 10) (C := RX11) (T := TX11) (N := 20) rfl rfl (g_lt hG (by decide)) (g_kd hG (by decide) rfl) rfl rfl) rfl rfl hl.1 rfl (lv_room (Nat.le_of_ble_eq_true rfl)) dX11_markOf_14 ⟨Nat.zero_le _, Nat.zero_le _⟩) (fun S14 H locs hp14 hW => ?_)
    rw [hp14] at hW
    refine lv_aload_n hx hb dX11_markOf_17 rfl (lv_at hl 1 rfl) ?_
    refine lv_iload_n hx hb dX11_markOf_18 rfl (lv_at hl 2 rfl) ?_
    refine r_calll hW hA (va_runV (As := [.int (nI p)]) (rest := []) ⟨hx, hb, hml, hown, hts⟩ (t_X11_lentMark l D G (trcM S 22) _ hG (GrP.trcM hP) B c hB1 hc hM (trcM_0 h0) p hp) (cwV 1 hts gX11_markOf_X11_lentMark rfl rfl rfl (by decide +kernel) ⟨Nat.le_of_ble_eq_true rfl, Nat.le_of_ble_eq_true rfl⟩) (r_preV (k := 65) hA hW (ci := 10) (C := RX11) (T := TX11) (N := 20) rfl rfl (g_lt hG (by decide)) (g_kd hG (by decide) rfl) rfl rfl) rfl rfl hl.1 rfl (lv_room (Nat.le_of_ble_eq_true rfl)) dX11_markOf_19 ⟨Nat.zero_le _, Nat.zero_le _⟩) (fun r19 S19 H locs hp19 hW => ?_)
    obtain ⟨rfl, hs19⟩ := hp19
    rw [hs19] at hW
    refine lv_aload_n hx hb dX11_markOf_22 rfl (lv_at hl 1 rfl) ?_
    refine r_getr (ci := 10) (C := RX11) (T := TX11) (N := 20) hx hb hts iX11 hown hW rfl 65 0 rfl (g_lt hG (by decide)) (g_kd hG (by decide) rfl) (by decide) q0 (fun _ h9 => h9) ((GrP.trcM (GrP.trcM hP)) _ (List.mem_of_getElem? (i := 60) rfl)) rfl rfl dX11_markOf_23 ?_
    refine lv_bipush (v := 50) hx hb dX11_markOf_26 (by decide) ?_
    refine lv_iload_n hx hb dX11_markOf_28 rfl (lv_at hl 2 rfl) ?_
    refine lv_iadd hx hb dX11_markOf_29 ?_
    rw [show ((50 + (nI p)) : Int32) = (nI (50 + p)) from n_add 50 p]
    refine r_lald hx hb hW 66 rfl (g_lt hG (by decide)) (g_kd hG (by decide) rfl) (g_ix hG (c := 560) (by decide) rfl (n_inI (by omega) (by decide))) (lN (B (50 + p))) (by rw [n_clamp (by omega)]; exact (hM (50 + p) (by omega))) dX11_markOf_30 ?_
    refine lv_ladd hx hb dX11_markOf_31 ?_
    rw [show (((lN p) + (lN (B (50 + p)))) : Int64) = (lN (p + (B (50 + p)))) from lN_add p (B (50 + p))]
    refine r_lret hx hb hr hlocks hW ?_ dX11_markOf_32
    exact ⟨rfl, rfl⟩

def rmX11_keepersSize : Jvm.Room := { frames := 4, cells := 0, slots := 0, locals := 85 }
set_option maxHeartbeats 4000000 in
set_option maxRecDepth 100000 in
theorem t_X11_keepersSize_1 (l : Launch) (D : Dc) (G : Gg) (S : Sg) (z : Nat) (hG : GrG G) (hP : GrP G S) (B : Nat → Nat) (c : Nat) (hB1 : BP1 B c) (hc : c < 100000) (hM : ∀ k, k < 140 → gj S 66 k = lN (B k)) (h0 : 0 ≤ (gi S 65 19).toInt) (p : Nat) (hp : p < B 17) (hkn : kdN (B (34 + p)) (B (18 + p)) = 1) : ML l yX11_keepersSize wsX11_keepersSize rmX11_keepersSize D G S z [.ref (gA G 65), .int (nI p)] (fun r S' => r = ((lN (B (18 + p))) + (lN p + 10 * lN (dueN (B 3) (B 1) (B 2) (B (18 + p))))) ∧ S' = (trcM (trcM (trcM (trcM S 11) 10) 21) 20)) := by
  refine Met.ofW (cc := cX11_keepersSize) (maxL := 4) (ret := (some .long)) (by decide +kernel) rfl ?_
  intro pP eE s mM args bl mT cD s₁ bD hml hv
  obtain ⟨rfl, hv⟩ := hv
  have hz := hv.1
  subst hz
  have hx := bD.exec
  have hb := bD.bytes
  have hr := bD.returns
  have hts := atoms_spec (ws := wsX11_keepersSize) bD.pre
  have hown : s.vm.findClass RX11 = some mM.cls := findClass_of_methodNamed bD.named
  have hlocks := bD.notSynchronized
  have hW := Wd.start hv
  have hA : ∀ q, s.heap.size ≤ q → AW G s.heap.size q := fun q h => Or.inr h
  have hl := lv_entry ([.ref (gA G 65), .int (nI p)]) (n := 4) (Nat.le_of_ble_eq_true rfl)
  rw [lg_entry_eq]
  generalize (lg_sl ([.ref (gA G 65), .int (nI p)]) ++ List.replicate (4 - (lg_sl ([.ref (gA G 65), .int (nI p)])).length) Slot.unset).toArray = ls at hl ⊢
  have hl : lv_has ls 4 [(0, .ref (gA G 65)), (1, .int (nI p))] := hl
  obtain ⟨b0, b1, b2, b3, b4, b5, b6, b7, b8, b9, b10, b11, b12⟩ := id hB1
  have b9p := b9 p hp
  refine lv_aload_n hx hb dX11_keepersSize_0 rfl (lv_at hl 0 rfl) ?_
  refine lv_bipush (v := 11) hx hb dX11_keepersSize_1 (by decide) ?_
  refine r_callv hW hA (va_runV (As := [.int 11]) (rest := []) ⟨hx, hb, hml, hown, hts⟩ (t_X11_leave l D G S _ hG hP 11 h0) (cwV 1 hts gX11_keepersSize_X11_leave rfl rfl rfl (by decide +kernel) ⟨Nat.le_of_ble_eq_true rfl, Nat.le_of_ble_eq_true rfl⟩) (r_preV (k := 65) hA hW (ci := 10) (C := RX11) (T := TX11) (N := 20) rfl rfl (g_lt hG (by decide)) (g_kd hG (by decide) rfl) rfl rfl) rfl rfl hl.1 rfl (lv_room (Nat.le_of_ble_eq_true rfl)) dX11_keepersSize_3 ⟨Nat.zero_le _, Nat.zero_le _⟩) (fun S3 H locs hp3 hW => ?_)
  rw [hp3] at hW
  refine lv_aload_n hx hb dX11_keepersSize_6 rfl (lv_at hl 0 rfl) ?_
  refine lv_iload_n hx hb dX11_keepersSize_7 rfl (lv_at hl 1 rfl) ?_
  refine r_calll hW hA (va_runV (As := [.int (nI p)]) (rest := []) ⟨hx, hb, hml, hown, hts⟩ (t_X11_lentSize l D G (trcM S 11) _ hG (GrP.trcM hP) B c hB1 hc hM (trcM_0 h0) p hp) (cwV 1 hts gX11_keepersSize_X11_lentSize rfl rfl rfl (by decide +kernel) ⟨Nat.le_of_ble_eq_true rfl, Nat.le_of_ble_eq_true rfl⟩) (r_preV (k := 65) hA hW (ci := 10) (C := RX11) (T := TX11) (N := 20) rfl rfl (g_lt hG (by decide)) (g_kd hG (by decide) rfl) rfl rfl) rfl rfl hl.1 rfl (lv_room (Nat.le_of_ble_eq_true rfl)) dX11_keepersSize_8 ⟨Nat.zero_le _, Nat.zero_le _⟩) (fun r8 S8 H locs hp8 hW => ?_)
  obtain ⟨rfl, hs8⟩ := hp8
  rw [hs8] at hW
  refine lv_lstore_n (lv' := [(2, .long (lN (B (18 + p)))), (0, .ref (gA G 65)), (1, .int (nI p))]) hx hb dX11_keepersSize_11 rfl hl (by decide) rfl (fun ls hl => ?_)
  refine lv_lload_n hx hb dX11_keepersSize_12 rfl (lv_at hl 0 rfl) ?_
  refine lv_aload_n hx hb dX11_keepersSize_13 rfl (lv_at hl 1 rfl) ?_
  refine lv_iload_n hx hb dX11_keepersSize_14 rfl (lv_at hl 2 rfl) ?_
  refine r_calll hW hA (va_runV (As := [.int (nI p)]) (rest := [.long (lN (B (18 + p)))]) ⟨hx, hb, hml, hown, hts⟩ (t_X11_markOf_1 l D G (trcM (trcM S 11) 10) _ hG (GrP.trcM (GrP.trcM hP)) B c hB1 hc hM (trcM_0 (trcM_0 h0)) p hp hkn) (cwV 1 hts gX11_keepersSize_X11_markOf rfl rfl rfl (by decide +kernel) ⟨Nat.le_of_ble_eq_true rfl, Nat.le_of_ble_eq_true rfl⟩) (r_preV (k := 65) hA hW (ci := 10) (C := RX11) (T := TX11) (N := 20) rfl rfl (g_lt hG (by decide)) (g_kd hG (by decide) rfl) rfl rfl) rfl rfl hl.1 rfl (lv_room (Nat.le_of_ble_eq_true rfl)) dX11_keepersSize_15 ⟨Nat.zero_le _, Nat.zero_le _⟩) (fun r15 S15 H locs hp15 hW => ?_)
  obtain ⟨rfl, hs15⟩ := hp15
  rw [hs15] at hW
  refine lv_ladd hx hb dX11_keepersSize_18 ?_
  refine r_lret hx hb hr hlocks hW ?_ dX11_keepersSize_19
  exact ⟨rfl, rfl⟩

set_option maxHeartbeats 4000000 in
set_option maxRecDepth 100000 in
theorem t_X11_keepersSize_2 (l : Launch) (D : Dc) (G : Gg) (S : Sg) (z : Nat) (hG : GrG G) (hP : GrP G S) (B : Nat → Nat) (c : Nat) (hB1 : BP1 B c) (hc : c < 100000) (hM : ∀ k, k < 140 → gj S 66 k = lN (B k)) (h0 : 0 ≤ (gi S 65 19).toInt) (p : Nat) (hp : p < B 17) (hkn : kdN (B (34 + p)) (B (18 + p)) = 2) : ML l yX11_keepersSize wsX11_keepersSize rmX11_keepersSize D G S z [.ref (gA G 65), .int (nI p)] (fun r S' => r = ((lN (B (18 + p))) + (lN p + 10 * lN (dueN (B 3) (B 1) (B 2) (B (18 + p))))) ∧ S' = (trcM (trcM (trcM (trcM S 11) 10) 21) 20)) := by
  refine Met.ofW (cc := cX11_keepersSize) (maxL := 4) (ret := (some .long)) (by decide +kernel) rfl ?_
  intro pP eE s mM args bl mT cD s₁ bD hml hv
  obtain ⟨rfl, hv⟩ := hv
  have hz := hv.1
  subst hz
  have hx := bD.exec
  have hb := bD.bytes
  have hr := bD.returns
  have hts := atoms_spec (ws := wsX11_keepersSize) bD.pre
  have hown : s.vm.findClass RX11 = some mM.cls := findClass_of_methodNamed bD.named
  have hlocks := bD.notSynchronized
  have hW := Wd.start hv
  have hA : ∀ q, s.heap.size ≤ q → AW G s.heap.size q := fun q h => Or.inr h
  have hl := lv_entry ([.ref (gA G 65), .int (nI p)]) (n := 4) (Nat.le_of_ble_eq_true rfl)
  rw [lg_entry_eq]
  generalize (lg_sl ([.ref (gA G 65), .int (nI p)]) ++ List.replicate (4 - (lg_sl ([.ref (gA G 65), .int (nI p)])).length) Slot.unset).toArray = ls at hl ⊢
  have hl : lv_has ls 4 [(0, .ref (gA G 65)), (1, .int (nI p))] := hl
  obtain ⟨b0, b1, b2, b3, b4, b5, b6, b7, b8, b9, b10, b11, b12⟩ := id hB1
  have b9p := b9 p hp
  refine lv_aload_n hx hb dX11_keepersSize_0 rfl (lv_at hl 0 rfl) ?_
  refine lv_bipush (v := 11) hx hb dX11_keepersSize_1 (by decide) ?_
  refine r_callv hW hA (va_runV (As := [.int 11]) (rest := []) ⟨hx, hb, hml, hown, hts⟩ (t_X11_leave l D G S _ hG hP 11 h0) (cwV 1 hts gX11_keepersSize_X11_leave rfl rfl rfl (by decide +kernel) ⟨Nat.le_of_ble_eq_true rfl, Nat.le_of_ble_eq_true rfl⟩) (r_preV (k := 65) hA hW (ci := 10) (C := RX11) (T := TX11) (N := 20) rfl rfl (g_lt hG (by decide)) (g_kd hG (by decide) rfl) rfl rfl) rfl rfl hl.1 rfl (lv_room (Nat.le_of_ble_eq_true rfl)) dX11_keepersSize_3 ⟨Nat.zero_le _, Nat.zero_le _⟩) (fun S3 H locs hp3 hW => ?_)
  rw [hp3] at hW
  refine lv_aload_n hx hb dX11_keepersSize_6 rfl (lv_at hl 0 rfl) ?_
  refine lv_iload_n hx hb dX11_keepersSize_7 rfl (lv_at hl 1 rfl) ?_
  refine r_calll hW hA (va_runV (As := [.int (nI p)]) (rest := []) ⟨hx, hb, hml, hown, hts⟩ (t_X11_lentSize l D G (trcM S 11) _ hG (GrP.trcM hP) B c hB1 hc hM (trcM_0 h0) p hp) (cwV 1 hts gX11_keepersSize_X11_lentSize rfl rfl rfl (by decide +kernel) ⟨Nat.le_of_ble_eq_true rfl, Nat.le_of_ble_eq_true rfl⟩) (r_preV (k := 65) hA hW (ci := 10) (C := RX11) (T := TX11) (N := 20) rfl rfl (g_lt hG (by decide)) (g_kd hG (by decide) rfl) rfl rfl) rfl rfl hl.1 rfl (lv_room (Nat.le_of_ble_eq_true rfl)) dX11_keepersSize_8 ⟨Nat.zero_le _, Nat.zero_le _⟩) (fun r8 S8 H locs hp8 hW => ?_)
  obtain ⟨rfl, hs8⟩ := hp8
  rw [hs8] at hW
  refine lv_lstore_n (lv' := [(2, .long (lN (B (18 + p)))), (0, .ref (gA G 65)), (1, .int (nI p))]) hx hb dX11_keepersSize_11 rfl hl (by decide) rfl (fun ls hl => ?_)
  refine lv_lload_n hx hb dX11_keepersSize_12 rfl (lv_at hl 0 rfl) ?_
  refine lv_aload_n hx hb dX11_keepersSize_13 rfl (lv_at hl 1 rfl) ?_
  refine lv_iload_n hx hb dX11_keepersSize_14 rfl (lv_at hl 2 rfl) ?_
  refine r_calll hW hA (va_runV (As := [.int (nI p)]) (rest := [.long (lN (B (18 + p)))]) ⟨hx, hb, hml, hown, hts⟩ (t_X11_markOf_2 l D G (trcM (trcM S 11) 10) _ hG (GrP.trcM (GrP.trcM hP)) B c hB1 hc hM (trcM_0 (trcM_0 h0)) p hp hkn) (cwV 1 hts gX11_keepersSize_X11_markOf rfl rfl rfl (by decide +kernel) ⟨Nat.le_of_ble_eq_true rfl, Nat.le_of_ble_eq_true rfl⟩) (r_preV (k := 65) hA hW (ci := 10) (C := RX11) (T := TX11) (N := 20) rfl rfl (g_lt hG (by decide)) (g_kd hG (by decide) rfl) rfl rfl) rfl rfl hl.1 rfl (lv_room (Nat.le_of_ble_eq_true rfl)) dX11_keepersSize_15 ⟨Nat.zero_le _, Nat.zero_le _⟩) (fun r15 S15 H locs hp15 hW => ?_)
  obtain ⟨rfl, hs15⟩ := hp15
  rw [hs15] at hW
  refine lv_ladd hx hb dX11_keepersSize_18 ?_
  refine r_lret hx hb hr hlocks hW ?_ dX11_keepersSize_19
  exact ⟨rfl, rfl⟩

set_option maxHeartbeats 4000000 in
set_option maxRecDepth 100000 in
theorem t_X11_keepersSize_5 (l : Launch) (D : Dc) (G : Gg) (S : Sg) (z : Nat) (hG : GrG G) (hP : GrP G S) (B : Nat → Nat) (c : Nat) (hB1 : BP1 B c) (hc : c < 100000) (hM : ∀ k, k < 140 → gj S 66 k = lN (B k)) (h0 : 0 ≤ (gi S 65 19).toInt) (p : Nat) (hp : p < B 17) (hkn : kdN (B (34 + p)) (B (18 + p)) = 5) : ML l yX11_keepersSize wsX11_keepersSize rmX11_keepersSize D G S z [.ref (gA G 65), .int (nI p)] (fun r S' => r = ((lN (B (18 + p))) + ((lN p + 10 * lN (dueN (B 3) (B 1) (B 2) (B (18 + p)))) - 1000)) ∧ S' = (trcM (trcM (trcM (trcM (trcM S 11) 10) 24) 21) 20)) := by
  refine Met.ofW (cc := cX11_keepersSize) (maxL := 4) (ret := (some .long)) (by decide +kernel) rfl ?_
  intro pP eE s mM args bl mT cD s₁ bD hml hv
  obtain ⟨rfl, hv⟩ := hv
  have hz := hv.1
  subst hz
  have hx := bD.exec
  have hb := bD.bytes
  have hr := bD.returns
  have hts := atoms_spec (ws := wsX11_keepersSize) bD.pre
  have hown : s.vm.findClass RX11 = some mM.cls := findClass_of_methodNamed bD.named
  have hlocks := bD.notSynchronized
  have hW := Wd.start hv
  have hA : ∀ q, s.heap.size ≤ q → AW G s.heap.size q := fun q h => Or.inr h
  have hl := lv_entry ([.ref (gA G 65), .int (nI p)]) (n := 4) (Nat.le_of_ble_eq_true rfl)
  rw [lg_entry_eq]
  generalize (lg_sl ([.ref (gA G 65), .int (nI p)]) ++ List.replicate (4 - (lg_sl ([.ref (gA G 65), .int (nI p)])).length) Slot.unset).toArray = ls at hl ⊢
  have hl : lv_has ls 4 [(0, .ref (gA G 65)), (1, .int (nI p))] := hl
  obtain ⟨b0, b1, b2, b3, b4, b5, b6, b7, b8, b9, b10, b11, b12⟩ := id hB1
  have b9p := b9 p hp
  refine lv_aload_n hx hb dX11_keepersSize_0 rfl (lv_at hl 0 rfl) ?_
  refine lv_bipush (v := 11) hx hb dX11_keepersSize_1 (by decide) ?_
  refine r_callv hW hA (va_runV (As := [.int 11]) (rest := []) ⟨hx, hb, hml, hown, hts⟩ (t_X11_leave l D G S _ hG hP 11 h0) (cwV 1 hts gX11_keepersSize_X11_leave rfl rfl rfl (by decide +kernel) ⟨Nat.le_of_ble_eq_true rfl, Nat.le_of_ble_eq_true rfl⟩) (r_preV (k := 65) hA hW (ci := 10) (C := RX11) (T := TX11) (N := 20) rfl rfl (g_lt hG (by decide)) (g_kd hG (by decide) rfl) rfl rfl) rfl rfl hl.1 rfl (lv_room (Nat.le_of_ble_eq_true rfl)) dX11_keepersSize_3 ⟨Nat.zero_le _, Nat.zero_le _⟩) (fun S3 H locs hp3 hW => ?_)
  rw [hp3] at hW
  refine lv_aload_n hx hb dX11_keepersSize_6 rfl (lv_at hl 0 rfl) ?_
  refine lv_iload_n hx hb dX11_keepersSize_7 rfl (lv_at hl 1 rfl) ?_
  refine r_calll hW hA (va_runV (As := [.int (nI p)]) (rest := []) ⟨hx, hb, hml, hown, hts⟩ (t_X11_lentSize l D G (trcM S 11) _ hG (GrP.trcM hP) B c hB1 hc hM (trcM_0 h0) p hp) (cwV 1 hts gX11_keepersSize_X11_lentSize rfl rfl rfl (by decide +kernel) ⟨Nat.le_of_ble_eq_true rfl, Nat.le_of_ble_eq_true rfl⟩) (r_preV (k := 65) hA hW (ci := 10) (C := RX11) (T := TX11) (N := 20) rfl rfl (g_lt hG (by decide)) (g_kd hG (by decide) rfl) rfl rfl) rfl rfl hl.1 rfl (lv_room (Nat.le_of_ble_eq_true rfl)) dX11_keepersSize_8 ⟨Nat.zero_le _, Nat.zero_le _⟩) (fun r8 S8 H locs hp8 hW => ?_)
  obtain ⟨rfl, hs8⟩ := hp8
  rw [hs8] at hW
  refine lv_lstore_n (lv' := [(2, .long (lN (B (18 + p)))), (0, .ref (gA G 65)), (1, .int (nI p))]) hx hb dX11_keepersSize_11 rfl hl (by decide) rfl (fun ls hl => ?_)
  refine lv_lload_n hx hb dX11_keepersSize_12 rfl (lv_at hl 0 rfl) ?_
  refine lv_aload_n hx hb dX11_keepersSize_13 rfl (lv_at hl 1 rfl) ?_
  refine lv_iload_n hx hb dX11_keepersSize_14 rfl (lv_at hl 2 rfl) ?_
  refine r_calll hW hA (va_runV (As := [.int (nI p)]) (rest := [.long (lN (B (18 + p)))]) ⟨hx, hb, hml, hown, hts⟩ (t_X11_markOf_5 l D G (trcM (trcM S 11) 10) _ hG (GrP.trcM (GrP.trcM hP)) B c hB1 hc hM (trcM_0 (trcM_0 h0)) p hp hkn) (cwV 1 hts gX11_keepersSize_X11_markOf rfl rfl rfl (by decide +kernel) ⟨Nat.le_of_ble_eq_true rfl, Nat.le_of_ble_eq_true rfl⟩) (r_preV (k := 65) hA hW (ci := 10) (C := RX11) (T := TX11) (N := 20) rfl rfl (g_lt hG (by decide)) (g_kd hG (by decide) rfl) rfl rfl) rfl rfl hl.1 rfl (lv_room (Nat.le_of_ble_eq_true rfl)) dX11_keepersSize_15 ⟨Nat.zero_le _, Nat.zero_le _⟩) (fun r15 S15 H locs hp15 hW => ?_)
  obtain ⟨rfl, hs15⟩ := hp15
  rw [hs15] at hW
  refine lv_ladd hx hb dX11_keepersSize_18 ?_
  refine r_lret hx hb hr hlocks hW ?_ dX11_keepersSize_19
  exact ⟨rfl, rfl⟩

def rmX11_noneSize : Jvm.Room := { frames := 2, cells := 0, slots := 0, locals := 42 }
set_option maxHeartbeats 4000000 in
set_option maxRecDepth 100000 in
theorem t_X11_noneSize (l : Launch) (D : Dc) (G : Gg) (S : Sg) (z : Nat) (hG : GrG G) (hP : GrP G S) (B : Nat → Nat) (c : Nat) (hB1 : BP1 B c) (hc : c < 100000) (hM : ∀ k, k < 140 → gj S 66 k = lN (B k)) (h0 : 0 ≤ (gi S 65 19).toInt) (p : Nat) (hp : p < B 17) : ML l yX11_noneSize wsX11_noneSize rmX11_noneSize D G S z [.ref (gA G 65), .int (nI p)] (fun r S' => r = ((lN (B (18 + p))) - 100) ∧ S' = (trcM (trcM S 13) 10)) := by
  refine Met.ofW (cc := cX11_noneSize) (maxL := 2) (ret := (some .long)) (by decide +kernel) rfl ?_
  intro pP eE s mM args bl mT cD s₁ bD hml hv
  obtain ⟨rfl, hv⟩ := hv
  have hz := hv.1
  subst hz
  have hx := bD.exec
  have hb := bD.bytes
  have hr := bD.returns
  have hts := atoms_spec (ws := wsX11_noneSize) bD.pre
  have hown : s.vm.findClass RX11 = some mM.cls := findClass_of_methodNamed bD.named
  have hlocks := bD.notSynchronized
  have hW := Wd.start hv
  have hA : ∀ q, s.heap.size ≤ q → AW G s.heap.size q := fun q h => Or.inr h
  have hl := lv_entry ([.ref (gA G 65), .int (nI p)]) (n := 2) (Nat.le_of_ble_eq_true rfl)
  rw [lg_entry_eq]
  generalize (lg_sl ([.ref (gA G 65), .int (nI p)]) ++ List.replicate (2 - (lg_sl ([.ref (gA G 65), .int (nI p)])).length) Slot.unset).toArray = ls at hl ⊢
  have hl : lv_has ls 2 [(0, .ref (gA G 65)), (1, .int (nI p))] := hl
  have q0 := hts (.constantLong RX11 154 (100)) (List.mem_of_getElem? (i := 1) rfl)
  obtain ⟨b0, b1, b2, b3, b4, b5, b6, b7, b8, b9, b10, b11, b12⟩ := id hB1
  have b9p := b9 p hp
  refine lv_aload_n hx hb dX11_noneSize_0 rfl (lv_at hl 0 rfl) ?_
  refine lv_bipush (v := 13) hx hb dX11_noneSize_1 (by decide) ?_
  refine r_callv hW hA (va_runV (As := [.int 13]) (rest := []) ⟨hx, hb, hml, hown, hts⟩ (t_X11_leave l D G S _ hG hP 13 h0) (cwV 1 hts gX11_noneSize_X11_leave rfl rfl rfl (by decide +kernel) ⟨Nat.le_of_ble_eq_true rfl, Nat.le_of_ble_eq_true rfl⟩) (r_preV (k := 65) hA hW (ci := 10) (C := RX11) (T := TX11) (N := 20) rfl rfl (g_lt hG (by decide)) (g_kd hG (by decide) rfl) rfl rfl) rfl rfl hl.1 rfl (lv_room (Nat.le_of_ble_eq_true rfl)) dX11_noneSize_3 ⟨Nat.zero_le _, Nat.zero_le _⟩) (fun S3 H locs hp3 hW => ?_)
  rw [hp3] at hW
  refine lv_aload_n hx hb dX11_noneSize_6 rfl (lv_at hl 0 rfl) ?_
  refine lv_iload_n hx hb dX11_noneSize_7 rfl (lv_at hl 1 rfl) ?_
  refine r_calll hW hA (va_runV (As := [.int (nI p)]) (rest := []) ⟨hx, hb, hml, hown, hts⟩ (t_X11_lentSize l D G (trcM S 13) _ hG (GrP.trcM hP) B c hB1 hc hM (trcM_0 h0) p hp) (cwV 1 hts gX11_noneSize_X11_lentSize rfl rfl rfl (by decide +kernel) ⟨Nat.le_of_ble_eq_true rfl, Nat.le_of_ble_eq_true rfl⟩) (r_preV (k := 65) hA hW (ci := 10) (C := RX11) (T := TX11) (N := 20) rfl rfl (g_lt hG (by decide)) (g_kd hG (by decide) rfl) rfl rfl) rfl rfl hl.1 rfl (lv_room (Nat.le_of_ble_eq_true rfl)) dX11_noneSize_8 ⟨Nat.zero_le _, Nat.zero_le _⟩) (fun r8 S8 H locs hp8 hW => ?_)
  obtain ⟨rfl, hs8⟩ := hp8
  rw [hs8] at hW
  refine lv_ldc2 (v := (100)) hx hb hown q0 dX11_noneSize_11 ?_
  refine lv_lsub hx hb dX11_noneSize_14 ?_
  refine r_lret hx hb hr hlocks hW ?_ dX11_noneSize_15
  exact ⟨rfl, rfl⟩

def rmX11_sizeOf : Jvm.Room := { frames := 5, cells := 0, slots := 0, locals := 108 }
set_option maxHeartbeats 4000000 in
set_option maxRecDepth 100000 in
theorem t_X11_sizeOf_1 (l : Launch) (D : Dc) (G : Gg) (S : Sg) (z : Nat) (hG : GrG G) (hP : GrP G S) (B : Nat → Nat) (c : Nat) (hB1 : BP1 B c) (hc : c < 100000) (hM : ∀ k, k < 140 → gj S 66 k = lN (B k)) (h0 : 0 ≤ (gi S 65 19).toInt) (p : Nat) (hp : p < B 17) (hkn : kdN (B (34 + p)) (B (18 + p)) = 1) : ML l yX11_sizeOf wsX11_sizeOf rmX11_sizeOf D G S z [.ref (gA G 65), .int (nI p)] (fun r S' => r = ((lN (B (18 + p))) + (lN p + 10 * lN (dueN (B 3) (B 1) (B 2) (B (18 + p))))) ∧ S' = (trcM (trcM (trcM (trcM S 11) 10) 21) 20)) := by
  refine Met.ofW (cc := cX11_sizeOf) (maxL := 3) (ret := (some .long)) (by decide +kernel) rfl ?_
  intro pP eE s mM args bl mT cD s₁ bD hml hv
  obtain ⟨rfl, hv⟩ := hv
  have hz := hv.1
  subst hz
  have hx := bD.exec
  have hb := bD.bytes
  have hr := bD.returns
  have hts := atoms_spec (ws := wsX11_sizeOf) bD.pre
  have hown : s.vm.findClass RX11 = some mM.cls := findClass_of_methodNamed bD.named
  have hlocks := bD.notSynchronized
  have hW := Wd.start hv
  have hA : ∀ q, s.heap.size ≤ q → AW G s.heap.size q := fun q h => Or.inr h
  have hl := lv_entry ([.ref (gA G 65), .int (nI p)]) (n := 3) (Nat.le_of_ble_eq_true rfl)
  rw [lg_entry_eq]
  generalize (lg_sl ([.ref (gA G 65), .int (nI p)]) ++ List.replicate (3 - (lg_sl ([.ref (gA G 65), .int (nI p)])).length) Slot.unset).toArray = ls at hl ⊢
  have hl : lv_has ls 3 [(0, .ref (gA G 65)), (1, .int (nI p))] := hl
  obtain ⟨b0, b1, b2, b3, b4, b5, b6, b7, b8, b9, b10, b11, b12⟩ := id hB1
  have b9p := b9 p hp
  refine lv_aload_n hx hb dX11_sizeOf_0 rfl (lv_at hl 0 rfl) ?_
  refine lv_iload_n hx hb dX11_sizeOf_1 rfl (lv_at hl 1 rfl) ?_
  refine r_calli hW hA (va_runV (As := [.int (nI p)]) (rest := []) ⟨hx, hb, hml, hown, hts⟩ (t_X11_kindOf l D G S _ hG hP B c hB1 hc hM p hp) (cwV 1 hts gX11_sizeOf_X11_kindOf rfl rfl rfl (by decide +kernel) ⟨Nat.le_of_ble_eq_true rfl, Nat.le_of_ble_eq_true rfl⟩) (r_preV (k := 65) hA hW (ci := 10) (C := RX11) (T := TX11) (N := 20) rfl rfl (g_lt hG (by decide)) (g_kd hG (by decide) rfl) rfl rfl) rfl rfl hl.1 rfl (lv_room (Nat.le_of_ble_eq_true rfl)) dX11_sizeOf_2 ⟨Nat.zero_le _, Nat.zero_le _⟩) (fun r2 S2 H locs hp2 hW => ?_)
  obtain ⟨hs2, rfl⟩ := hp2
  rw [hs2] at hW
  rw [hkn]
  refine lv_istore_n (lv' := [(2, .int 1), (0, .ref (gA G 65)), (1, .int (nI p))]) hx hb dX11_sizeOf_5 rfl hl (by decide) rfl (fun ls hl => ?_)
  refine lv_iload_n hx hb dX11_sizeOf_6 rfl (lv_at hl 0 rfl) ?_
  refine lv_iconst (v := 2) hx hb dX11_sizeOf_7 (by decide) ?_
  refine lv_icmp_ne (tgt := 24) hx hb dX11_sizeOf_8 (by decide) (fun c8 => ?_) (fun c8 => ?_)
  · skip
    refine lv_iload_n hx hb dX11_sizeOf_24 rfl (lv_at hl 0 rfl) ?_
    refine lv_iconst (v := 5) hx hb dX11_sizeOf_25 (by decide) ?_
    refine lv_icmp_ne (tgt := 45) hx hb dX11_sizeOf_26 (by decide) (fun c26 => ?_) (fun c26 => ?_)
    · skip
      refine lv_iload_n hx hb dX11_sizeOf_45 rfl (lv_at hl 0 rfl) ?_
      refine lv_iconst (v := 1) hx hb dX11_sizeOf_46 (by decide) ?_
      refine lv_icmp_ne (tgt := 58) hx hb dX11_sizeOf_47 (by decide) (fun c47 => ?_) (fun c47 => ?_)
      · exact absurd (by decide) c47
      · skip
        refine lv_aload_n hx hb dX11_sizeOf_50 rfl (lv_at hl 1 rfl) ?_
        refine lv_iload_n hx hb dX11_sizeOf_51 rfl (lv_at hl 2 rfl) ?_
        refine r_calll hW hA (va_runV (As := [.int (nI p)]) (rest := []) ⟨hx, hb, hml, hown, hts⟩ (t_X11_keepersSize_1 l D G S _ hG hP B c hB1 hc hM h0 p hp hkn) (cwV 1 hts gX11_sizeOf_X11_keepersSize rfl rfl rfl (by decide +kernel) ⟨Nat.le_of_ble_eq_true rfl, Nat.le_of_ble_eq_true rfl⟩) (r_preV (k := 65) hA hW (ci := 10) (C := RX11) (T := TX11) (N := 20) rfl rfl (g_lt hG (by decide)) (g_kd hG (by decide) rfl) rfl rfl) rfl rfl hl.1 rfl (lv_room (Nat.le_of_ble_eq_true rfl)) dX11_sizeOf_52 ⟨Nat.zero_le _, Nat.zero_le _⟩) (fun r52 S52 H locs hp52 hW => ?_)
        obtain ⟨rfl, hs52⟩ := hp52
        rw [hs52] at hW
        refine lv_goto (tgt := 76) hx hb dX11_sizeOf_55 (by decide) ?_
        refine r_lret hx hb hr hlocks hW ?_ dX11_sizeOf_76
        exact ⟨rfl, rfl⟩
    · exact absurd c26 (by decide)
  · exact absurd c8 (by decide)

set_option maxHeartbeats 4000000 in
set_option maxRecDepth 100000 in
theorem t_X11_sizeOf_2 (l : Launch) (D : Dc) (G : Gg) (S : Sg) (z : Nat) (hG : GrG G) (hP : GrP G S) (B : Nat → Nat) (c : Nat) (hB1 : BP1 B c) (hc : c < 100000) (hM : ∀ k, k < 140 → gj S 66 k = lN (B k)) (h0 : 0 ≤ (gi S 65 19).toInt) (p : Nat) (hp : p < B 17) (hkn : kdN (B (34 + p)) (B (18 + p)) = 2) : ML l yX11_sizeOf wsX11_sizeOf rmX11_sizeOf D G S z [.ref (gA G 65), .int (nI p)] (fun r S' => r = (-((lN (B (18 + p))) + (lN p + 10 * lN (dueN (B 3) (B 1) (B 2) (B (18 + p)))))) ∧ S' = (trcM (trcM (trcM (trcM (trcM S 12) 11) 10) 21) 20)) := by
  refine Met.ofW (cc := cX11_sizeOf) (maxL := 3) (ret := (some .long)) (by decide +kernel) rfl ?_
  intro pP eE s mM args bl mT cD s₁ bD hml hv
  obtain ⟨rfl, hv⟩ := hv
  have hz := hv.1
  subst hz
  have hx := bD.exec
  have hb := bD.bytes
  have hr := bD.returns
  have hts := atoms_spec (ws := wsX11_sizeOf) bD.pre
  have hown : s.vm.findClass RX11 = some mM.cls := findClass_of_methodNamed bD.named
  have hlocks := bD.notSynchronized
  have hW := Wd.start hv
  have hA : ∀ q, s.heap.size ≤ q → AW G s.heap.size q := fun q h => Or.inr h
  have hl := lv_entry ([.ref (gA G 65), .int (nI p)]) (n := 3) (Nat.le_of_ble_eq_true rfl)
  rw [lg_entry_eq]
  generalize (lg_sl ([.ref (gA G 65), .int (nI p)]) ++ List.replicate (3 - (lg_sl ([.ref (gA G 65), .int (nI p)])).length) Slot.unset).toArray = ls at hl ⊢
  have hl : lv_has ls 3 [(0, .ref (gA G 65)), (1, .int (nI p))] := hl
  obtain ⟨b0, b1, b2, b3, b4, b5, b6, b7, b8, b9, b10, b11, b12⟩ := id hB1
  have b9p := b9 p hp
  refine lv_aload_n hx hb dX11_sizeOf_0 rfl (lv_at hl 0 rfl) ?_
  refine lv_iload_n hx hb dX11_sizeOf_1 rfl (lv_at hl 1 rfl) ?_
  refine r_calli hW hA (va_runV (As := [.int (nI p)]) (rest := []) ⟨hx, hb, hml, hown, hts⟩ (t_X11_kindOf l D G S _ hG hP B c hB1 hc hM p hp) (cwV 1 hts gX11_sizeOf_X11_kindOf rfl rfl rfl (by decide +kernel) ⟨Nat.le_of_ble_eq_true rfl, Nat.le_of_ble_eq_true rfl⟩) (r_preV (k := 65) hA hW (ci := 10) (C := RX11) (T := TX11) (N := 20) rfl rfl (g_lt hG (by decide)) (g_kd hG (by decide) rfl) rfl rfl) rfl rfl hl.1 rfl (lv_room (Nat.le_of_ble_eq_true rfl)) dX11_sizeOf_2 ⟨Nat.zero_le _, Nat.zero_le _⟩) (fun r2 S2 H locs hp2 hW => ?_)
  obtain ⟨hs2, rfl⟩ := hp2
  rw [hs2] at hW
  rw [hkn]
  refine lv_istore_n (lv' := [(2, .int 2), (0, .ref (gA G 65)), (1, .int (nI p))]) hx hb dX11_sizeOf_5 rfl hl (by decide) rfl (fun ls hl => ?_)
  refine lv_iload_n hx hb dX11_sizeOf_6 rfl (lv_at hl 0 rfl) ?_
  refine lv_iconst (v := 2) hx hb dX11_sizeOf_7 (by decide) ?_
  refine lv_icmp_ne (tgt := 24) hx hb dX11_sizeOf_8 (by decide) (fun c8 => ?_) (fun c8 => ?_)
  · exact absurd (by decide) c8
  · skip
    refine lv_aload_n hx hb dX11_sizeOf_11 rfl (lv_at hl 1 rfl) ?_
    refine lv_bipush (v := 12) hx hb dX11_sizeOf_12 (by decide) ?_
    refine r_callv hW hA (va_runV (As := [.int 12]) (rest := []) ⟨hx, hb, hml, hown, hts⟩ (t_X11_leave l D G S _ hG hP 12 h0) (cwV 1 hts gX11_sizeOf_X11_leave rfl rfl rfl (by decide +kernel) ⟨Nat.le_of_ble_eq_true rfl, Nat.le_of_ble_eq_true rfl⟩) (r_preV (k := 65) hA hW (ci := 10) (C := RX11) (T := TX11) (N := 20) rfl rfl (g_lt hG (by decide)) (g_kd hG (by decide) rfl) rfl rfl) rfl rfl hl.1 rfl (lv_room (Nat.le_of_ble_eq_true rfl)) dX11_sizeOf_14 ⟨Nat.zero_le _, Nat.zero_le _⟩) (fun S14 H locs hp14 hW => ?_)
    rw [hp14] at hW
    refine lv_aload_n hx hb dX11_sizeOf_17 rfl (lv_at hl 1 rfl) ?_
    refine lv_iload_n hx hb dX11_sizeOf_18 rfl (lv_at hl 2 rfl) ?_
    refine r_calll hW hA (va_runV (As := [.int (nI p)]) (rest := []) ⟨hx, hb, hml, hown, hts⟩ (t_X11_keepersSize_2 l D G (trcM S 12) _ hG (GrP.trcM hP) B c hB1 hc hM (trcM_0 h0) p hp hkn) (cwV 1 hts gX11_sizeOf_X11_keepersSize rfl rfl rfl (by decide +kernel) ⟨Nat.le_of_ble_eq_true rfl, Nat.le_of_ble_eq_true rfl⟩) (r_preV (k := 65) hA hW (ci := 10) (C := RX11) (T := TX11) (N := 20) rfl rfl (g_lt hG (by decide)) (g_kd hG (by decide) rfl) rfl rfl) rfl rfl hl.1 rfl (lv_room (Nat.le_of_ble_eq_true rfl)) dX11_sizeOf_19 ⟨Nat.zero_le _, Nat.zero_le _⟩) (fun r19 S19 H locs hp19 hW => ?_)
    obtain ⟨rfl, hs19⟩ := hp19
    rw [hs19] at hW
    refine lv_lneg hx hb dX11_sizeOf_22 ?_
    refine r_lret hx hb hr hlocks hW ?_ dX11_sizeOf_23
    exact ⟨rfl, rfl⟩

set_option maxHeartbeats 4000000 in
set_option maxRecDepth 100000 in
theorem t_X11_sizeOf_3 (l : Launch) (D : Dc) (G : Gg) (S : Sg) (z : Nat) (hG : GrG G) (hP : GrP G S) (B : Nat → Nat) (c : Nat) (hB1 : BP1 B c) (hc : c < 100000) (hM : ∀ k, k < 140 → gj S 66 k = lN (B k)) (h0 : 0 ≤ (gi S 65 19).toInt) (p : Nat) (hp : p < B 17) (hkn : kdN (B (34 + p)) (B (18 + p)) = 3) : ML l yX11_sizeOf wsX11_sizeOf rmX11_sizeOf D G S z [.ref (gA G 65), .int (nI p)] (fun r S' => r = ((lN (B (18 + p))) - 100) ∧ S' = (trcM (trcM S 13) 10)) := by
  refine Met.ofW (cc := cX11_sizeOf) (maxL := 3) (ret := (some .long)) (by decide +kernel) rfl ?_
  intro pP eE s mM args bl mT cD s₁ bD hml hv
  obtain ⟨rfl, hv⟩ := hv
  have hz := hv.1
  subst hz
  have hx := bD.exec
  have hb := bD.bytes
  have hr := bD.returns
  have hts := atoms_spec (ws := wsX11_sizeOf) bD.pre
  have hown : s.vm.findClass RX11 = some mM.cls := findClass_of_methodNamed bD.named
  have hlocks := bD.notSynchronized
  have hW := Wd.start hv
  have hA : ∀ q, s.heap.size ≤ q → AW G s.heap.size q := fun q h => Or.inr h
  have hl := lv_entry ([.ref (gA G 65), .int (nI p)]) (n := 3) (Nat.le_of_ble_eq_true rfl)
  rw [lg_entry_eq]
  generalize (lg_sl ([.ref (gA G 65), .int (nI p)]) ++ List.replicate (3 - (lg_sl ([.ref (gA G 65), .int (nI p)])).length) Slot.unset).toArray = ls at hl ⊢
  have hl : lv_has ls 3 [(0, .ref (gA G 65)), (1, .int (nI p))] := hl
  obtain ⟨b0, b1, b2, b3, b4, b5, b6, b7, b8, b9, b10, b11, b12⟩ := id hB1
  have b9p := b9 p hp
  refine lv_aload_n hx hb dX11_sizeOf_0 rfl (lv_at hl 0 rfl) ?_
  refine lv_iload_n hx hb dX11_sizeOf_1 rfl (lv_at hl 1 rfl) ?_
  refine r_calli hW hA (va_runV (As := [.int (nI p)]) (rest := []) ⟨hx, hb, hml, hown, hts⟩ (t_X11_kindOf l D G S _ hG hP B c hB1 hc hM p hp) (cwV 1 hts gX11_sizeOf_X11_kindOf rfl rfl rfl (by decide +kernel) ⟨Nat.le_of_ble_eq_true rfl, Nat.le_of_ble_eq_true rfl⟩) (r_preV (k := 65) hA hW (ci := 10) (C := RX11) (T := TX11) (N := 20) rfl rfl (g_lt hG (by decide)) (g_kd hG (by decide) rfl) rfl rfl) rfl rfl hl.1 rfl (lv_room (Nat.le_of_ble_eq_true rfl)) dX11_sizeOf_2 ⟨Nat.zero_le _, Nat.zero_le _⟩) (fun r2 S2 H locs hp2 hW => ?_)
  obtain ⟨hs2, rfl⟩ := hp2
  rw [hs2] at hW
  rw [hkn]
  refine lv_istore_n (lv' := [(2, .int 3), (0, .ref (gA G 65)), (1, .int (nI p))]) hx hb dX11_sizeOf_5 rfl hl (by decide) rfl (fun ls hl => ?_)
  refine lv_iload_n hx hb dX11_sizeOf_6 rfl (lv_at hl 0 rfl) ?_
  refine lv_iconst (v := 2) hx hb dX11_sizeOf_7 (by decide) ?_
  refine lv_icmp_ne (tgt := 24) hx hb dX11_sizeOf_8 (by decide) (fun c8 => ?_) (fun c8 => ?_)
  · skip
    refine lv_iload_n hx hb dX11_sizeOf_24 rfl (lv_at hl 0 rfl) ?_
    refine lv_iconst (v := 5) hx hb dX11_sizeOf_25 (by decide) ?_
    refine lv_icmp_ne (tgt := 45) hx hb dX11_sizeOf_26 (by decide) (fun c26 => ?_) (fun c26 => ?_)
    · skip
      refine lv_iload_n hx hb dX11_sizeOf_45 rfl (lv_at hl 0 rfl) ?_
      refine lv_iconst (v := 1) hx hb dX11_sizeOf_46 (by decide) ?_
      refine lv_icmp_ne (tgt := 58) hx hb dX11_sizeOf_47 (by decide) (fun c47 => ?_) (fun c47 => ?_)
      · skip
        refine lv_iload_n hx hb dX11_sizeOf_58 rfl (lv_at hl 0 rfl) ?_
        refine lv_iconst (v := 3) hx hb dX11_sizeOf_59 (by decide) ?_
        refine lv_icmp_ne (tgt := 71) hx hb dX11_sizeOf_60 (by decide) (fun c60 => ?_) (fun c60 => ?_)
        · exact absurd (by decide) c60
        · skip
          refine lv_aload_n hx hb dX11_sizeOf_63 rfl (lv_at hl 1 rfl) ?_
          refine lv_iload_n hx hb dX11_sizeOf_64 rfl (lv_at hl 2 rfl) ?_
          refine r_calll hW hA (va_runV (As := [.int (nI p)]) (rest := []) ⟨hx, hb, hml, hown, hts⟩ (t_X11_noneSize l D G S _ hG hP B c hB1 hc hM h0 p hp) (cwV 1 hts gX11_sizeOf_X11_noneSize rfl rfl rfl (by decide +kernel) ⟨Nat.le_of_ble_eq_true rfl, Nat.le_of_ble_eq_true rfl⟩) (r_preV (k := 65) hA hW (ci := 10) (C := RX11) (T := TX11) (N := 20) rfl rfl (g_lt hG (by decide)) (g_kd hG (by decide) rfl) rfl rfl) rfl rfl hl.1 rfl (lv_room (Nat.le_of_ble_eq_true rfl)) dX11_sizeOf_65 ⟨Nat.zero_le _, Nat.zero_le _⟩) (fun r65 S65 H locs hp65 hW => ?_)
          obtain ⟨rfl, hs65⟩ := hp65
          rw [hs65] at hW
          refine lv_goto (tgt := 76) hx hb dX11_sizeOf_68 (by decide) ?_
          refine r_lret hx hb hr hlocks hW ?_ dX11_sizeOf_76
          exact ⟨rfl, rfl⟩
      · exact absurd c47 (by decide)
    · exact absurd c26 (by decide)
  · exact absurd c8 (by decide)

set_option maxHeartbeats 4000000 in
set_option maxRecDepth 100000 in
theorem t_X11_sizeOf_4 (l : Launch) (D : Dc) (G : Gg) (S : Sg) (z : Nat) (hG : GrG G) (hP : GrP G S) (B : Nat → Nat) (c : Nat) (hB1 : BP1 B c) (hc : c < 100000) (hM : ∀ k, k < 140 → gj S 66 k = lN (B k)) (h0 : 0 ≤ (gi S 65 19).toInt) (p : Nat) (hp : p < B 17) (hkn : kdN (B (34 + p)) (B (18 + p)) = 4) : ML l yX11_sizeOf wsX11_sizeOf rmX11_sizeOf D G S z [.ref (gA G 65), .int (nI p)] (fun r S' => r = (lN (B (18 + p))) ∧ S' = (trcM S 10)) := by
  refine Met.ofW (cc := cX11_sizeOf) (maxL := 3) (ret := (some .long)) (by decide +kernel) rfl ?_
  intro pP eE s mM args bl mT cD s₁ bD hml hv
  obtain ⟨rfl, hv⟩ := hv
  have hz := hv.1
  subst hz
  have hx := bD.exec
  have hb := bD.bytes
  have hr := bD.returns
  have hts := atoms_spec (ws := wsX11_sizeOf) bD.pre
  have hown : s.vm.findClass RX11 = some mM.cls := findClass_of_methodNamed bD.named
  have hlocks := bD.notSynchronized
  have hW := Wd.start hv
  have hA : ∀ q, s.heap.size ≤ q → AW G s.heap.size q := fun q h => Or.inr h
  have hl := lv_entry ([.ref (gA G 65), .int (nI p)]) (n := 3) (Nat.le_of_ble_eq_true rfl)
  rw [lg_entry_eq]
  generalize (lg_sl ([.ref (gA G 65), .int (nI p)]) ++ List.replicate (3 - (lg_sl ([.ref (gA G 65), .int (nI p)])).length) Slot.unset).toArray = ls at hl ⊢
  have hl : lv_has ls 3 [(0, .ref (gA G 65)), (1, .int (nI p))] := hl
  obtain ⟨b0, b1, b2, b3, b4, b5, b6, b7, b8, b9, b10, b11, b12⟩ := id hB1
  have b9p := b9 p hp
  refine lv_aload_n hx hb dX11_sizeOf_0 rfl (lv_at hl 0 rfl) ?_
  refine lv_iload_n hx hb dX11_sizeOf_1 rfl (lv_at hl 1 rfl) ?_
  refine r_calli hW hA (va_runV (As := [.int (nI p)]) (rest := []) ⟨hx, hb, hml, hown, hts⟩ (t_X11_kindOf l D G S _ hG hP B c hB1 hc hM p hp) (cwV 1 hts gX11_sizeOf_X11_kindOf rfl rfl rfl (by decide +kernel) ⟨Nat.le_of_ble_eq_true rfl, Nat.le_of_ble_eq_true rfl⟩) (r_preV (k := 65) hA hW (ci := 10) (C := RX11) (T := TX11) (N := 20) rfl rfl (g_lt hG (by decide)) (g_kd hG (by decide) rfl) rfl rfl) rfl rfl hl.1 rfl (lv_room (Nat.le_of_ble_eq_true rfl)) dX11_sizeOf_2 ⟨Nat.zero_le _, Nat.zero_le _⟩) (fun r2 S2 H locs hp2 hW => ?_)
  obtain ⟨hs2, rfl⟩ := hp2
  rw [hs2] at hW
  rw [hkn]
  refine lv_istore_n (lv' := [(2, .int 4), (0, .ref (gA G 65)), (1, .int (nI p))]) hx hb dX11_sizeOf_5 rfl hl (by decide) rfl (fun ls hl => ?_)
  refine lv_iload_n hx hb dX11_sizeOf_6 rfl (lv_at hl 0 rfl) ?_
  refine lv_iconst (v := 2) hx hb dX11_sizeOf_7 (by decide) ?_
  refine lv_icmp_ne (tgt := 24) hx hb dX11_sizeOf_8 (by decide) (fun c8 => ?_) (fun c8 => ?_)
  · skip
    refine lv_iload_n hx hb dX11_sizeOf_24 rfl (lv_at hl 0 rfl) ?_
    refine lv_iconst (v := 5) hx hb dX11_sizeOf_25 (by decide) ?_
    refine lv_icmp_ne (tgt := 45) hx hb dX11_sizeOf_26 (by decide) (fun c26 => ?_) (fun c26 => ?_)
    · skip
      refine lv_iload_n hx hb dX11_sizeOf_45 rfl (lv_at hl 0 rfl) ?_
      refine lv_iconst (v := 1) hx hb dX11_sizeOf_46 (by decide) ?_
      refine lv_icmp_ne (tgt := 58) hx hb dX11_sizeOf_47 (by decide) (fun c47 => ?_) (fun c47 => ?_)
      · skip
        refine lv_iload_n hx hb dX11_sizeOf_58 rfl (lv_at hl 0 rfl) ?_
        refine lv_iconst (v := 3) hx hb dX11_sizeOf_59 (by decide) ?_
        refine lv_icmp_ne (tgt := 71) hx hb dX11_sizeOf_60 (by decide) (fun c60 => ?_) (fun c60 => ?_)
        · skip
          refine lv_aload_n hx hb dX11_sizeOf_71 rfl (lv_at hl 1 rfl) ?_
          refine lv_iload_n hx hb dX11_sizeOf_72 rfl (lv_at hl 2 rfl) ?_
          refine r_calll hW hA (va_runV (As := [.int (nI p)]) (rest := []) ⟨hx, hb, hml, hown, hts⟩ (t_X11_lentSize l D G S _ hG hP B c hB1 hc hM h0 p hp) (cwV 1 hts gX11_sizeOf_X11_lentSize rfl rfl rfl (by decide +kernel) ⟨Nat.le_of_ble_eq_true rfl, Nat.le_of_ble_eq_true rfl⟩) (r_preV (k := 65) hA hW (ci := 10) (C := RX11) (T := TX11) (N := 20) rfl rfl (g_lt hG (by decide)) (g_kd hG (by decide) rfl) rfl rfl) rfl rfl hl.1 rfl (lv_room (Nat.le_of_ble_eq_true rfl)) dX11_sizeOf_73 ⟨Nat.zero_le _, Nat.zero_le _⟩) (fun r73 S73 H locs hp73 hW => ?_)
          obtain ⟨rfl, hs73⟩ := hp73
          rw [hs73] at hW
          refine r_lret hx hb hr hlocks hW ?_ dX11_sizeOf_76
          exact ⟨rfl, rfl⟩
        · exact absurd c60 (by decide)
      · exact absurd c47 (by decide)
    · exact absurd c26 (by decide)
  · exact absurd c8 (by decide)

set_option maxHeartbeats 4000000 in
set_option maxRecDepth 100000 in
theorem t_X11_sizeOf_5 (l : Launch) (D : Dc) (G : Gg) (S : Sg) (z : Nat) (hG : GrG G) (hP : GrP G S) (B : Nat → Nat) (c : Nat) (hB1 : BP1 B c) (hc : c < 100000) (hM : ∀ k, k < 140 → gj S 66 k = lN (B k)) (h0 : 0 ≤ (gi S 65 19).toInt) (p : Nat) (hp : p < B 17) (hkn : kdN (B (34 + p)) (B (18 + p)) = 5) : ML l yX11_sizeOf wsX11_sizeOf rmX11_sizeOf D G S z [.ref (gA G 65), .int (nI p)] (fun r S' => r = (2 * ((lN (B (18 + p))) + ((lN p + 10 * lN (dueN (B 3) (B 1) (B 2) (B (18 + p)))) - 1000))) ∧ S' = (trcM (trcM (trcM (trcM (trcM (trcM S 14) 11) 10) 24) 21) 20)) := by
  refine Met.ofW (cc := cX11_sizeOf) (maxL := 3) (ret := (some .long)) (by decide +kernel) rfl ?_
  intro pP eE s mM args bl mT cD s₁ bD hml hv
  obtain ⟨rfl, hv⟩ := hv
  have hz := hv.1
  subst hz
  have hx := bD.exec
  have hb := bD.bytes
  have hr := bD.returns
  have hts := atoms_spec (ws := wsX11_sizeOf) bD.pre
  have hown : s.vm.findClass RX11 = some mM.cls := findClass_of_methodNamed bD.named
  have hlocks := bD.notSynchronized
  have hW := Wd.start hv
  have hA : ∀ q, s.heap.size ≤ q → AW G s.heap.size q := fun q h => Or.inr h
  have hl := lv_entry ([.ref (gA G 65), .int (nI p)]) (n := 3) (Nat.le_of_ble_eq_true rfl)
  rw [lg_entry_eq]
  generalize (lg_sl ([.ref (gA G 65), .int (nI p)]) ++ List.replicate (3 - (lg_sl ([.ref (gA G 65), .int (nI p)])).length) Slot.unset).toArray = ls at hl ⊢
  have hl : lv_has ls 3 [(0, .ref (gA G 65)), (1, .int (nI p))] := hl
  have q0 := hts (.constantLong RX11 54 (2)) (List.mem_of_getElem? (i := 1) rfl)
  obtain ⟨b0, b1, b2, b3, b4, b5, b6, b7, b8, b9, b10, b11, b12⟩ := id hB1
  have b9p := b9 p hp
  refine lv_aload_n hx hb dX11_sizeOf_0 rfl (lv_at hl 0 rfl) ?_
  refine lv_iload_n hx hb dX11_sizeOf_1 rfl (lv_at hl 1 rfl) ?_
  refine r_calli hW hA (va_runV (As := [.int (nI p)]) (rest := []) ⟨hx, hb, hml, hown, hts⟩ (t_X11_kindOf l D G S _ hG hP B c hB1 hc hM p hp) (cwV 1 hts gX11_sizeOf_X11_kindOf rfl rfl rfl (by decide +kernel) ⟨Nat.le_of_ble_eq_true rfl, Nat.le_of_ble_eq_true rfl⟩) (r_preV (k := 65) hA hW (ci := 10) (C := RX11) (T := TX11) (N := 20) rfl rfl (g_lt hG (by decide)) (g_kd hG (by decide) rfl) rfl rfl) rfl rfl hl.1 rfl (lv_room (Nat.le_of_ble_eq_true rfl)) dX11_sizeOf_2 ⟨Nat.zero_le _, Nat.zero_le _⟩) (fun r2 S2 H locs hp2 hW => ?_)
  obtain ⟨hs2, rfl⟩ := hp2
  rw [hs2] at hW
  rw [hkn]
  refine lv_istore_n (lv' := [(2, .int 5), (0, .ref (gA G 65)), (1, .int (nI p))]) hx hb dX11_sizeOf_5 rfl hl (by decide) rfl (fun ls hl => ?_)
  refine lv_iload_n hx hb dX11_sizeOf_6 rfl (lv_at hl 0 rfl) ?_
  refine lv_iconst (v := 2) hx hb dX11_sizeOf_7 (by decide) ?_
  refine lv_icmp_ne (tgt := 24) hx hb dX11_sizeOf_8 (by decide) (fun c8 => ?_) (fun c8 => ?_)
  · skip
    refine lv_iload_n hx hb dX11_sizeOf_24 rfl (lv_at hl 0 rfl) ?_
    refine lv_iconst (v := 5) hx hb dX11_sizeOf_25 (by decide) ?_
    refine lv_icmp_ne (tgt := 45) hx hb dX11_sizeOf_26 (by decide) (fun c26 => ?_) (fun c26 => ?_)
    · exact absurd (by decide) c26
    · skip
      refine lv_aload_n hx hb dX11_sizeOf_29 rfl (lv_at hl 1 rfl) ?_
      refine lv_bipush (v := 14) hx hb dX11_sizeOf_30 (by decide) ?_
      refine r_callv hW hA (va_runV (As := [.int 14]) (rest := []) ⟨hx, hb, hml, hown, hts⟩ (t_X11_leave l D G S _ hG hP 14 h0) (cwV 1 hts gX11_sizeOf_X11_leave rfl rfl rfl (by decide +kernel) ⟨Nat.le_of_ble_eq_true rfl, Nat.le_of_ble_eq_true rfl⟩) (r_preV (k := 65) hA hW (ci := 10) (C := RX11) (T := TX11) (N := 20) rfl rfl (g_lt hG (by decide)) (g_kd hG (by decide) rfl) rfl rfl) rfl rfl hl.1 rfl (lv_room (Nat.le_of_ble_eq_true rfl)) dX11_sizeOf_32 ⟨Nat.zero_le _, Nat.zero_le _⟩) (fun S32 H locs hp32 hW => ?_)
      rw [hp32] at hW
      refine lv_ldc2 (v := (2)) hx hb hown q0 dX11_sizeOf_35 ?_
      refine lv_aload_n hx hb dX11_sizeOf_38 rfl (lv_at hl 1 rfl) ?_
      refine lv_iload_n hx hb dX11_sizeOf_39 rfl (lv_at hl 2 rfl) ?_
      refine r_calll hW hA (va_runV (As := [.int (nI p)]) (rest := [.long (2)]) ⟨hx, hb, hml, hown, hts⟩ (t_X11_keepersSize_5 l D G (trcM S 14) _ hG (GrP.trcM hP) B c hB1 hc hM (trcM_0 h0) p hp hkn) (cwV 1 hts gX11_sizeOf_X11_keepersSize rfl rfl rfl (by decide +kernel) ⟨Nat.le_of_ble_eq_true rfl, Nat.le_of_ble_eq_true rfl⟩) (r_preV (k := 65) hA hW (ci := 10) (C := RX11) (T := TX11) (N := 20) rfl rfl (g_lt hG (by decide)) (g_kd hG (by decide) rfl) rfl rfl) rfl rfl hl.1 rfl (lv_room (Nat.le_of_ble_eq_true rfl)) dX11_sizeOf_40 ⟨Nat.zero_le _, Nat.zero_le _⟩) (fun r40 S40 H locs hp40 hW => ?_)
      obtain ⟨rfl, hs40⟩ := hp40
      rw [hs40] at hW
      refine lv_lmul hx hb dX11_sizeOf_43 ?_
      refine r_lret hx hb hr hlocks hW ?_ dX11_sizeOf_44
      exact ⟨rfl, rfl⟩
  · exact absurd c8 (by decide)

def rmX11_noneMark : Jvm.Room := { frames := 3, cells := 0, slots := 0, locals := 63 }
set_option maxHeartbeats 4000000 in
set_option maxRecDepth 100000 in
theorem t_X11_noneMark (l : Launch) (D : Dc) (G : Gg) (S : Sg) (z : Nat) (hG : GrG G) (hP : GrP G S) (B : Nat → Nat) (c : Nat) (hB1 : BP1 B c) (hc : c < 100000) (hM : ∀ k, k < 140 → gj S 66 k = lN (B k)) (h0 : 0 ≤ (gi S 65 19).toInt) (p : Nat) (hp : p < B 17) : ML l yX11_noneMark wsX11_noneMark rmX11_noneMark D G S z [.ref (gA G 65), .int (nI p)] (fun r S' => r = (lN p - ((lN (B (18 + p))) - 100)) ∧ S' = (trcM (trcM (trcM (trcM S 23) 20) 13) 10)) := by
  refine Met.ofW (cc := cX11_noneMark) (maxL := 4) (ret := (some .long)) (by decide +kernel) rfl ?_
  intro pP eE s mM args bl mT cD s₁ bD hml hv
  obtain ⟨rfl, hv⟩ := hv
  have hz := hv.1
  subst hz
  have hx := bD.exec
  have hb := bD.bytes
  have hr := bD.returns
  have hts := atoms_spec (ws := wsX11_noneMark) bD.pre
  have hown : s.vm.findClass RX11 = some mM.cls := findClass_of_methodNamed bD.named
  have hlocks := bD.notSynchronized
  have hW := Wd.start hv
  have hA : ∀ q, s.heap.size ≤ q → AW G s.heap.size q := fun q h => Or.inr h
  have hl := lv_entry ([.ref (gA G 65), .int (nI p)]) (n := 4) (Nat.le_of_ble_eq_true rfl)
  rw [lg_entry_eq]
  generalize (lg_sl ([.ref (gA G 65), .int (nI p)]) ++ List.replicate (4 - (lg_sl ([.ref (gA G 65), .int (nI p)])).length) Slot.unset).toArray = ls at hl ⊢
  have hl : lv_has ls 4 [(0, .ref (gA G 65)), (1, .int (nI p))] := hl
  obtain ⟨b0, b1, b2, b3, b4, b5, b6, b7, b8, b9, b10, b11, b12⟩ := id hB1
  have b9p := b9 p hp
  refine lv_aload_n hx hb dX11_noneMark_0 rfl (lv_at hl 0 rfl) ?_
  refine lv_bipush (v := 23) hx hb dX11_noneMark_1 (by decide) ?_
  refine r_callv hW hA (va_runV (As := [.int 23]) (rest := []) ⟨hx, hb, hml, hown, hts⟩ (t_X11_leave l D G S _ hG hP 23 h0) (cwV 1 hts gX11_noneMark_X11_leave rfl rfl rfl (by decide +kernel) ⟨Nat.le_of_ble_eq_true rfl, Nat.le_of_ble_eq_true rfl⟩) (r_preV (k := 65) hA hW (ci := 10) (C := RX11) (T := TX11) (N := 20) rfl rfl (g_lt hG (by decide)) (g_kd hG (by decide) rfl) rfl rfl) rfl rfl hl.1 rfl (lv_room (Nat.le_of_ble_eq_true rfl)) dX11_noneMark_3 ⟨Nat.zero_le _, Nat.zero_le _⟩) (fun S3 H locs hp3 hW => ?_)
  rw [hp3] at hW
  refine lv_aload_n hx hb dX11_noneMark_6 rfl (lv_at hl 0 rfl) ?_
  refine lv_iload_n hx hb dX11_noneMark_7 rfl (lv_at hl 1 rfl) ?_
  refine r_calll hW hA (va_runV (As := [.int (nI p)]) (rest := []) ⟨hx, hb, hml, hown, hts⟩ (t_X11_lentMark l D G (trcM S 23) _ hG (GrP.trcM hP) B c hB1 hc hM (trcM_0 h0) p hp) (cwV 1 hts gX11_noneMark_X11_lentMark rfl rfl rfl (by decide +kernel) ⟨Nat.le_of_ble_eq_true rfl, Nat.le_of_ble_eq_true rfl⟩) (r_preV (k := 65) hA hW (ci := 10) (C := RX11) (T := TX11) (N := 20) rfl rfl (g_lt hG (by decide)) (g_kd hG (by decide) rfl) rfl rfl) rfl rfl hl.1 rfl (lv_room (Nat.le_of_ble_eq_true rfl)) dX11_noneMark_8 ⟨Nat.zero_le _, Nat.zero_le _⟩) (fun r8 S8 H locs hp8 hW => ?_)
  obtain ⟨rfl, hs8⟩ := hp8
  rw [hs8] at hW
  refine lv_lstore_n (lv' := [(2, .long (lN p)), (0, .ref (gA G 65)), (1, .int (nI p))]) hx hb dX11_noneMark_11 rfl hl (by decide) rfl (fun ls hl => ?_)
  refine lv_lload_n hx hb dX11_noneMark_12 rfl (lv_at hl 0 rfl) ?_
  refine lv_aload_n hx hb dX11_noneMark_13 rfl (lv_at hl 1 rfl) ?_
  refine lv_iload_n hx hb dX11_noneMark_14 rfl (lv_at hl 2 rfl) ?_
  refine r_calll hW hA (va_runV (As := [.int (nI p)]) (rest := [.long (lN p)]) ⟨hx, hb, hml, hown, hts⟩ (t_X11_noneSize l D G (trcM (trcM S 23) 20) _ hG (GrP.trcM (GrP.trcM hP)) B c hB1 hc hM (trcM_0 (trcM_0 h0)) p hp) (cwV 1 hts gX11_noneMark_X11_noneSize rfl rfl rfl (by decide +kernel) ⟨Nat.le_of_ble_eq_true rfl, Nat.le_of_ble_eq_true rfl⟩) (r_preV (k := 65) hA hW (ci := 10) (C := RX11) (T := TX11) (N := 20) rfl rfl (g_lt hG (by decide)) (g_kd hG (by decide) rfl) rfl rfl) rfl rfl hl.1 rfl (lv_room (Nat.le_of_ble_eq_true rfl)) dX11_noneMark_15 ⟨Nat.zero_le _, Nat.zero_le _⟩) (fun r15 S15 H locs hp15 hW => ?_)
  obtain ⟨rfl, hs15⟩ := hp15
  rw [hs15] at hW
  refine lv_lsub hx hb dX11_noneMark_18 ?_
  refine r_lret hx hb hr hlocks hW ?_ dX11_noneMark_19
  exact ⟨rfl, rfl⟩

def rmX11_ask : Jvm.Room := { frames := 6, cells := 0, slots := 0, locals := 130 }
set_option maxHeartbeats 4000000 in
set_option maxRecDepth 100000 in
theorem t_X11_ask (l : Launch) (D : Dc) (G : Gg) (S : Sg) (z : Nat) (hG : GrG G) (hP : GrP G S) (B : Nat → Nat) (c : Nat) (hB : BP B c) (hc : c < 100000) (hM : ∀ k, k < 140 → gj S 66 k = lN (B k)) (a1 a2 : Int32) : ML l yX11_ask wsX11_ask rmX11_ask D G S z [.ref (gA G 65), .int a1, .int a2] (fun r S' => r = (fAsk B a1 a2).1 ∧ gi S' 65 19 = (fTr (gi S 65 19, gi S 74) (fAsk B a1 a2).2).1 ∧ gi S' 74 = (fTr (gi S 65 19, gi S 74) (fAsk B a1 a2).2).2 ∧ ChT S S') := by
  refine Met.ofW (cc := cX11_ask) (maxL := 3) (ret := (some .long)) (by decide +kernel) rfl ?_
  intro pP eE s mM args bl mT cD s₁ bD hml hv
  obtain ⟨rfl, hv⟩ := hv
  have hz := hv.1
  subst hz
  have hx := bD.exec
  have hb := bD.bytes
  have hr := bD.returns
  have hts := atoms_spec (ws := wsX11_ask) bD.pre
  have hown : s.vm.findClass RX11 = some mM.cls := findClass_of_methodNamed bD.named
  have hlocks := bD.notSynchronized
  have hW := Wd.start hv
  have hA : ∀ q, s.heap.size ≤ q → AW G s.heap.size q := fun q h => Or.inr h
  have hl := lv_entry ([.ref (gA G 65), .int a1, .int a2]) (n := 3) (Nat.le_of_ble_eq_true rfl)
  rw [lg_entry_eq]
  generalize (lg_sl ([.ref (gA G 65), .int a1, .int a2]) ++ List.replicate (3 - (lg_sl ([.ref (gA G 65), .int a1, .int a2])).length) Slot.unset).toArray = ls at hl ⊢
  have hl : lv_has ls 3 [(0, .ref (gA G 65)), (1, .int a1), (2, .int a2)] := hl
  have q0 := hts (.fieldLink RX11 231 "WoodForTwoModel" "traces" "I") (List.mem_of_getElem? (i := 2) rfl)
  have q1 := hts (.constantLong RX11 56 (-9000000000000000001)) (List.mem_of_getElem? (i := 1) rfl)
  have iX11 : ∀ w ∈ wsX110, w ∈ wsX11_ask := fun _ h => List.mem_cons_of_mem _ (List.mem_append_right _ (h))
  have hbp := BP_b hB
  refine lv_aload_n hx hb dX11_ask_0 rfl (lv_at hl 0 rfl) ?_
  refine lv_iload_n hx hb dX11_ask_1 rfl (lv_at hl 1 rfl) ?_
  refine lv_i2l hx hb dX11_ask_2 rfl ?_
  refine r_calli hW hA (va_runV (As := [.long (Int32.toInt64 a1)]) (rest := []) ⟨hx, hb, hml, hown, hts⟩ (t_X11_isParty l D G S _ hG hP B c hB hc hM (Int32.toInt64 a1) (a1).toInt (Int32.toInt_toInt64 _)) (cwV 1 hts gX11_ask_X11_isParty rfl rfl rfl (by decide +kernel) ⟨Nat.le_of_ble_eq_true rfl, Nat.le_of_ble_eq_true rfl⟩) (r_preV (k := 65) hA hW (ci := 10) (C := RX11) (T := TX11) (N := 20) rfl rfl (g_lt hG (by decide)) (g_kd hG (by decide) rfl) rfl rfl) rfl rfl hl.1 rfl (lv_room (Nat.le_of_ble_eq_true rfl)) dX11_ask_3 ⟨Nat.zero_le _, Nat.zero_le _⟩) (fun r3 S3 H locs hp3 hW => ?_)
  obtain ⟨hs3, hp3⟩ := hp3
  rw [hs3] at hW
  rcases hp3 with ⟨rfl, h3⟩ | ⟨rfl, h3⟩
  · skip
    refine lv_if_eq (tgt := 19) hx hb dX11_ask_6 (by decide) (fun c6 => ?_) (fun c6 => ?_)
    · exact absurd c6 (by decide)
    · skip
      refine lv_iload_n hx hb dX11_ask_9 rfl (lv_at hl 2 rfl) ?_
      refine lv_i2l hx hb dX11_ask_10 rfl ?_
      refine lv_lconst (v := 0) hx hb dX11_ask_11 (by decide) ?_
      refine lv_lconst (v := 1) hx hb dX11_ask_12 (by decide) ?_
      refine r_calli hW hA (va_runS (As := [.long (Int32.toInt64 a2), .long 0, .long 1]) (rest := []) ⟨hx, hb, hml, hown, hts⟩ (t_X11_in l D G S _ (Int32.toInt64 a2) 0 1 (a2).toInt 0 1 (Int32.toInt_toInt64 _) (by decide) (by decide)) (va_cwS 3 hts gX11_ask_X11_in rfl rfl rfl (by decide +kernel) ⟨Nat.le_of_ble_eq_true rfl, Nat.le_of_ble_eq_true rfl⟩) (r_preS hA hW) rfl rfl hl.1 rfl (lv_room (Nat.le_of_ble_eq_true rfl)) dX11_ask_13 ⟨Nat.zero_le _, Nat.zero_le _⟩) (fun r13 S13 H locs hp13 hW => ?_)
      obtain ⟨hs13, hp13⟩ := hp13
      rw [hs13] at hW
      rcases hp13 with ⟨rfl, h13⟩ | ⟨rfl, h13⟩
      · skip
        refine lv_if_ne (tgt := 23) hx hb dX11_ask_16 (by decide) (fun c16 => ?_) (fun c16 => ?_)
        · skip
          refine lv_aload_n hx hb dX11_ask_23 rfl (lv_at hl 0 rfl) ?_
          refine lv_iconst (v := 0) hx hb dX11_ask_24 (by decide) ?_
          refine r_puti (ci := 10) (C := RX11) (T := TX11) (N := 20) hx hb hts iX11 tyX11 tyX11_ok nmX11 hown hW rfl 65 19 rfl (g_lt hG (by decide)) (g_kd hG (by decide) rfl) (by decide) q0 (fun _ h9 => h9) rfl (tyX11_ok 19 (by decide)) rfl rfl (ri S 65 (va_up (gi S 65) 19 0)) (gi S 65) (va_up (gi S 65) 19 0) rfl (e_is _ _ _) rfl rfl rfl (Nat.le_of_ble_eq_true rfl) rfl c_i0 dX11_ask_25 (fun H locs hW => ?_)
          obtain ⟨p, hp31, rfl, hpi⟩ := n_of (x := a1) (by omega)
          have epN : (nI p).toNatClampNeg = p := n_clamp hp31
          have hp : p < B 17 := by omega
          have hB1 : BP1 B c := hB.resolve_left (fun z => by have z9 := z.2 17; omega)
          have b9p := hB1.2.2.2.2.2.2.2.2.2.1 p hp
          have h00 : 0 ≤ (gi (ri S 65 (va_up (gi S 65) 19 0)) 65 19).toInt := by rw [show gi (ri S 65 (va_up (gi S 65) 19 0)) 65 19 = 0 from by rw [gi_ri, up_s, up_s]]; decide
          rcases (show B (34 + p) = 0 ∧ B (18 + p) = 1 ∨ B (34 + p) = 0 ∧ B (18 + p) ≠ 1 ∨ B (34 + p) = 1 ∨ B (34 + p) = 2 ∨ B (34 + p) = 3 by have := b9p.2.2.1; omega) with ⟨z1, z2⟩ | ⟨z1, z2⟩ | z1 | z1 | z1
          · have hkn : kdN (B (34 + p)) (B (18 + p)) = 5 := by simp [kdN, z1, z2]
            have hkd : kdF (B (34 + p)) (B (18 + p)) = 3 := by simp [kdF, z1, z2]
            refine lv_iload_n hx hb dX11_ask_28 rfl (lv_at hl 2 rfl) ?_
            refine lv_if_ne (tgt := 40) hx hb dX11_ask_29 (by decide) (fun c29 => ?_) (fun c29 => ?_)
            · skip
              rw [t_eq, show (0 : Int32).toInt = 0 from by decide] at c29
              refine lv_aload_n hx hb dX11_ask_40 rfl (lv_at hl 0 rfl) ?_
              refine lv_iload_n hx hb dX11_ask_41 rfl (lv_at hl 1 rfl) ?_
              refine r_calli hW hA (va_runV (As := [.int (nI p)]) (rest := []) ⟨hx, hb, hml, hown, hts⟩ (t_X11_kindOf l D G (ri S 65 (va_up (gi S 65) 19 0)) _ hG hP B c hB1 hc hM p hp) (cwV 1 hts gX11_ask_X11_kindOf rfl rfl rfl (by decide +kernel) ⟨Nat.le_of_ble_eq_true rfl, Nat.le_of_ble_eq_true rfl⟩) (r_preV (k := 65) hA hW (ci := 10) (C := RX11) (T := TX11) (N := 20) rfl rfl (g_lt hG (by decide)) (g_kd hG (by decide) rfl) rfl rfl) rfl rfl hl.1 rfl (lv_room (Nat.le_of_ble_eq_true rfl)) dX11_ask_42 ⟨Nat.zero_le _, Nat.zero_le _⟩) (fun r42 S42 H locs hp42 hW => ?_)
              obtain ⟨hs42, rfl⟩ := hp42
              rw [hs42] at hW
              rw [hkn]
              refine lv_iconst (v := 3) hx hb dX11_ask_45 (by decide) ?_
              refine lv_icmp_ne (tgt := 57) hx hb dX11_ask_46 (by decide) (fun c46 => ?_) (fun c46 => ?_)
              · skip
                refine lv_aload_n hx hb dX11_ask_57 rfl (lv_at hl 0 rfl) ?_
                refine lv_iload_n hx hb dX11_ask_58 rfl (lv_at hl 1 rfl) ?_
                refine r_calll hW hA (va_runV (As := [.int (nI p)]) (rest := []) ⟨hx, hb, hml, hown, hts⟩ (t_X11_markOf_5 l D G (ri S 65 (va_up (gi S 65) 19 0)) _ hG hP B c hB1 hc hM h00 p hp hkn) (cwV 1 hts gX11_ask_X11_markOf rfl rfl rfl (by decide +kernel) ⟨Nat.le_of_ble_eq_true rfl, Nat.le_of_ble_eq_true rfl⟩) (r_preV (k := 65) hA hW (ci := 10) (C := RX11) (T := TX11) (N := 20) rfl rfl (g_lt hG (by decide)) (g_kd hG (by decide) rfl) rfl rfl) rfl rfl hl.1 rfl (lv_room (Nat.le_of_ble_eq_true rfl)) dX11_ask_59 ⟨Nat.zero_le _, Nat.zero_le _⟩) (fun r59 S59 H locs hp59 hW => ?_)
                obtain ⟨rfl, hs59⟩ := hp59
                rw [hs59] at hW
                refine r_lret hx hb hr hlocks hW ?_ dX11_ask_62
                have e : fAsk B (nI p) a2 = (((lN p + 10 * lN (dueN (B 3) (B 1) (B 2) (B (18 + p)))) - 1000), some [24, 21, 20]) := by unfold fAsk; rw [if_pos (by omega), if_neg (by omega), epN, hkd]; rfl
                rw [e]
                have es : (trcM (trcM (trcM (ri S 65 (va_up (gi S 65) 19 0)) 24) 21) 20) = trcsM (ri S 65 (va_up (gi S 65) 19 0)) [24, 21, 20] := rfl
                rw [es]
                dsimp only [fTr]
                exact ⟨rfl, (trcsM_e S [24, 21, 20]).1, (trcsM_e S [24, 21, 20]).2.1, (trcsM_e S [24, 21, 20]).2.2⟩
              · exact absurd c46 (by decide)
            · skip
              rw [t_eq, show (0 : Int32).toInt = 0 from by decide] at c29
              refine lv_aload_n hx hb dX11_ask_32 rfl (lv_at hl 0 rfl) ?_
              refine lv_iload_n hx hb dX11_ask_33 rfl (lv_at hl 1 rfl) ?_
              refine r_calll hW hA (va_runV (As := [.int (nI p)]) (rest := []) ⟨hx, hb, hml, hown, hts⟩ (t_X11_sizeOf_5 l D G (ri S 65 (va_up (gi S 65) 19 0)) _ hG hP B c hB1 hc hM h00 p hp hkn) (cwV 1 hts gX11_ask_X11_sizeOf rfl rfl rfl (by decide +kernel) ⟨Nat.le_of_ble_eq_true rfl, Nat.le_of_ble_eq_true rfl⟩) (r_preV (k := 65) hA hW (ci := 10) (C := RX11) (T := TX11) (N := 20) rfl rfl (g_lt hG (by decide)) (g_kd hG (by decide) rfl) rfl rfl) rfl rfl hl.1 rfl (lv_room (Nat.le_of_ble_eq_true rfl)) dX11_ask_34 ⟨Nat.zero_le _, Nat.zero_le _⟩) (fun r34 S34 H locs hp34 hW => ?_)
              obtain ⟨rfl, hs34⟩ := hp34
              rw [hs34] at hW
              refine lv_goto (tgt := 62) hx hb dX11_ask_37 (by decide) ?_
              refine r_lret hx hb hr hlocks hW ?_ dX11_ask_62
              have e : fAsk B (nI p) a2 = ((2 * ((lN (B (18 + p))) + ((lN p + 10 * lN (dueN (B 3) (B 1) (B 2) (B (18 + p)))) - 1000))), some [14, 11, 10, 24, 21, 20]) := by unfold fAsk; rw [if_pos (by omega), if_pos (by omega), epN, hkd]; rfl
              rw [e]
              have es : (trcM (trcM (trcM (trcM (trcM (trcM (ri S 65 (va_up (gi S 65) 19 0)) 14) 11) 10) 24) 21) 20) = trcsM (ri S 65 (va_up (gi S 65) 19 0)) [14, 11, 10, 24, 21, 20] := rfl
              rw [es]
              dsimp only [fTr]
              exact ⟨rfl, (trcsM_e S [14, 11, 10, 24, 21, 20]).1, (trcsM_e S [14, 11, 10, 24, 21, 20]).2.1, (trcsM_e S [14, 11, 10, 24, 21, 20]).2.2⟩
          · have hkn : kdN (B (34 + p)) (B (18 + p)) = 1 := by simp [kdN, z1, z2]
            have hkd : kdF (B (34 + p)) (B (18 + p)) = 2 := by simp [kdF, z1, z2]
            refine lv_iload_n hx hb dX11_ask_28 rfl (lv_at hl 2 rfl) ?_
            refine lv_if_ne (tgt := 40) hx hb dX11_ask_29 (by decide) (fun c29 => ?_) (fun c29 => ?_)
            · skip
              rw [t_eq, show (0 : Int32).toInt = 0 from by decide] at c29
              refine lv_aload_n hx hb dX11_ask_40 rfl (lv_at hl 0 rfl) ?_
              refine lv_iload_n hx hb dX11_ask_41 rfl (lv_at hl 1 rfl) ?_
              refine r_calli hW hA (va_runV (As := [.int (nI p)]) (rest := []) ⟨hx, hb, hml, hown, hts⟩ (t_X11_kindOf l D G (ri S 65 (va_up (gi S 65) 19 0)) _ hG hP B c hB1 hc hM p hp) (cwV 1 hts gX11_ask_X11_kindOf rfl rfl rfl (by decide +kernel) ⟨Nat.le_of_ble_eq_true rfl, Nat.le_of_ble_eq_true rfl⟩) (r_preV (k := 65) hA hW (ci := 10) (C := RX11) (T := TX11) (N := 20) rfl rfl (g_lt hG (by decide)) (g_kd hG (by decide) rfl) rfl rfl) rfl rfl hl.1 rfl (lv_room (Nat.le_of_ble_eq_true rfl)) dX11_ask_42 ⟨Nat.zero_le _, Nat.zero_le _⟩) (fun r42 S42 H locs hp42 hW => ?_)
              obtain ⟨hs42, rfl⟩ := hp42
              rw [hs42] at hW
              rw [hkn]
              refine lv_iconst (v := 3) hx hb dX11_ask_45 (by decide) ?_
              refine lv_icmp_ne (tgt := 57) hx hb dX11_ask_46 (by decide) (fun c46 => ?_) (fun c46 => ?_)
              · skip
                refine lv_aload_n hx hb dX11_ask_57 rfl (lv_at hl 0 rfl) ?_
                refine lv_iload_n hx hb dX11_ask_58 rfl (lv_at hl 1 rfl) ?_
                refine r_calll hW hA (va_runV (As := [.int (nI p)]) (rest := []) ⟨hx, hb, hml, hown, hts⟩ (t_X11_markOf_1 l D G (ri S 65 (va_up (gi S 65) 19 0)) _ hG hP B c hB1 hc hM h00 p hp hkn) (cwV 1 hts gX11_ask_X11_markOf rfl rfl rfl (by decide +kernel) ⟨Nat.le_of_ble_eq_true rfl, Nat.le_of_ble_eq_true rfl⟩) (r_preV (k := 65) hA hW (ci := 10) (C := RX11) (T := TX11) (N := 20) rfl rfl (g_lt hG (by decide)) (g_kd hG (by decide) rfl) rfl rfl) rfl rfl hl.1 rfl (lv_room (Nat.le_of_ble_eq_true rfl)) dX11_ask_59 ⟨Nat.zero_le _, Nat.zero_le _⟩) (fun r59 S59 H locs hp59 hW => ?_)
                obtain ⟨rfl, hs59⟩ := hp59
                rw [hs59] at hW
                refine r_lret hx hb hr hlocks hW ?_ dX11_ask_62
                have e : fAsk B (nI p) a2 = ((lN p + 10 * lN (dueN (B 3) (B 1) (B 2) (B (18 + p)))), some [21, 20]) := by unfold fAsk; rw [if_pos (by omega), if_neg (by omega), epN, hkd]; rfl
                rw [e]
                have es : (trcM (trcM (ri S 65 (va_up (gi S 65) 19 0)) 21) 20) = trcsM (ri S 65 (va_up (gi S 65) 19 0)) [21, 20] := rfl
                rw [es]
                dsimp only [fTr]
                exact ⟨rfl, (trcsM_e S [21, 20]).1, (trcsM_e S [21, 20]).2.1, (trcsM_e S [21, 20]).2.2⟩
              · exact absurd c46 (by decide)
            · skip
              rw [t_eq, show (0 : Int32).toInt = 0 from by decide] at c29
              refine lv_aload_n hx hb dX11_ask_32 rfl (lv_at hl 0 rfl) ?_
              refine lv_iload_n hx hb dX11_ask_33 rfl (lv_at hl 1 rfl) ?_
              refine r_calll hW hA (va_runV (As := [.int (nI p)]) (rest := []) ⟨hx, hb, hml, hown, hts⟩ (t_X11_sizeOf_1 l D G (ri S 65 (va_up (gi S 65) 19 0)) _ hG hP B c hB1 hc hM h00 p hp hkn) (cwV 1 hts gX11_ask_X11_sizeOf rfl rfl rfl (by decide +kernel) ⟨Nat.le_of_ble_eq_true rfl, Nat.le_of_ble_eq_true rfl⟩) (r_preV (k := 65) hA hW (ci := 10) (C := RX11) (T := TX11) (N := 20) rfl rfl (g_lt hG (by decide)) (g_kd hG (by decide) rfl) rfl rfl) rfl rfl hl.1 rfl (lv_room (Nat.le_of_ble_eq_true rfl)) dX11_ask_34 ⟨Nat.zero_le _, Nat.zero_le _⟩) (fun r34 S34 H locs hp34 hW => ?_)
              obtain ⟨rfl, hs34⟩ := hp34
              rw [hs34] at hW
              refine lv_goto (tgt := 62) hx hb dX11_ask_37 (by decide) ?_
              refine r_lret hx hb hr hlocks hW ?_ dX11_ask_62
              have e : fAsk B (nI p) a2 = (((lN (B (18 + p))) + (lN p + 10 * lN (dueN (B 3) (B 1) (B 2) (B (18 + p))))), some [11, 10, 21, 20]) := by unfold fAsk; rw [if_pos (by omega), if_pos (by omega), epN, hkd]; rfl
              rw [e]
              have es : (trcM (trcM (trcM (trcM (ri S 65 (va_up (gi S 65) 19 0)) 11) 10) 21) 20) = trcsM (ri S 65 (va_up (gi S 65) 19 0)) [11, 10, 21, 20] := rfl
              rw [es]
              dsimp only [fTr]
              exact ⟨rfl, (trcsM_e S [11, 10, 21, 20]).1, (trcsM_e S [11, 10, 21, 20]).2.1, (trcsM_e S [11, 10, 21, 20]).2.2⟩
          · have hkn : kdN (B (34 + p)) (B (18 + p)) = 2 := by simp [kdN, z1]
            have hkd : kdF (B (34 + p)) (B (18 + p)) = 1 := by simp [kdF, z1]
            refine lv_iload_n hx hb dX11_ask_28 rfl (lv_at hl 2 rfl) ?_
            refine lv_if_ne (tgt := 40) hx hb dX11_ask_29 (by decide) (fun c29 => ?_) (fun c29 => ?_)
            · skip
              rw [t_eq, show (0 : Int32).toInt = 0 from by decide] at c29
              refine lv_aload_n hx hb dX11_ask_40 rfl (lv_at hl 0 rfl) ?_
              refine lv_iload_n hx hb dX11_ask_41 rfl (lv_at hl 1 rfl) ?_
              refine r_calli hW hA (va_runV (As := [.int (nI p)]) (rest := []) ⟨hx, hb, hml, hown, hts⟩ (t_X11_kindOf l D G (ri S 65 (va_up (gi S 65) 19 0)) _ hG hP B c hB1 hc hM p hp) (cwV 1 hts gX11_ask_X11_kindOf rfl rfl rfl (by decide +kernel) ⟨Nat.le_of_ble_eq_true rfl, Nat.le_of_ble_eq_true rfl⟩) (r_preV (k := 65) hA hW (ci := 10) (C := RX11) (T := TX11) (N := 20) rfl rfl (g_lt hG (by decide)) (g_kd hG (by decide) rfl) rfl rfl) rfl rfl hl.1 rfl (lv_room (Nat.le_of_ble_eq_true rfl)) dX11_ask_42 ⟨Nat.zero_le _, Nat.zero_le _⟩) (fun r42 S42 H locs hp42 hW => ?_)
              obtain ⟨hs42, rfl⟩ := hp42
              rw [hs42] at hW
              rw [hkn]
              refine lv_iconst (v := 3) hx hb dX11_ask_45 (by decide) ?_
              refine lv_icmp_ne (tgt := 57) hx hb dX11_ask_46 (by decide) (fun c46 => ?_) (fun c46 => ?_)
              · skip
                refine lv_aload_n hx hb dX11_ask_57 rfl (lv_at hl 0 rfl) ?_
                refine lv_iload_n hx hb dX11_ask_58 rfl (lv_at hl 1 rfl) ?_
                refine r_calll hW hA (va_runV (As := [.int (nI p)]) (rest := []) ⟨hx, hb, hml, hown, hts⟩ (t_X11_markOf_2 l D G (ri S 65 (va_up (gi S 65) 19 0)) _ hG hP B c hB1 hc hM h00 p hp hkn) (cwV 1 hts gX11_ask_X11_markOf rfl rfl rfl (by decide +kernel) ⟨Nat.le_of_ble_eq_true rfl, Nat.le_of_ble_eq_true rfl⟩) (r_preV (k := 65) hA hW (ci := 10) (C := RX11) (T := TX11) (N := 20) rfl rfl (g_lt hG (by decide)) (g_kd hG (by decide) rfl) rfl rfl) rfl rfl hl.1 rfl (lv_room (Nat.le_of_ble_eq_true rfl)) dX11_ask_59 ⟨Nat.zero_le _, Nat.zero_le _⟩) (fun r59 S59 H locs hp59 hW => ?_)
                obtain ⟨rfl, hs59⟩ := hp59
                rw [hs59] at hW
                refine r_lret hx hb hr hlocks hW ?_ dX11_ask_62
                have e : fAsk B (nI p) a2 = ((lN p + 10 * lN (dueN (B 3) (B 1) (B 2) (B (18 + p)))), some [21, 20]) := by unfold fAsk; rw [if_pos (by omega), if_neg (by omega), epN, hkd]; rfl
                rw [e]
                have es : (trcM (trcM (ri S 65 (va_up (gi S 65) 19 0)) 21) 20) = trcsM (ri S 65 (va_up (gi S 65) 19 0)) [21, 20] := rfl
                rw [es]
                dsimp only [fTr]
                exact ⟨rfl, (trcsM_e S [21, 20]).1, (trcsM_e S [21, 20]).2.1, (trcsM_e S [21, 20]).2.2⟩
              · exact absurd c46 (by decide)
            · skip
              rw [t_eq, show (0 : Int32).toInt = 0 from by decide] at c29
              refine lv_aload_n hx hb dX11_ask_32 rfl (lv_at hl 0 rfl) ?_
              refine lv_iload_n hx hb dX11_ask_33 rfl (lv_at hl 1 rfl) ?_
              refine r_calll hW hA (va_runV (As := [.int (nI p)]) (rest := []) ⟨hx, hb, hml, hown, hts⟩ (t_X11_sizeOf_2 l D G (ri S 65 (va_up (gi S 65) 19 0)) _ hG hP B c hB1 hc hM h00 p hp hkn) (cwV 1 hts gX11_ask_X11_sizeOf rfl rfl rfl (by decide +kernel) ⟨Nat.le_of_ble_eq_true rfl, Nat.le_of_ble_eq_true rfl⟩) (r_preV (k := 65) hA hW (ci := 10) (C := RX11) (T := TX11) (N := 20) rfl rfl (g_lt hG (by decide)) (g_kd hG (by decide) rfl) rfl rfl) rfl rfl hl.1 rfl (lv_room (Nat.le_of_ble_eq_true rfl)) dX11_ask_34 ⟨Nat.zero_le _, Nat.zero_le _⟩) (fun r34 S34 H locs hp34 hW => ?_)
              obtain ⟨rfl, hs34⟩ := hp34
              rw [hs34] at hW
              refine lv_goto (tgt := 62) hx hb dX11_ask_37 (by decide) ?_
              refine r_lret hx hb hr hlocks hW ?_ dX11_ask_62
              have e : fAsk B (nI p) a2 = ((-((lN (B (18 + p))) + (lN p + 10 * lN (dueN (B 3) (B 1) (B 2) (B (18 + p)))))), some [12, 11, 10, 21, 20]) := by unfold fAsk; rw [if_pos (by omega), if_pos (by omega), epN, hkd]; rfl
              rw [e]
              have es : (trcM (trcM (trcM (trcM (trcM (ri S 65 (va_up (gi S 65) 19 0)) 12) 11) 10) 21) 20) = trcsM (ri S 65 (va_up (gi S 65) 19 0)) [12, 11, 10, 21, 20] := rfl
              rw [es]
              dsimp only [fTr]
              exact ⟨rfl, (trcsM_e S [12, 11, 10, 21, 20]).1, (trcsM_e S [12, 11, 10, 21, 20]).2.1, (trcsM_e S [12, 11, 10, 21, 20]).2.2⟩
          · have hkn : kdN (B (34 + p)) (B (18 + p)) = 3 := by simp [kdN, z1]
            have hkd : kdF (B (34 + p)) (B (18 + p)) = 6 := by simp [kdF, z1]
            refine lv_iload_n hx hb dX11_ask_28 rfl (lv_at hl 2 rfl) ?_
            refine lv_if_ne (tgt := 40) hx hb dX11_ask_29 (by decide) (fun c29 => ?_) (fun c29 => ?_)
            · skip
              rw [t_eq, show (0 : Int32).toInt = 0 from by decide] at c29
              refine lv_aload_n hx hb dX11_ask_40 rfl (lv_at hl 0 rfl) ?_
              refine lv_iload_n hx hb dX11_ask_41 rfl (lv_at hl 1 rfl) ?_
              refine r_calli hW hA (va_runV (As := [.int (nI p)]) (rest := []) ⟨hx, hb, hml, hown, hts⟩ (t_X11_kindOf l D G (ri S 65 (va_up (gi S 65) 19 0)) _ hG hP B c hB1 hc hM p hp) (cwV 1 hts gX11_ask_X11_kindOf rfl rfl rfl (by decide +kernel) ⟨Nat.le_of_ble_eq_true rfl, Nat.le_of_ble_eq_true rfl⟩) (r_preV (k := 65) hA hW (ci := 10) (C := RX11) (T := TX11) (N := 20) rfl rfl (g_lt hG (by decide)) (g_kd hG (by decide) rfl) rfl rfl) rfl rfl hl.1 rfl (lv_room (Nat.le_of_ble_eq_true rfl)) dX11_ask_42 ⟨Nat.zero_le _, Nat.zero_le _⟩) (fun r42 S42 H locs hp42 hW => ?_)
              obtain ⟨hs42, rfl⟩ := hp42
              rw [hs42] at hW
              rw [hkn]
              refine lv_iconst (v := 3) hx hb dX11_ask_45 (by decide) ?_
              refine lv_icmp_ne (tgt := 57) hx hb dX11_ask_46 (by decide) (fun c46 => ?_) (fun c46 => ?_)
              · exact absurd (by decide) c46
              · skip
                refine lv_aload_n hx hb dX11_ask_49 rfl (lv_at hl 0 rfl) ?_
                refine lv_iload_n hx hb dX11_ask_50 rfl (lv_at hl 1 rfl) ?_
                refine r_calll hW hA (va_runV (As := [.int (nI p)]) (rest := []) ⟨hx, hb, hml, hown, hts⟩ (t_X11_noneMark l D G (ri S 65 (va_up (gi S 65) 19 0)) _ hG hP B c hB1 hc hM h00 p hp) (cwV 1 hts gX11_ask_X11_noneMark rfl rfl rfl (by decide +kernel) ⟨Nat.le_of_ble_eq_true rfl, Nat.le_of_ble_eq_true rfl⟩) (r_preV (k := 65) hA hW (ci := 10) (C := RX11) (T := TX11) (N := 20) rfl rfl (g_lt hG (by decide)) (g_kd hG (by decide) rfl) rfl rfl) rfl rfl hl.1 rfl (lv_room (Nat.le_of_ble_eq_true rfl)) dX11_ask_51 ⟨Nat.zero_le _, Nat.zero_le _⟩) (fun r51 S51 H locs hp51 hW => ?_)
                obtain ⟨rfl, hs51⟩ := hp51
                rw [hs51] at hW
                refine lv_goto (tgt := 62) hx hb dX11_ask_54 (by decide) ?_
                refine r_lret hx hb hr hlocks hW ?_ dX11_ask_62
                have e : fAsk B (nI p) a2 = ((lN p - ((lN (B (18 + p))) - 100)), some [23, 20, 13, 10]) := by unfold fAsk; rw [if_pos (by omega), if_neg (by omega), epN, hkd]; rfl
                rw [e]
                have es : (trcM (trcM (trcM (trcM (ri S 65 (va_up (gi S 65) 19 0)) 23) 20) 13) 10) = trcsM (ri S 65 (va_up (gi S 65) 19 0)) [23, 20, 13, 10] := rfl
                rw [es]
                dsimp only [fTr]
                exact ⟨rfl, (trcsM_e S [23, 20, 13, 10]).1, (trcsM_e S [23, 20, 13, 10]).2.1, (trcsM_e S [23, 20, 13, 10]).2.2⟩
            · skip
              rw [t_eq, show (0 : Int32).toInt = 0 from by decide] at c29
              refine lv_aload_n hx hb dX11_ask_32 rfl (lv_at hl 0 rfl) ?_
              refine lv_iload_n hx hb dX11_ask_33 rfl (lv_at hl 1 rfl) ?_
              refine r_calll hW hA (va_runV (As := [.int (nI p)]) (rest := []) ⟨hx, hb, hml, hown, hts⟩ (t_X11_sizeOf_3 l D G (ri S 65 (va_up (gi S 65) 19 0)) _ hG hP B c hB1 hc hM h00 p hp hkn) (cwV 1 hts gX11_ask_X11_sizeOf rfl rfl rfl (by decide +kernel) ⟨Nat.le_of_ble_eq_true rfl, Nat.le_of_ble_eq_true rfl⟩) (r_preV (k := 65) hA hW (ci := 10) (C := RX11) (T := TX11) (N := 20) rfl rfl (g_lt hG (by decide)) (g_kd hG (by decide) rfl) rfl rfl) rfl rfl hl.1 rfl (lv_room (Nat.le_of_ble_eq_true rfl)) dX11_ask_34 ⟨Nat.zero_le _, Nat.zero_le _⟩) (fun r34 S34 H locs hp34 hW => ?_)
              obtain ⟨rfl, hs34⟩ := hp34
              rw [hs34] at hW
              refine lv_goto (tgt := 62) hx hb dX11_ask_37 (by decide) ?_
              refine r_lret hx hb hr hlocks hW ?_ dX11_ask_62
              have e : fAsk B (nI p) a2 = (((lN (B (18 + p))) - 100), some [13, 10]) := by unfold fAsk; rw [if_pos (by omega), if_pos (by omega), epN, hkd]; rfl
              rw [e]
              have es : (trcM (trcM (ri S 65 (va_up (gi S 65) 19 0)) 13) 10) = trcsM (ri S 65 (va_up (gi S 65) 19 0)) [13, 10] := rfl
              rw [es]
              dsimp only [fTr]
              exact ⟨rfl, (trcsM_e S [13, 10]).1, (trcsM_e S [13, 10]).2.1, (trcsM_e S [13, 10]).2.2⟩
          · have hkn : kdN (B (34 + p)) (B (18 + p)) = 4 := by simp [kdN, z1]
            have hkd : kdF (B (34 + p)) (B (18 + p)) = 8 := by simp [kdF, z1]
            refine lv_iload_n hx hb dX11_ask_28 rfl (lv_at hl 2 rfl) ?_
            refine lv_if_ne (tgt := 40) hx hb dX11_ask_29 (by decide) (fun c29 => ?_) (fun c29 => ?_)
            · skip
              rw [t_eq, show (0 : Int32).toInt = 0 from by decide] at c29
              refine lv_aload_n hx hb dX11_ask_40 rfl (lv_at hl 0 rfl) ?_
              refine lv_iload_n hx hb dX11_ask_41 rfl (lv_at hl 1 rfl) ?_
              refine r_calli hW hA (va_runV (As := [.int (nI p)]) (rest := []) ⟨hx, hb, hml, hown, hts⟩ (t_X11_kindOf l D G (ri S 65 (va_up (gi S 65) 19 0)) _ hG hP B c hB1 hc hM p hp) (cwV 1 hts gX11_ask_X11_kindOf rfl rfl rfl (by decide +kernel) ⟨Nat.le_of_ble_eq_true rfl, Nat.le_of_ble_eq_true rfl⟩) (r_preV (k := 65) hA hW (ci := 10) (C := RX11) (T := TX11) (N := 20) rfl rfl (g_lt hG (by decide)) (g_kd hG (by decide) rfl) rfl rfl) rfl rfl hl.1 rfl (lv_room (Nat.le_of_ble_eq_true rfl)) dX11_ask_42 ⟨Nat.zero_le _, Nat.zero_le _⟩) (fun r42 S42 H locs hp42 hW => ?_)
              obtain ⟨hs42, rfl⟩ := hp42
              rw [hs42] at hW
              rw [hkn]
              refine lv_iconst (v := 3) hx hb dX11_ask_45 (by decide) ?_
              refine lv_icmp_ne (tgt := 57) hx hb dX11_ask_46 (by decide) (fun c46 => ?_) (fun c46 => ?_)
              · skip
                refine lv_aload_n hx hb dX11_ask_57 rfl (lv_at hl 0 rfl) ?_
                refine lv_iload_n hx hb dX11_ask_58 rfl (lv_at hl 1 rfl) ?_
                refine r_calll hW hA (va_runV (As := [.int (nI p)]) (rest := []) ⟨hx, hb, hml, hown, hts⟩ (t_X11_markOf_4 l D G (ri S 65 (va_up (gi S 65) 19 0)) _ hG hP B c hB1 hc hM h00 p hp hkn) (cwV 1 hts gX11_ask_X11_markOf rfl rfl rfl (by decide +kernel) ⟨Nat.le_of_ble_eq_true rfl, Nat.le_of_ble_eq_true rfl⟩) (r_preV (k := 65) hA hW (ci := 10) (C := RX11) (T := TX11) (N := 20) rfl rfl (g_lt hG (by decide)) (g_kd hG (by decide) rfl) rfl rfl) rfl rfl hl.1 rfl (lv_room (Nat.le_of_ble_eq_true rfl)) dX11_ask_59 ⟨Nat.zero_le _, Nat.zero_le _⟩) (fun r59 S59 H locs hp59 hW => ?_)
                obtain ⟨rfl, hs59⟩ := hp59
                rw [hs59] at hW
                refine r_lret hx hb hr hlocks hW ?_ dX11_ask_62
                have e : fAsk B (nI p) a2 = ((lN p + lN (B (50 + p))), some [22, 20]) := by unfold fAsk; rw [if_pos (by omega), if_neg (by omega), epN, hkd]; rfl
                rw [e]
                have es : (trcM (trcM (ri S 65 (va_up (gi S 65) 19 0)) 22) 20) = trcsM (ri S 65 (va_up (gi S 65) 19 0)) [22, 20] := rfl
                rw [es]
                dsimp only [fTr]
                exact ⟨rfl, (trcsM_e S [22, 20]).1, (trcsM_e S [22, 20]).2.1, (trcsM_e S [22, 20]).2.2⟩
              · exact absurd c46 (by decide)
            · skip
              rw [t_eq, show (0 : Int32).toInt = 0 from by decide] at c29
              refine lv_aload_n hx hb dX11_ask_32 rfl (lv_at hl 0 rfl) ?_
              refine lv_iload_n hx hb dX11_ask_33 rfl (lv_at hl 1 rfl) ?_
              refine r_calll hW hA (va_runV (As := [.int (nI p)]) (rest := []) ⟨hx, hb, hml, hown, hts⟩ (t_X11_sizeOf_4 l D G (ri S 65 (va_up (gi S 65) 19 0)) _ hG hP B c hB1 hc hM h00 p hp hkn) (cwV 1 hts gX11_ask_X11_sizeOf rfl rfl rfl (by decide +kernel) ⟨Nat.le_of_ble_eq_true rfl, Nat.le_of_ble_eq_true rfl⟩) (r_preV (k := 65) hA hW (ci := 10) (C := RX11) (T := TX11) (N := 20) rfl rfl (g_lt hG (by decide)) (g_kd hG (by decide) rfl) rfl rfl) rfl rfl hl.1 rfl (lv_room (Nat.le_of_ble_eq_true rfl)) dX11_ask_34 ⟨Nat.zero_le _, Nat.zero_le _⟩) (fun r34 S34 H locs hp34 hW => ?_)
              obtain ⟨rfl, hs34⟩ := hp34
              rw [hs34] at hW
              refine lv_goto (tgt := 62) hx hb dX11_ask_37 (by decide) ?_
              refine r_lret hx hb hr hlocks hW ?_ dX11_ask_62
              have e : fAsk B (nI p) a2 = ((lN (B (18 + p))), some [10]) := by unfold fAsk; rw [if_pos (by omega), if_pos (by omega), epN, hkd]; rfl
              rw [e]
              have es : (trcM (ri S 65 (va_up (gi S 65) 19 0)) 10) = trcsM (ri S 65 (va_up (gi S 65) 19 0)) [10] := rfl
              rw [es]
              dsimp only [fTr]
              exact ⟨rfl, (trcsM_e S [10]).1, (trcsM_e S [10]).2.1, (trcsM_e S [10]).2.2⟩
        · exact absurd c16 (by decide)
      · skip
        refine lv_if_ne (tgt := 23) hx hb dX11_ask_16 (by decide) (fun c16 => ?_) (fun c16 => ?_)
        · exact absurd (by decide) c16
        · skip
          refine lv_ldc2 (v := (-9000000000000000001)) hx hb hown q1 dX11_ask_19 ?_
          refine r_lret hx hb hr hlocks hW ?_ dX11_ask_22
          have e : fAsk B a1 a2 = (BADL, none) := by unfold fAsk; rw [if_neg (by omega)]
          rw [e]
          exact ⟨rfl, rfl, rfl, rfl, rfl, fun _ _ _ => rfl, fun _ _ => rfl⟩
  · skip
    refine lv_if_eq (tgt := 19) hx hb dX11_ask_6 (by decide) (fun c6 => ?_) (fun c6 => ?_)
    · skip
      refine lv_ldc2 (v := (-9000000000000000001)) hx hb hown q1 dX11_ask_19 ?_
      refine r_lret hx hb hr hlocks hW ?_ dX11_ask_22
      have e : fAsk B a1 a2 = (BADL, none) := by unfold fAsk; rw [if_neg (by omega)]
      rw [e]
      exact ⟨rfl, rfl, rfl, rfl, rfl, fun _ _ _ => rfl, fun _ _ => rfl⟩
    · exact absurd (by decide) c6

def rmX11_fault : Jvm.Room := { frames := 0, cells := 0, slots := 0, locals := 0 }
set_option maxHeartbeats 4000000 in
set_option maxRecDepth 100000 in
theorem t_X11_fault (l : Launch) (D : Dc) (G : Gg) (S : Sg) (z : Nat) (hG : GrG G) (hP : GrP G S)  : MI l yX11_fault wsX11_fault rmX11_fault D G S z [.ref (gA G 65)] (fun r S' => r = gi S 65 14 ∧ S' = S) := by
  refine Met.ofW (cc := cX11_fault) (maxL := 1) (ret := (some .int)) (by decide +kernel) rfl ?_
  intro pP eE s mM args bl mT cD s₁ bD hml hv
  obtain ⟨rfl, hv⟩ := hv
  have hz := hv.1
  subst hz
  have hx := bD.exec
  have hb := bD.bytes
  have hr := bD.returns
  have hts := atoms_spec (ws := wsX11_fault) bD.pre
  have hown : s.vm.findClass RX11 = some mM.cls := findClass_of_methodNamed bD.named
  have hlocks := bD.notSynchronized
  have hW := Wd.start hv
  have hA : ∀ q, s.heap.size ≤ q → AW G s.heap.size q := fun q h => Or.inr h
  have hl := lv_entry ([.ref (gA G 65)]) (n := 1) (Nat.le_of_ble_eq_true rfl)
  rw [lg_entry_eq]
  generalize (lg_sl ([.ref (gA G 65)]) ++ List.replicate (1 - (lg_sl ([.ref (gA G 65)])).length) Slot.unset).toArray = ls at hl ⊢
  have hl : lv_has ls 1 [(0, .ref (gA G 65))] := hl
  have q0 := hts (.fieldLink RX11 145 "WoodForTwoModel" "latest" "I") (List.mem_of_getElem? (i := 1) rfl)
  have iX11 : ∀ w ∈ wsX110, w ∈ wsX11_fault := fun _ h => List.mem_cons_of_mem _ (List.mem_append_right _ (h))
  refine lv_aload_n hx hb dX11_fault_0 rfl (lv_at hl 0 rfl) ?_
  refine r_geti (ci := 10) (C := RX11) (T := TX11) (N := 20) hx hb hts iX11 hown hW rfl 65 14 rfl (g_lt hG (by decide)) (g_kd hG (by decide) rfl) (by decide) q0 (fun _ h9 => h9) (gi S 65 14) rfl rfl rfl dX11_fault_1 ?_
  refine r_iret hx hb hr hlocks hW ?_ dX11_fault_4
  exact ⟨rfl, rfl⟩

def rmX11_status : Jvm.Room := { frames := 0, cells := 0, slots := 0, locals := 0 }
set_option maxHeartbeats 4000000 in
set_option maxRecDepth 100000 in
theorem t_X11_status (l : Launch) (D : Dc) (G : Gg) (S : Sg) (z : Nat) (hG : GrG G) (hP : GrP G S)  : MI l yX11_status wsX11_status rmX11_status D G S z [.ref (gA G 65)] (fun r S' => r = gi S 65 4 ∧ S' = S) := by
  refine Met.ofW (cc := cX11_status) (maxL := 1) (ret := (some .int)) (by decide +kernel) rfl ?_
  intro pP eE s mM args bl mT cD s₁ bD hml hv
  obtain ⟨rfl, hv⟩ := hv
  have hz := hv.1
  subst hz
  have hx := bD.exec
  have hb := bD.bytes
  have hr := bD.returns
  have hts := atoms_spec (ws := wsX11_status) bD.pre
  have hown : s.vm.findClass RX11 = some mM.cls := findClass_of_methodNamed bD.named
  have hlocks := bD.notSynchronized
  have hW := Wd.start hv
  have hA : ∀ q, s.heap.size ≤ q → AW G s.heap.size q := fun q h => Or.inr h
  have hl := lv_entry ([.ref (gA G 65)]) (n := 1) (Nat.le_of_ble_eq_true rfl)
  rw [lg_entry_eq]
  generalize (lg_sl ([.ref (gA G 65)]) ++ List.replicate (1 - (lg_sl ([.ref (gA G 65)])).length) Slot.unset).toArray = ls at hl ⊢
  have hl : lv_has ls 1 [(0, .ref (gA G 65))] := hl
  have q0 := hts (.fieldLink RX11 38 "WoodForTwoModel" "status" "I") (List.mem_of_getElem? (i := 1) rfl)
  have iX11 : ∀ w ∈ wsX110, w ∈ wsX11_status := fun _ h => List.mem_cons_of_mem _ (List.mem_append_right _ (h))
  refine lv_aload_n hx hb dX11_status_0 rfl (lv_at hl 0 rfl) ?_
  refine r_geti (ci := 10) (C := RX11) (T := TX11) (N := 20) hx hb hts iX11 hown hW rfl 65 4 rfl (g_lt hG (by decide)) (g_kd hG (by decide) rfl) (by decide) q0 (fun _ h9 => h9) (gi S 65 4) rfl rfl rfl dX11_status_1 ?_
  refine r_iret hx hb hr hlocks hW ?_ dX11_status_4
  exact ⟨rfl, rfl⟩

def rmX11_trace : Jvm.Room := { frames := 1, cells := 0, slots := 0, locals := 25 }
set_option maxHeartbeats 4000000 in
set_option maxRecDepth 100000 in
theorem t_X11_trace (l : Launch) (D : Dc) (G : Gg) (S : Sg) (z : Nat) (hG : GrG G) (hP : GrP G S) (h0 : 0 ≤ (gi S 65 19).toInt) (h16 : (gi S 65 19).toInt ≤ 16) (a1 : Int32) : MI l yX11_trace wsX11_trace rmX11_trace D G S z [.ref (gA G 65), .int a1] (fun r S' => r = fTrace (gi S 65 19) (gi S 74) a1 ∧ S' = S) := by
  refine Met.ofW (cc := cX11_trace) (maxL := 2) (ret := (some .int)) (by decide +kernel) rfl ?_
  intro pP eE s mM args bl mT cD s₁ bD hml hv
  obtain ⟨rfl, hv⟩ := hv
  have hz := hv.1
  subst hz
  have hx := bD.exec
  have hb := bD.bytes
  have hr := bD.returns
  have hts := atoms_spec (ws := wsX11_trace) bD.pre
  have hown : s.vm.findClass RX11 = some mM.cls := findClass_of_methodNamed bD.named
  have hlocks := bD.notSynchronized
  have hW := Wd.start hv
  have hA : ∀ q, s.heap.size ≤ q → AW G s.heap.size q := fun q h => Or.inr h
  have hl := lv_entry ([.ref (gA G 65), .int a1]) (n := 2) (Nat.le_of_ble_eq_true rfl)
  rw [lg_entry_eq]
  generalize (lg_sl ([.ref (gA G 65), .int a1]) ++ List.replicate (2 - (lg_sl ([.ref (gA G 65), .int a1])).length) Slot.unset).toArray = ls at hl ⊢
  have hl : lv_has ls 2 [(0, .ref (gA G 65)), (1, .int a1)] := hl
  have q0 := hts (.fieldLink RX11 231 "WoodForTwoModel" "traces" "I") (List.mem_of_getElem? (i := 1) rfl)
  have q1 := hts (.fieldLink RX11 35 "WoodForTwoModel" "trace" "[I") (List.mem_of_getElem? (i := 2) rfl)
  have q2 := hts (.constant RX11 223 (-1000000)) (List.mem_of_getElem? (i := 3) rfl)
  have iX11 : ∀ w ∈ wsX110, w ∈ wsX11_trace := fun _ h => List.mem_cons_of_mem _ (List.mem_append_right _ (h))
  refine lv_iload_n hx hb dX11_trace_0 rfl (lv_at hl 1 rfl) ?_
  refine lv_i2l hx hb dX11_trace_1 rfl ?_
  refine lv_lconst (v := 0) hx hb dX11_trace_2 (by decide) ?_
  refine lv_aload_n hx hb dX11_trace_3 rfl (lv_at hl 0 rfl) ?_
  refine r_geti (ci := 10) (C := RX11) (T := TX11) (N := 20) hx hb hts iX11 hown hW rfl 65 19 rfl (g_lt hG (by decide)) (g_kd hG (by decide) rfl) (by decide) q0 (fun _ h9 => h9) (gi S 65 19) rfl rfl rfl dX11_trace_4 ?_
  refine lv_iconst (v := 1) hx hb dX11_trace_7 (by decide) ?_
  refine lv_isub hx hb dX11_trace_8 ?_
  refine lv_i2l hx hb dX11_trace_9 rfl ?_
  refine r_calli hW hA (va_runS (As := [.long (Int32.toInt64 a1), .long 0, .long (Int32.toInt64 ((gi S 65 19) - 1))]) (rest := []) ⟨hx, hb, hml, hown, hts⟩ (t_X11_in l D G S _ (Int32.toInt64 a1) 0 (Int32.toInt64 ((gi S 65 19) - 1)) a1.toInt 0 ((gi S 65 19).toInt - 1) (Int32.toInt_toInt64 _) (by decide) (by rw [Int32.toInt_toInt64, t_sub] <;> (rw [show (1 : Int32).toInt = 1 from by decide]) <;> omega)) (va_cwS 3 hts gX11_trace_X11_in rfl rfl rfl (by decide +kernel) ⟨Nat.le_of_ble_eq_true rfl, Nat.le_of_ble_eq_true rfl⟩) (r_preS hA hW) rfl rfl hl.1 rfl (lv_room (Nat.le_of_ble_eq_true rfl)) dX11_trace_10 ⟨Nat.zero_le _, Nat.zero_le _⟩) (fun r10 S10 H locs hp10 hW => ?_)
  obtain ⟨hs10, hp10⟩ := hp10
  rw [hs10] at hW
  rcases hp10 with ⟨rfl, h10⟩ | ⟨rfl, h10⟩
  · skip
    refine lv_if_eq (tgt := 25) hx hb dX11_trace_13 (by decide) (fun c13 => ?_) (fun c13 => ?_)
    · exact absurd c13 (by decide)
    · skip
      refine lv_aload_n hx hb dX11_trace_16 rfl (lv_at hl 0 rfl) ?_
      refine r_getr (ci := 10) (C := RX11) (T := TX11) (N := 20) hx hb hts iX11 hown hW rfl 65 18 rfl (g_lt hG (by decide)) (g_kd hG (by decide) rfl) (by decide) q1 (fun _ h9 => h9) (hP _ (List.mem_of_getElem? (i := 68) rfl)) rfl rfl dX11_trace_17 ?_
      refine lv_iload_n hx hb dX11_trace_20 rfl (lv_at hl 1 rfl) ?_
      refine r_iald hx hb hW 74 rfl (g_lt hG (by decide)) (g_kd hG (by decide) rfl) (g_ix hG (c := 16) (by decide) rfl (t_in (by omega) (by omega))) ((gi S 74) (a1).toNatClampNeg) rfl dX11_trace_21 ?_
      refine lv_goto (tgt := 27) hx hb dX11_trace_22 (by decide) ?_
      refine r_iret hx hb hr hlocks hW ?_ dX11_trace_27
      refine ⟨?_, rfl⟩
      unfold fTrace; rw [if_pos (by omega)]
  · skip
    refine lv_if_eq (tgt := 25) hx hb dX11_trace_13 (by decide) (fun c13 => ?_) (fun c13 => ?_)
    · skip
      refine lv_ldc (v := (-1000000)) hx hb hown q2 dX11_trace_25 ?_
      refine r_iret hx hb hr hlocks hW ?_ dX11_trace_27
      refine ⟨?_, rfl⟩
      unfold fTrace; rw [if_neg (by omega)]
    · exact absurd (by decide) c13

def rmX11_count : Jvm.Room := { frames := 1, cells := 0, slots := 0, locals := 25 }
set_option maxHeartbeats 4000000 in
set_option maxRecDepth 100000 in
theorem t_X11_count (l : Launch) (D : Dc) (G : Gg) (S : Sg) (z : Nat) (hG : GrG G) (hP : GrP G S) (B : Nat → Nat) (c : Nat) (hB : BP B c) (hc : c < 100000) (hM : ∀ k, k < 140 → gj S 66 k = lN (B k)) (la le : Nat → Int32) (it : Nat → Nat → Int32) (hRX : RowsM S it la le) (hL : LeOK le) (ts : Nat) (ht4 : ts ≤ 400) (hts1 : gi S 65 7 = nI ts) (a1 : Int32) : ML l yX11_count wsX11_count rmX11_count D G S z [.ref (gA G 65), .int a1] (fun r S' => r = fCount B le ts a1 ∧ S' = S) := by
  refine Met.ofW (cc := cX11_count) (maxL := 4) (ret := (some .long)) (by decide +kernel) rfl ?_
  intro pP eE s mM args bl mT cD s₁ bD hml hv
  obtain ⟨rfl, hv⟩ := hv
  have hz := hv.1
  subst hz
  have hx := bD.exec
  have hb := bD.bytes
  have hr := bD.returns
  have hts := atoms_spec (ws := wsX11_count) bD.pre
  have hown : s.vm.findClass RX11 = some mM.cls := findClass_of_methodNamed bD.named
  have hlocks := bD.notSynchronized
  have hW := Wd.start hv
  have hA : ∀ q, s.heap.size ≤ q → AW G s.heap.size q := fun q h => Or.inr h
  have hl := lv_entry ([.ref (gA G 65), .int a1]) (n := 4) (Nat.le_of_ble_eq_true rfl)
  rw [lg_entry_eq]
  generalize (lg_sl ([.ref (gA G 65), .int a1]) ++ List.replicate (4 - (lg_sl ([.ref (gA G 65), .int a1])).length) Slot.unset).toArray = ls at hl ⊢
  have hl : lv_has ls 4 [(0, .ref (gA G 65)), (1, .int a1)] := hl
  have q0 := hts (.constantLong RX11 263 (6)) (List.mem_of_getElem? (i := 1) rfl)
  have q1 := hts (.fieldLink RX11 76 "WoodForTwoModel" "tapeSize" "I") (List.mem_of_getElem? (i := 5) rfl)
  have q2 := hts (.fieldLink RX11 7 "WoodForTwoModel" "w" "[J") (List.mem_of_getElem? (i := 4) rfl)
  have q3 := hts (.fieldLink RX11 20 "WoodForTwoModel" "length" "[I") (List.mem_of_getElem? (i := 3) rfl)
  have q4 := hts (.constantLong RX11 56 (-9000000000000000001)) (List.mem_of_getElem? (i := 2) rfl)
  have iX11 : ∀ w ∈ wsX110, w ∈ wsX11_count := fun _ h => List.mem_cons_of_mem _ (List.mem_append_right _ (h))
  generalize hQ0 : MQ bl _ _ s _ _ _ = Q0
  have hbp := BP_b hB
  refine lv_iload_n hx hb dX11_count_0 rfl (lv_at hl 1 rfl) ?_
  refine lv_i2l hx hb dX11_count_1 rfl ?_
  refine lv_lconst (v := 0) hx hb dX11_count_2 (by decide) ?_
  refine lv_ldc2 (v := (6)) hx hb hown q0 dX11_count_3 ?_
  refine r_calli hW hA (va_runS (As := [.long (Int32.toInt64 a1), .long 0, .long (6)]) (rest := []) ⟨hx, hb, hml, hown, hts⟩ (t_X11_in l D G S _ (Int32.toInt64 a1) 0 (6) (a1).toInt 0 6 (Int32.toInt_toInt64 _) (by decide) (by decide)) (va_cwS 3 hts gX11_count_X11_in rfl rfl rfl (by decide +kernel) ⟨Nat.le_of_ble_eq_true rfl, Nat.le_of_ble_eq_true rfl⟩) (r_preS hA hW) rfl rfl hl.1 rfl (lv_room (Nat.le_of_ble_eq_true rfl)) dX11_count_6 ⟨Nat.zero_le _, Nat.zero_le _⟩) (fun r6 S6 H locs hp6 hW => ?_)
  obtain ⟨hs6, hp6⟩ := hp6
  rw [hs6] at hW
  rcases hp6 with ⟨rfl, h6⟩ | ⟨rfl, h6⟩
  · skip
    refine lv_if_ne (tgt := 16) hx hb dX11_count_9 (by decide) (fun c9 => ?_) (fun c9 => ?_)
    · skip
      refine lv_iconst (v := 0) hx hb dX11_count_16 (by decide) ?_
      refine lv_istore_n (lv' := [(2, .int 0), (0, .ref (gA G 65)), (1, .int a1)]) hx hb dX11_count_17 rfl hl (by decide) rfl (fun ls hl => ?_)
      refine lv_iconst (v := 0) hx hb dX11_count_18 (by decide) ?_
      refine lv_istore_n (lv' := [(3, .int 0), (2, .int 0), (0, .ref (gA G 65)), (1, .int a1)]) hx hb dX11_count_19 rfl hl (by decide) rfl (fun ls hl => ?_)
      have L20 : ∀ (n : Nat) (i : Nat) (H : Heap) (locs : List Loc) (ls : Array Slot), (8 - i) < n → i ≤ 8 → Wd D (AW G s.heap.size) s G S H locs → lv_has ls 4 [(3, .int (nI i)), (2, .int (nI (cntR le i))), (0, .ref (gA G 65)), (1, .int a1)] → W pP l eE (headSpec wsX11_count rmX11_count).room s mM ([.ref (gA G 65), .int a1] : List Value).toArray bl mT cD H locs 0 0 Q0 (F0 mM 20 ls []) := by
        intro n
        induction n with
        | zero => intro i H locs ls hm; exact absurd hm (Nat.not_lt_zero _)
        | succ n ih20 =>
          intro i H locs ls hm20 hi hW hl
          refine lv_iload_n hx hb dX11_count_20 rfl (lv_at hl 0 rfl) ?_
          refine lv_bipush (v := 8) hx hb dX11_count_21 (by decide) ?_
          refine lv_icmp_ge (tgt := 52) hx hb dX11_count_23 (by decide) (fun c23 => ?_) (fun c23 => ?_)
          · skip
            have hge : 8 ≤ i := (n_le (a := 8) (by omega) (by omega)).mp c23
            have hcr := cntR_le le i
            refine lv_iload_n hx hb dX11_count_52 rfl (lv_at hl 3 rfl) ?_
            rcases (show ((a1).toInt < 0 ∨ 5 < (a1).toInt) ∨ (a1).toInt = 0 ∨ (a1).toInt = 1 ∨ (a1).toInt = 2 ∨ (a1).toInt = 3 ∨ (a1).toInt = 4 ∨ (a1).toInt = 5 by omega) with k53 | k53 | k53 | k53 | k53 | k53 | k53
            · refine lv_tableOut (tgt := 135) hx hb dX11_count_53 k53 (by decide) ?_
              refine lv_aload_n hx hb dX11_count_135 rfl (lv_at hl 2 rfl) ?_
              refine r_geti (ci := 10) (C := RX11) (T := TX11) (N := 20) hx hb hts iX11 hown hW rfl 65 7 rfl (g_lt hG (by decide)) (g_kd hG (by decide) rfl) (by decide) q1 (fun _ h9 => h9) (nI ts) hts1 rfl rfl dX11_count_136 ?_
              refine lv_i2l hx hb dX11_count_139 rfl ?_
              rw [show (Int32.toInt64 (nI ts) : Int64) = lN ts from lN_of (by omega)]
              rw [← hQ0]
              refine r_lret hx hb hr hlocks hW ?_ dX11_count_140
              refine ⟨?_, rfl⟩
              unfold fCount; rw [if_pos (by omega), if_neg (by omega), if_neg (by omega), if_neg (by omega), if_neg (by omega), if_neg (by omega), if_neg (by omega)]
            · refine lv_tableIn (off := 39) (tgt := 92) hx hb dX11_count_53 (by omega) (by omega) (by rw [k53]; rfl) (by decide) ?_
              refine lv_iload_n hx hb dX11_count_92 rfl (lv_at hl 1 rfl) ?_
              refine lv_i2l hx hb dX11_count_93 rfl ?_
              rw [show (Int32.toInt64 (nI (cntR le i)) : Int64) = lN (cntR le i) from lN_of (by omega)]
              rw [← hQ0]
              refine r_lret hx hb hr hlocks hW ?_ dX11_count_94
              have hi8 : i = 8 := by omega
              subst hi8
              refine ⟨?_, rfl⟩
              unfold fCount; rw [if_pos (by omega), if_pos (by omega)]
            · refine lv_tableIn (off := 42) (tgt := 95) hx hb dX11_count_53 (by omega) (by omega) (by rw [k53]; rfl) (by decide) ?_
              refine lv_aload_n hx hb dX11_count_95 rfl (lv_at hl 2 rfl) ?_
              refine r_getr (ci := 10) (C := RX11) (T := TX11) (N := 20) hx hb hts iX11 hown hW rfl 65 0 rfl (g_lt hG (by decide)) (g_kd hG (by decide) rfl) (by decide) q2 (fun _ h9 => h9) (hP _ (List.mem_of_getElem? (i := 60) rfl)) rfl rfl dX11_count_96 ?_
              refine lv_bipush (v := 17) hx hb dX11_count_99 (by decide) ?_
              refine W.eq (g2 := F0 mM 101 ls [.int (nI 17), .ref (gA G 66)]) rfl ?_
              refine r_lald hx hb hW 66 rfl (g_lt hG (by decide)) (g_kd hG (by decide) rfl) (g_ix hG (c := 560) (by decide) rfl (n_inI (by omega) (by decide))) (lN (B 17)) (by rw [n_clamp (by omega)]; exact (hM 17 (by omega))) dX11_count_101 ?_
              rw [← hQ0]
              refine r_lret hx hb hr hlocks hW ?_ dX11_count_102
              refine ⟨?_, rfl⟩
              unfold fCount; rw [if_pos (by omega), if_neg (by omega), if_pos (by omega)]
            · refine lv_tableIn (off := 50) (tgt := 103) hx hb dX11_count_53 (by omega) (by omega) (by rw [k53]; rfl) (by decide) ?_
              refine lv_aload_n hx hb dX11_count_103 rfl (lv_at hl 2 rfl) ?_
              refine r_getr (ci := 10) (C := RX11) (T := TX11) (N := 20) hx hb hts iX11 hown hW rfl 65 0 rfl (g_lt hG (by decide)) (g_kd hG (by decide) rfl) (by decide) q2 (fun _ h9 => h9) (hP _ (List.mem_of_getElem? (i := 60) rfl)) rfl rfl dX11_count_104 ?_
              refine lv_iconst (v := 4) hx hb dX11_count_107 (by decide) ?_
              refine W.eq (g2 := F0 mM 108 ls [.int (nI 4), .ref (gA G 66)]) rfl ?_
              refine r_lald hx hb hW 66 rfl (g_lt hG (by decide)) (g_kd hG (by decide) rfl) (g_ix hG (c := 560) (by decide) rfl (n_inI (by omega) (by decide))) (lN (B 4)) (by rw [n_clamp (by omega)]; exact (hM 4 (by omega))) dX11_count_108 ?_
              rw [← hQ0]
              refine r_lret hx hb hr hlocks hW ?_ dX11_count_109
              refine ⟨?_, rfl⟩
              unfold fCount; rw [if_pos (by omega), if_neg (by omega), if_neg (by omega), if_pos (by omega)]
            · refine lv_tableIn (off := 57) (tgt := 110) hx hb dX11_count_53 (by omega) (by omega) (by rw [k53]; rfl) (by decide) ?_
              refine lv_aload_n hx hb dX11_count_110 rfl (lv_at hl 2 rfl) ?_
              refine r_getr (ci := 10) (C := RX11) (T := TX11) (N := 20) hx hb hts iX11 hown hW rfl 65 0 rfl (g_lt hG (by decide)) (g_kd hG (by decide) rfl) (by decide) q2 (fun _ h9 => h9) (hP _ (List.mem_of_getElem? (i := 60) rfl)) rfl rfl dX11_count_111 ?_
              refine lv_sipush (v := 130) hx hb dX11_count_114 (by decide) ?_
              refine W.eq (g2 := F0 mM 117 ls [.int (nI 130), .ref (gA G 66)]) rfl ?_
              refine r_lald hx hb hW 66 rfl (g_lt hG (by decide)) (g_kd hG (by decide) rfl) (g_ix hG (c := 560) (by decide) rfl (n_inI (by omega) (by decide))) (lN (B 130)) (by rw [n_clamp (by omega)]; exact (hM 130 (by omega))) dX11_count_117 ?_
              rw [← hQ0]
              refine r_lret hx hb hr hlocks hW ?_ dX11_count_118
              refine ⟨?_, rfl⟩
              unfold fCount; rw [if_pos (by omega), if_neg (by omega), if_neg (by omega), if_neg (by omega), if_pos (by omega)]
            · refine lv_tableIn (off := 66) (tgt := 119) hx hb dX11_count_53 (by omega) (by omega) (by rw [k53]; rfl) (by decide) ?_
              refine lv_aload_n hx hb dX11_count_119 rfl (lv_at hl 2 rfl) ?_
              refine r_getr (ci := 10) (C := RX11) (T := TX11) (N := 20) hx hb hts iX11 hown hW rfl 65 0 rfl (g_lt hG (by decide)) (g_kd hG (by decide) rfl) (by decide) q2 (fun _ h9 => h9) (hP _ (List.mem_of_getElem? (i := 60) rfl)) rfl rfl dX11_count_120 ?_
              refine lv_iconst (v := 0) hx hb dX11_count_123 (by decide) ?_
              refine W.eq (g2 := F0 mM 124 ls [.int (nI 0), .ref (gA G 66)]) rfl ?_
              refine r_lald hx hb hW 66 rfl (g_lt hG (by decide)) (g_kd hG (by decide) rfl) (g_ix hG (c := 560) (by decide) rfl (n_inI (by omega) (by decide))) (lN (B 0)) (by rw [n_clamp (by omega)]; exact (hM 0 (by omega))) dX11_count_124 ?_
              rw [← hQ0]
              refine r_lret hx hb hr hlocks hW ?_ dX11_count_125
              refine ⟨?_, rfl⟩
              unfold fCount; rw [if_pos (by omega), if_neg (by omega), if_neg (by omega), if_neg (by omega), if_neg (by omega), if_pos (by omega)]
            · refine lv_tableIn (off := 73) (tgt := 126) hx hb dX11_count_53 (by omega) (by omega) (by rw [k53]; rfl) (by decide) ?_
              refine lv_aload_n hx hb dX11_count_126 rfl (lv_at hl 2 rfl) ?_
              refine r_getr (ci := 10) (C := RX11) (T := TX11) (N := 20) hx hb hts iX11 hown hW rfl 65 0 rfl (g_lt hG (by decide)) (g_kd hG (by decide) rfl) (by decide) q2 (fun _ h9 => h9) (hP _ (List.mem_of_getElem? (i := 60) rfl)) rfl rfl dX11_count_127 ?_
              refine lv_sipush (v := 131) hx hb dX11_count_130 (by decide) ?_
              refine W.eq (g2 := F0 mM 133 ls [.int (nI 131), .ref (gA G 66)]) rfl ?_
              refine r_lald hx hb hW 66 rfl (g_lt hG (by decide)) (g_kd hG (by decide) rfl) (g_ix hG (c := 560) (by decide) rfl (n_inI (by omega) (by decide))) (lN (B 131)) (by rw [n_clamp (by omega)]; exact (hM 131 (by omega))) dX11_count_133 ?_
              rw [← hQ0]
              refine r_lret hx hb hr hlocks hW ?_ dX11_count_134
              refine ⟨?_, rfl⟩
              unfold fCount; rw [if_pos (by omega), if_neg (by omega), if_neg (by omega), if_neg (by omega), if_neg (by omega), if_neg (by omega), if_pos (by omega)]
          · skip
            have hlt : i < 8 := by
              have h9 : ¬ 8 ≤ i := fun q => c23 ((n_le (a := 8) (by omega) (by omega)).mpr q)
              omega
            have hLi := hL i hlt
            refine lv_iload_n hx hb dX11_count_26 rfl (lv_at hl 1 rfl) ?_
            refine lv_aload_n hx hb dX11_count_27 rfl (lv_at hl 2 rfl) ?_
            refine r_getr (ci := 10) (C := RX11) (T := TX11) (N := 20) hx hb hts iX11 hown hW rfl 65 3 rfl (g_lt hG (by decide)) (g_kd hG (by decide) rfl) (by decide) q3 (fun _ h9 => h9) (hP _ (List.mem_of_getElem? (i := 63) rfl)) rfl rfl dX11_count_28 ?_
            refine lv_iload_n hx hb dX11_count_31 rfl (lv_at hl 0 rfl) ?_
            refine r_iald hx hb hW 69 rfl (g_lt hG (by decide)) (g_kd hG (by decide) rfl) (g_ix hG (c := 8) (by decide) rfl (n_inI (by omega) (by decide))) (le i) (by rw [n_clamp (by omega)]; exact (hRX i hlt).2.1) dX11_count_32 ?_
            refine lv_if_lt (tgt := 40) hx hb dX11_count_33 (by decide) (fun c33 => ?_) (fun c33 => ?_)
            · skip
              rw [t_lt, show (0 : Int32).toInt = 0 from by decide] at c33
              refine lv_iconst (v := 0) hx hb dX11_count_40 (by decide) ?_
              refine r_calli hW hA (va_runS (As := [.int 0]) (rest := [.int (nI (cntR le i))]) ⟨hx, hb, hml, hown, hts⟩ (t_X11_one l D G S _ 0 (by decide)) (va_cwS 1 hts gX11_count_X11_one rfl rfl rfl (by decide +kernel) ⟨Nat.le_of_ble_eq_true rfl, Nat.le_of_ble_eq_true rfl⟩) (r_preS hA hW) rfl rfl hl.1 rfl (lv_room (Nat.le_of_ble_eq_true rfl)) dX11_count_41 ⟨Nat.zero_le _, Nat.zero_le _⟩) (fun r41 S41 H locs hp41 hW => ?_)
              obtain ⟨hs41, rfl⟩ := hp41
              rw [hs41] at hW
              refine lv_iadd hx hb dX11_count_44 ?_
              rw [show (((nI (cntR le i)) + 0) : Int32) = (nI ((cntR le i) + 0)) from n_add (cntR le i) 0]
              have ez : ((nI ((cntR le i) + 0)) : Int32) = (nI (cntR le (i + 1))) := by show _ = nI (cntR le i + (if (le i).toInt = -1 then 0 else 1)); rw [if_pos (by omega)]
              refine W.eq (g2 := F0 mM 45 ls [.int (nI (cntR le (i + 1)))]) (by rw [← ez]) ?_
              refine lv_istore_n (lv' := [(2, .int (nI (cntR le (i + 1)))), (3, .int (nI i)), (0, .ref (gA G 65)), (1, .int a1)]) hx hb dX11_count_45 rfl hl (by decide) rfl (fun ls hl => ?_)
              refine lv_iinc (v := (nI (i + 1))) (lv' := [(3, .int (nI (i + 1))), (2, .int (nI (cntR le (i + 1)))), (0, .ref (gA G 65)), (1, .int a1)]) hx hb dX11_count_46 hl (k := 1) rfl (nI_1 i) (by decide) rfl (fun ls hl => ?_)
              refine lv_goto (tgt := 20) hx hb dX11_count_49 (by decide) ?_
              exact ih20 (i + 1) _ _ ls (by omega) hlt hW (lv_sub hl [0, 1, 2, 3] rfl)
            · skip
              rw [t_lt, show (0 : Int32).toInt = 0 from by decide] at c33
              refine lv_iconst (v := 1) hx hb dX11_count_36 (by decide) ?_
              refine lv_goto (tgt := 41) hx hb dX11_count_37 (by decide) ?_
              refine r_calli hW hA (va_runS (As := [.int 1]) (rest := [.int (nI (cntR le i))]) ⟨hx, hb, hml, hown, hts⟩ (t_X11_one l D G S _ 1 (by decide)) (va_cwS 1 hts gX11_count_X11_one rfl rfl rfl (by decide +kernel) ⟨Nat.le_of_ble_eq_true rfl, Nat.le_of_ble_eq_true rfl⟩) (r_preS hA hW) rfl rfl hl.1 rfl (lv_room (Nat.le_of_ble_eq_true rfl)) dX11_count_41 ⟨Nat.zero_le _, Nat.zero_le _⟩) (fun r41 S41 H locs hp41 hW => ?_)
              obtain ⟨hs41, rfl⟩ := hp41
              rw [hs41] at hW
              refine lv_iadd hx hb dX11_count_44 ?_
              rw [show (((nI (cntR le i)) + 1) : Int32) = (nI ((cntR le i) + 1)) from n_add (cntR le i) 1]
              have ez : ((nI ((cntR le i) + 1)) : Int32) = (nI (cntR le (i + 1))) := by show _ = nI (cntR le i + (if (le i).toInt = -1 then 0 else 1)); rw [if_neg (by omega)]
              refine W.eq (g2 := F0 mM 45 ls [.int (nI (cntR le (i + 1)))]) (by rw [← ez]) ?_
              refine lv_istore_n (lv' := [(2, .int (nI (cntR le (i + 1)))), (3, .int (nI i)), (0, .ref (gA G 65)), (1, .int a1)]) hx hb dX11_count_45 rfl hl (by decide) rfl (fun ls hl => ?_)
              refine lv_iinc (v := (nI (i + 1))) (lv' := [(3, .int (nI (i + 1))), (2, .int (nI (cntR le (i + 1)))), (0, .ref (gA G 65)), (1, .int a1)]) hx hb dX11_count_46 hl (k := 1) rfl (nI_1 i) (by decide) rfl (fun ls hl => ?_)
              refine lv_goto (tgt := 20) hx hb dX11_count_49 (by decide) ?_
              exact ih20 (i + 1) _ _ ls (by omega) hlt hW (lv_sub hl [0, 1, 2, 3] rfl)
      exact L20 _ 0 _ _ ls (Nat.lt_succ_self _) (Nat.zero_le _) hW (lv_sub hl [0, 1, 2, 3] rfl)
    · exact absurd c9 (by decide)
  · skip
    refine lv_if_ne (tgt := 16) hx hb dX11_count_9 (by decide) (fun c9 => ?_) (fun c9 => ?_)
    · exact absurd (by decide) c9
    · skip
      refine lv_ldc2 (v := (-9000000000000000001)) hx hb hown q4 dX11_count_12 ?_
      rw [← hQ0]
      refine r_lret hx hb hr hlocks hW ?_ dX11_count_15
      refine ⟨?_, rfl⟩
      unfold fCount; rw [if_neg (by omega)]; rfl
