def rmX5_empty : Jvm.Room := { frames := 1, cells := 0, slots := 0, locals := 23 }
set_option maxHeartbeats 4000000 in
set_option maxRecDepth 100000 in
theorem t_X5_empty (l : Launch) (D : Dc) (G : Gg) (S : Sg) (z : Nat) (hG : GrG G) (hP : GrP G S) (h : Nat) (hh : PassR h) : MV l yX5_empty wsX5_empty rmX5_empty D G S z [.ref (gA G h)] (fun S' => ∃ r0 r3 r4 r5 r6, S' = ri (ri (ri (ri (ri S h r0) (h + 3) r3) (h + 4) r4) (h + 5) r5) (h + 6) r6 ∧ RPs S' h (fun _ => 0) ∧ RPp S' h (fun _ => 0)) := by
  refine Met.ofW (cc := cX5_empty) (maxL := 1) (ret := none) (by decide +kernel) rfl ?_
  intro pP eE s mM args bl mT cD s₁ bD hml hv
  obtain ⟨rfl, hv⟩ := hv
  have hz := hv.1
  subst hz
  have hx := bD.exec
  have hb := bD.bytes
  have hr := bD.returns
  have hts := atoms_spec (ws := wsX5_empty) bD.pre
  have hown : s.vm.findClass RX5 = some mM.cls := findClass_of_methodNamed bD.named
  have hlocks := bD.notSynchronized
  have hW := Wd.start hv
  have hA : ∀ q, s.heap.size ≤ q → AW G s.heap.size q := fun q h => Or.inr h
  have hl := lv_entry ([.ref (gA G h)]) (n := 1) (Nat.le_of_ble_eq_true rfl)
  rw [lg_entry_eq]
  generalize (lg_sl ([.ref (gA G h)]) ++ List.replicate (1 - (lg_sl ([.ref (gA G h)])).length) Slot.unset).toArray = ls at hl ⊢
  have hl : lv_has ls 1 [(0, .ref (gA G h))] := hl
  have q0 := hts (.fieldLink RX5 36 "WoodForTwo$Pass" "stands" "Z") (List.mem_of_getElem? (i := 1) rfl)
  have q1 := hts (.fieldLink RX5 40 "WoodForTwo$Pass" "wood" "I") (List.mem_of_getElem? (i := 2) rfl)
  have q2 := hts (.fieldLink RX5 44 "WoodForTwo$Pass" "burn" "I") (List.mem_of_getElem? (i := 3) rfl)
  have q3 := hts (.fieldLink RX5 47 "WoodForTwo$Pass" "law" "I") (List.mem_of_getElem? (i := 4) rfl)
  have q4 := hts (.fieldLink RX5 50 "WoodForTwo$Pass" "times" "I") (List.mem_of_getElem? (i := 5) rfl)
  have q5 := hts (.fieldLink RX5 53 "WoodForTwo$Pass" "chances" "I") (List.mem_of_getElem? (i := 6) rfl)
  have q6 := hts (.fieldLink RX5 56 "WoodForTwo$Pass" "parties" "I") (List.mem_of_getElem? (i := 7) rfl)
  have q7 := hts (.fieldLink RX5 59 "WoodForTwo$Pass" "nightsGone" "I") (List.mem_of_getElem? (i := 8) rfl)
  have q8 := hts (.fieldLink RX5 62 "WoodForTwo$Pass" "frozeInAll" "I") (List.mem_of_getElem? (i := 9) rfl)
  have q9 := hts (.fieldLink RX5 18 "WoodForTwo$Pass" "slept" "[I") (List.mem_of_getElem? (i := 10) rfl)
  have q10 := hts (.fieldLink RX5 21 "WoodForTwo$Pass" "froze" "[I") (List.mem_of_getElem? (i := 11) rfl)
  have q11 := hts (.fieldLink RX5 24 "WoodForTwo$Pass" "left" "[I") (List.mem_of_getElem? (i := 12) rfl)
  have q12 := hts (.fieldLink RX5 27 "WoodForTwo$Pass" "lacked" "[I") (List.mem_of_getElem? (i := 13) rfl)
  have iX5 : ∀ w ∈ wsX50, w ∈ wsX5_empty := fun _ h => List.mem_cons_of_mem _ (List.mem_append_right _ (h))
  refine lv_aload_n hx hb dX5_empty_0 rfl (lv_at hl 0 rfl) ?_
  refine lv_iconst (v := 0) hx hb dX5_empty_1 (by decide) ?_
  refine r_puti (ci := 4) (C := RX5) (T := TX5) (N := 16) hx hb hts iX5 tyX5 tyX5_ok nmX5 hown hW rfl h 0 rfl (p_lt hG hh (i := 0) (by decide)) (p_kd hG hh) (by decide) q0 (fun _ h9 => h9) rfl (tyX5_ok 0 (by decide)) rfl rfl (ri S h (va_up (gi S h) 0 0)) (gi S h) (va_up (gi S h) 0 0) rfl (e_is _ _ _) rfl rfl rfl (Nat.le_of_ble_eq_true rfl) rfl c_i0 dX5_empty_2 (fun H locs hW => ?_)
  refine lv_aload_n hx hb dX5_empty_5 rfl (lv_at hl 0 rfl) ?_
  refine lv_iconst (v := 0) hx hb dX5_empty_6 (by decide) ?_
  refine r_puti (ci := 4) (C := RX5) (T := TX5) (N := 16) hx hb hts iX5 tyX5 tyX5_ok nmX5 hown hW rfl h 1 rfl (p_lt hG hh (i := 0) (by decide)) (p_kd hG hh) (by decide) q1 (fun _ h9 => h9) rfl (tyX5_ok 1 (by decide)) rfl rfl (ri S h (va_up (va_up (gi S h) 0 0) 1 0)) (va_up (gi S h) 0 0) (va_up (va_up (gi S h) 0 0) 1 0) (e_is _ _ _) (e_is _ _ _) rfl rfl rfl (Nat.le_of_ble_eq_true rfl) rfl c_i dX5_empty_7 (fun H locs hW => ?_)
  refine lv_aload_n hx hb dX5_empty_10 rfl (lv_at hl 0 rfl) ?_
  refine lv_iconst (v := 0) hx hb dX5_empty_11 (by decide) ?_
  refine r_puti (ci := 4) (C := RX5) (T := TX5) (N := 16) hx hb hts iX5 tyX5 tyX5_ok nmX5 hown hW rfl h 2 rfl (p_lt hG hh (i := 0) (by decide)) (p_kd hG hh) (by decide) q2 (fun _ h9 => h9) rfl (tyX5_ok 2 (by decide)) rfl rfl (ri S h (va_up (va_up (va_up (gi S h) 0 0) 1 0) 2 0)) (va_up (va_up (gi S h) 0 0) 1 0) (va_up (va_up (va_up (gi S h) 0 0) 1 0) 2 0) (e_is _ _ _) (e_is _ _ _) rfl rfl rfl (Nat.le_of_ble_eq_true rfl) rfl c_i dX5_empty_12 (fun H locs hW => ?_)
  refine lv_aload_n hx hb dX5_empty_15 rfl (lv_at hl 0 rfl) ?_
  refine lv_iconst (v := 0) hx hb dX5_empty_16 (by decide) ?_
  refine r_puti (ci := 4) (C := RX5) (T := TX5) (N := 16) hx hb hts iX5 tyX5 tyX5_ok nmX5 hown hW rfl h 3 rfl (p_lt hG hh (i := 0) (by decide)) (p_kd hG hh) (by decide) q3 (fun _ h9 => h9) rfl (tyX5_ok 3 (by decide)) rfl rfl (ri S h (va_up (va_up (va_up (va_up (gi S h) 0 0) 1 0) 2 0) 3 0)) (va_up (va_up (va_up (gi S h) 0 0) 1 0) 2 0) (va_up (va_up (va_up (va_up (gi S h) 0 0) 1 0) 2 0) 3 0) (e_is _ _ _) (e_is _ _ _) rfl rfl rfl (Nat.le_of_ble_eq_true rfl) rfl c_i dX5_empty_17 (fun H locs hW => ?_)
  refine lv_aload_n hx hb dX5_empty_20 rfl (lv_at hl 0 rfl) ?_
  refine lv_iconst (v := 0) hx hb dX5_empty_21 (by decide) ?_
  refine r_puti (ci := 4) (C := RX5) (T := TX5) (N := 16) hx hb hts iX5 tyX5 tyX5_ok nmX5 hown hW rfl h 4 rfl (p_lt hG hh (i := 0) (by decide)) (p_kd hG hh) (by decide) q4 (fun _ h9 => h9) rfl (tyX5_ok 4 (by decide)) rfl rfl (ri S h (va_up (va_up (va_up (va_up (va_up (gi S h) 0 0) 1 0) 2 0) 3 0) 4 0)) (va_up (va_up (va_up (va_up (gi S h) 0 0) 1 0) 2 0) 3 0) (va_up (va_up (va_up (va_up (va_up (gi S h) 0 0) 1 0) 2 0) 3 0) 4 0) (e_is _ _ _) (e_is _ _ _) rfl rfl rfl (Nat.le_of_ble_eq_true rfl) rfl c_i dX5_empty_22 (fun H locs hW => ?_)
  refine lv_aload_n hx hb dX5_empty_25 rfl (lv_at hl 0 rfl) ?_
  refine lv_iconst (v := 0) hx hb dX5_empty_26 (by decide) ?_
  refine r_puti (ci := 4) (C := RX5) (T := TX5) (N := 16) hx hb hts iX5 tyX5 tyX5_ok nmX5 hown hW rfl h 5 rfl (p_lt hG hh (i := 0) (by decide)) (p_kd hG hh) (by decide) q5 (fun _ h9 => h9) rfl (tyX5_ok 5 (by decide)) rfl rfl (ri S h (va_up (va_up (va_up (va_up (va_up (va_up (gi S h) 0 0) 1 0) 2 0) 3 0) 4 0) 5 0)) (va_up (va_up (va_up (va_up (va_up (gi S h) 0 0) 1 0) 2 0) 3 0) 4 0) (va_up (va_up (va_up (va_up (va_up (va_up (gi S h) 0 0) 1 0) 2 0) 3 0) 4 0) 5 0) (e_is _ _ _) (e_is _ _ _) rfl rfl rfl (Nat.le_of_ble_eq_true rfl) rfl c_i dX5_empty_27 (fun H locs hW => ?_)
  refine lv_aload_n hx hb dX5_empty_30 rfl (lv_at hl 0 rfl) ?_
  refine lv_iconst (v := 0) hx hb dX5_empty_31 (by decide) ?_
  refine r_puti (ci := 4) (C := RX5) (T := TX5) (N := 16) hx hb hts iX5 tyX5 tyX5_ok nmX5 hown hW rfl h 6 rfl (p_lt hG hh (i := 0) (by decide)) (p_kd hG hh) (by decide) q6 (fun _ h9 => h9) rfl (tyX5_ok 6 (by decide)) rfl rfl (ri S h (va_up (va_up (va_up (va_up (va_up (va_up (va_up (gi S h) 0 0) 1 0) 2 0) 3 0) 4 0) 5 0) 6 0)) (va_up (va_up (va_up (va_up (va_up (va_up (gi S h) 0 0) 1 0) 2 0) 3 0) 4 0) 5 0) (va_up (va_up (va_up (va_up (va_up (va_up (va_up (gi S h) 0 0) 1 0) 2 0) 3 0) 4 0) 5 0) 6 0) (e_is _ _ _) (e_is _ _ _) rfl rfl rfl (Nat.le_of_ble_eq_true rfl) rfl c_i dX5_empty_32 (fun H locs hW => ?_)
  refine lv_aload_n hx hb dX5_empty_35 rfl (lv_at hl 0 rfl) ?_
  refine lv_iconst (v := 0) hx hb dX5_empty_36 (by decide) ?_
  refine r_puti (ci := 4) (C := RX5) (T := TX5) (N := 16) hx hb hts iX5 tyX5 tyX5_ok nmX5 hown hW rfl h 7 rfl (p_lt hG hh (i := 0) (by decide)) (p_kd hG hh) (by decide) q7 (fun _ h9 => h9) rfl (tyX5_ok 7 (by decide)) rfl rfl (ri S h (va_up (va_up (va_up (va_up (va_up (va_up (va_up (va_up (gi S h) 0 0) 1 0) 2 0) 3 0) 4 0) 5 0) 6 0) 7 0)) (va_up (va_up (va_up (va_up (va_up (va_up (va_up (gi S h) 0 0) 1 0) 2 0) 3 0) 4 0) 5 0) 6 0) (va_up (va_up (va_up (va_up (va_up (va_up (va_up (va_up (gi S h) 0 0) 1 0) 2 0) 3 0) 4 0) 5 0) 6 0) 7 0) (e_is _ _ _) (e_is _ _ _) rfl rfl rfl (Nat.le_of_ble_eq_true rfl) rfl c_i dX5_empty_37 (fun H locs hW => ?_)
  refine lv_aload_n hx hb dX5_empty_40 rfl (lv_at hl 0 rfl) ?_
  refine lv_iconst (v := 0) hx hb dX5_empty_41 (by decide) ?_
  refine r_puti (ci := 4) (C := RX5) (T := TX5) (N := 16) hx hb hts iX5 tyX5 tyX5_ok nmX5 hown hW rfl h 8 rfl (p_lt hG hh (i := 0) (by decide)) (p_kd hG hh) (by decide) q8 (fun _ h9 => h9) rfl (tyX5_ok 8 (by decide)) rfl rfl (ri S h (va_up (va_up (va_up (va_up (va_up (va_up (va_up (va_up (va_up (gi S h) 0 0) 1 0) 2 0) 3 0) 4 0) 5 0) 6 0) 7 0) 8 0)) (va_up (va_up (va_up (va_up (va_up (va_up (va_up (va_up (gi S h) 0 0) 1 0) 2 0) 3 0) 4 0) 5 0) 6 0) 7 0) (va_up (va_up (va_up (va_up (va_up (va_up (va_up (va_up (va_up (gi S h) 0 0) 1 0) 2 0) 3 0) 4 0) 5 0) 6 0) 7 0) 8 0) (e_is _ _ _) (e_is _ _ _) rfl rfl rfl (Nat.le_of_ble_eq_true rfl) rfl c_i dX5_empty_42 (fun H locs hW => ?_)
  refine lv_aload_n hx hb dX5_empty_45 rfl (lv_at hl 0 rfl) ?_
  refine r_getr (ci := 4) (C := RX5) (T := TX5) (N := 16) hx hb hts iX5 hown hW rfl h 11 rfl (p_lt hG hh (i := 0) (by decide)) (p_kd hG hh) (by decide) q9 (fun _ h9 => h9) (p_lk hP hh 2 (by decide)) rfl rfl dX5_empty_46 ?_
  refine lv_iconst (v := 0) hx hb dX5_empty_49 (by decide) ?_
  refine r_callv hW hA (va_runS (As := [.ref (gA G (h + 3)), .int 0]) (rest := []) ⟨hx, hb, hml, hown, hts⟩ (t_J7_fill_53178 l D G (ri S h (va_up (va_up (va_up (va_up (va_up (va_up (va_up (va_up (va_up (gi S h) 0 0) 1 0) 2 0) 3 0) 4 0) 5 0) 6 0) 7 0) 8 0)) _ (h + 3) 16 (p_lt hG hh (i := 3) (by decide)) (p_kdA hG hh 3 (by decide) (by decide)) (p_z16 hG hh 3 (by decide) (by decide)) (by decide) 0) (va_cwS 2 hts gX5_empty_J7_fill_53178 rfl rfl rfl (by decide +kernel) ⟨Nat.le_of_ble_eq_true rfl, Nat.le_of_ble_eq_true rfl⟩) (r_preS hA hW) rfl rfl hl.1 rfl (lv_room (Nat.le_of_ble_eq_true rfl)) dX5_empty_50 ⟨Nat.zero_le _, Nat.zero_le _⟩) (fun S50 H locs hp50 hW => ?_)
  rw [hp50, show gi (ri S h (va_up (va_up (va_up (va_up (va_up (va_up (va_up (va_up (va_up (gi S h) 0 0) 1 0) 2 0) 3 0) 4 0) 5 0) 6 0) 7 0) 8 0)) (h + 3) = (gi S (h + 3)) from (e_in (by omega) rfl)] at hW
  refine lv_aload_n hx hb dX5_empty_53 rfl (lv_at hl 0 rfl) ?_
  refine r_getr (ci := 4) (C := RX5) (T := TX5) (N := 16) hx hb hts iX5 hown hW rfl h 12 rfl (p_lt hG hh (i := 0) (by decide)) (p_kd hG hh) (by decide) q10 (fun _ h9 => h9) (p_lk hP hh 3 (by decide)) rfl rfl dX5_empty_54 ?_
  refine lv_iconst (v := 0) hx hb dX5_empty_57 (by decide) ?_
  refine r_callv hW hA (va_runS (As := [.ref (gA G (h + 4)), .int 0]) (rest := []) ⟨hx, hb, hml, hown, hts⟩ (t_J7_fill_53178 l D G (ri (ri S h (va_up (va_up (va_up (va_up (va_up (va_up (va_up (va_up (va_up (gi S h) 0 0) 1 0) 2 0) 3 0) 4 0) 5 0) 6 0) 7 0) 8 0)) (h + 3) (flR (gi S (h + 3)) 16 0)) _ (h + 4) 16 (p_lt hG hh (i := 4) (by decide)) (p_kdA hG hh 4 (by decide) (by decide)) (p_z16 hG hh 4 (by decide) (by decide)) (by decide) 0) (va_cwS 2 hts gX5_empty_J7_fill_53178 rfl rfl rfl (by decide +kernel) ⟨Nat.le_of_ble_eq_true rfl, Nat.le_of_ble_eq_true rfl⟩) (r_preS hA hW) rfl rfl hl.1 rfl (lv_room (Nat.le_of_ble_eq_true rfl)) dX5_empty_58 ⟨Nat.zero_le _, Nat.zero_le _⟩) (fun S58 H locs hp58 hW => ?_)
  rw [hp58, show gi (ri (ri S h (va_up (va_up (va_up (va_up (va_up (va_up (va_up (va_up (va_up (gi S h) 0 0) 1 0) 2 0) 3 0) 4 0) 5 0) 6 0) 7 0) 8 0)) (h + 3) (flR (gi S (h + 3)) 16 0)) (h + 4) = (gi S (h + 4)) from (e_in (by omega) (e_in (by omega) rfl))] at hW
  refine lv_aload_n hx hb dX5_empty_61 rfl (lv_at hl 0 rfl) ?_
  refine r_getr (ci := 4) (C := RX5) (T := TX5) (N := 16) hx hb hts iX5 hown hW rfl h 13 rfl (p_lt hG hh (i := 0) (by decide)) (p_kd hG hh) (by decide) q11 (fun _ h9 => h9) (p_lk hP hh 4 (by decide)) rfl rfl dX5_empty_62 ?_
  refine lv_iconst (v := 0) hx hb dX5_empty_65 (by decide) ?_
  refine r_callv hW hA (va_runS (As := [.ref (gA G (h + 5)), .int 0]) (rest := []) ⟨hx, hb, hml, hown, hts⟩ (t_J7_fill_53178 l D G (ri (ri (ri S h (va_up (va_up (va_up (va_up (va_up (va_up (va_up (va_up (va_up (gi S h) 0 0) 1 0) 2 0) 3 0) 4 0) 5 0) 6 0) 7 0) 8 0)) (h + 3) (flR (gi S (h + 3)) 16 0)) (h + 4) (flR (gi S (h + 4)) 16 0)) _ (h + 5) 16 (p_lt hG hh (i := 5) (by decide)) (p_kdA hG hh 5 (by decide) (by decide)) (p_z16 hG hh 5 (by decide) (by decide)) (by decide) 0) (va_cwS 2 hts gX5_empty_J7_fill_53178 rfl rfl rfl (by decide +kernel) ⟨Nat.le_of_ble_eq_true rfl, Nat.le_of_ble_eq_true rfl⟩) (r_preS hA hW) rfl rfl hl.1 rfl (lv_room (Nat.le_of_ble_eq_true rfl)) dX5_empty_66 ⟨Nat.zero_le _, Nat.zero_le _⟩) (fun S66 H locs hp66 hW => ?_)
  rw [hp66, show gi (ri (ri (ri S h (va_up (va_up (va_up (va_up (va_up (va_up (va_up (va_up (va_up (gi S h) 0 0) 1 0) 2 0) 3 0) 4 0) 5 0) 6 0) 7 0) 8 0)) (h + 3) (flR (gi S (h + 3)) 16 0)) (h + 4) (flR (gi S (h + 4)) 16 0)) (h + 5) = (gi S (h + 5)) from (e_in (by omega) (e_in (by omega) (e_in (by omega) rfl)))] at hW
  refine lv_aload_n hx hb dX5_empty_69 rfl (lv_at hl 0 rfl) ?_
  refine r_getr (ci := 4) (C := RX5) (T := TX5) (N := 16) hx hb hts iX5 hown hW rfl h 14 rfl (p_lt hG hh (i := 0) (by decide)) (p_kd hG hh) (by decide) q12 (fun _ h9 => h9) (p_lk hP hh 5 (by decide)) rfl rfl dX5_empty_70 ?_
  refine lv_iconst (v := 0) hx hb dX5_empty_73 (by decide) ?_
  refine r_callv hW hA (va_runS (As := [.ref (gA G (h + 6)), .int 0]) (rest := []) ⟨hx, hb, hml, hown, hts⟩ (t_J7_fill_53178 l D G (ri (ri (ri (ri S h (va_up (va_up (va_up (va_up (va_up (va_up (va_up (va_up (va_up (gi S h) 0 0) 1 0) 2 0) 3 0) 4 0) 5 0) 6 0) 7 0) 8 0)) (h + 3) (flR (gi S (h + 3)) 16 0)) (h + 4) (flR (gi S (h + 4)) 16 0)) (h + 5) (flR (gi S (h + 5)) 16 0)) _ (h + 6) 16 (p_lt hG hh (i := 6) (by decide)) (p_kdA hG hh 6 (by decide) (by decide)) (p_z16 hG hh 6 (by decide) (by decide)) (by decide) 0) (va_cwS 2 hts gX5_empty_J7_fill_53178 rfl rfl rfl (by decide +kernel) ⟨Nat.le_of_ble_eq_true rfl, Nat.le_of_ble_eq_true rfl⟩) (r_preS hA hW) rfl rfl hl.1 rfl (lv_room (Nat.le_of_ble_eq_true rfl)) dX5_empty_74 ⟨Nat.zero_le _, Nat.zero_le _⟩) (fun S74 H locs hp74 hW => ?_)
  rw [hp74, show gi (ri (ri (ri (ri S h (va_up (va_up (va_up (va_up (va_up (va_up (va_up (va_up (va_up (gi S h) 0 0) 1 0) 2 0) 3 0) 4 0) 5 0) 6 0) 7 0) 8 0)) (h + 3) (flR (gi S (h + 3)) 16 0)) (h + 4) (flR (gi S (h + 4)) 16 0)) (h + 5) (flR (gi S (h + 5)) 16 0)) (h + 6) = (gi S (h + 6)) from (e_in (by omega) (e_in (by omega) (e_in (by omega) (e_in (by omega) rfl))))] at hW
  refine r_vret hx hb hr hlocks hW ?_ dX5_empty_77
  refine ⟨_, _, _, _, _, rfl, ⟨(congrFun (e_in (by omega) (e_in (by omega) (e_in (by omega) (e_in (by omega) (e_is _ _ _))))) 0).trans rfl, (congrFun (e_in (by omega) (e_in (by omega) (e_in (by omega) (e_in (by omega) (e_is _ _ _))))) 1).trans rfl, (congrFun (e_in (by omega) (e_in (by omega) (e_in (by omega) (e_in (by omega) (e_is _ _ _))))) 2).trans rfl, (congrFun (e_in (by omega) (e_in (by omega) (e_in (by omega) (e_in (by omega) (e_is _ _ _))))) 3).trans rfl, (congrFun (e_in (by omega) (e_in (by omega) (e_in (by omega) (e_in (by omega) (e_is _ _ _))))) 4).trans rfl, (congrFun (e_in (by omega) (e_in (by omega) (e_in (by omega) (e_in (by omega) (e_is _ _ _))))) 5).trans rfl, (congrFun (e_in (by omega) (e_in (by omega) (e_in (by omega) (e_in (by omega) (e_is _ _ _))))) 6).trans rfl, (congrFun (e_in (by omega) (e_in (by omega) (e_in (by omega) (e_in (by omega) (e_is _ _ _))))) 7).trans rfl, (congrFun (e_in (by omega) (e_in (by omega) (e_in (by omega) (e_in (by omega) (e_is _ _ _))))) 8).trans rfl⟩, fun i hi => ⟨by rw [(e_in (by omega) (e_in (by omega) (e_in (by omega) (e_is _ _ _))))]; unfold flR; rw [if_pos hi]; rfl, by rw [(e_in (by omega) (e_in (by omega) (e_is _ _ _)))]; unfold flR; rw [if_pos hi]; rfl, by rw [(e_in (by omega) (e_is _ _ _))]; unfold flR; rw [if_pos hi]; rfl, by rw [(e_is _ _ _)]; unfold flR; rw [if_pos hi]; rfl⟩⟩

def rmX5_addParty : Jvm.Room := { frames := 0, cells := 0, slots := 0, locals := 0 }
set_option maxHeartbeats 4000000 in
set_option maxRecDepth 100000 in
theorem t_X5_addParty (l : Launch) (D : Dc) (G : Gg) (S : Sg) (z : Nat) (hG : GrG G) (hP : GrP G S) (h : Nat) (hh : PassR h) (n : Nat) (hn : n < 16) (h6 : gi S h 6 = nI n) (q : Nat) (hq7 : 75 ≤ q) (hq : q < gN G) : MV l yX5_addParty wsX5_addParty rmX5_addParty D G S z [.ref (gA G h), .ref (gA G q)] (fun S' => S' = ri (rp S (h + 7) (va_up (gp S (h + 7)) n (some (gA G q)))) h (va_up (gi S h) 6 (nI (n + 1)))) := by
  refine Met.ofW (cc := cX5_addParty) (maxL := 2) (ret := none) (by decide +kernel) rfl ?_
  intro pP eE s mM args bl mT cD s₁ bD hml hv
  obtain ⟨rfl, hv⟩ := hv
  have hz := hv.1
  subst hz
  have hx := bD.exec
  have hb := bD.bytes
  have hr := bD.returns
  have hts := atoms_spec (ws := wsX5_addParty) bD.pre
  have hown : s.vm.findClass RX5 = some mM.cls := findClass_of_methodNamed bD.named
  have hlocks := bD.notSynchronized
  have hW := Wd.start hv
  have hA : ∀ q, s.heap.size ≤ q → AW G s.heap.size q := fun q h => Or.inr h
  have hl := lv_entry ([.ref (gA G h), .ref (gA G q)]) (n := 2) (Nat.le_of_ble_eq_true rfl)
  rw [lg_entry_eq]
  generalize (lg_sl ([.ref (gA G h), .ref (gA G q)]) ++ List.replicate (2 - (lg_sl ([.ref (gA G h), .ref (gA G q)])).length) Slot.unset).toArray = ls at hl ⊢
  have hl : lv_has ls 2 [(0, .ref (gA G h)), (1, .ref (gA G q))] := hl
  have q0 := hts (.fieldLink RX5 56 "WoodForTwo$Pass" "parties" "I") (List.mem_of_getElem? (i := 1) rfl)
  have q1 := hts (.fieldLink RX5 32 "WoodForTwo$Pass" "told" "[LWoodForTwo$Party;") (List.mem_of_getElem? (i := 2) rfl)
  have iX5 : ∀ w ∈ wsX50, w ∈ wsX5_addParty := fun _ h => List.mem_cons_of_mem _ (List.mem_append_right _ (h))
  refine lv_aload_n hx hb dX5_addParty_0 rfl (lv_at hl 0 rfl) ?_
  refine r_geti (ci := 4) (C := RX5) (T := TX5) (N := 16) hx hb hts iX5 hown hW rfl h 6 rfl (p_lt hG hh (i := 0) (by decide)) (p_kd hG hh) (by decide) q0 (fun _ h9 => h9) (nI n) h6 rfl rfl dX5_addParty_1 ?_
  refine lv_bipush (v := 16) hx hb dX5_addParty_4 (by decide) ?_
  refine lv_icmp_ge (tgt := 29) hx hb dX5_addParty_6 (by decide) (fun c6 => ?_) (fun c6 => ?_)
  · exact absurd c6 (fun z : (16 : Int32) ≤ nI n => absurd ((n_le (a := 16) (b := n) (by omega) (by omega)).mp z) (by omega))
  · skip
    refine lv_aload_n hx hb dX5_addParty_9 rfl (lv_at hl 0 rfl) ?_
    refine r_getr (ci := 4) (C := RX5) (T := TX5) (N := 16) hx hb hts iX5 hown hW rfl h 15 rfl (p_lt hG hh (i := 0) (by decide)) (p_kd hG hh) (by decide) q1 (fun _ h9 => h9) (p_lk hP hh 6 (by decide)) rfl rfl dX5_addParty_10 ?_
    refine lv_aload_n hx hb dX5_addParty_13 rfl (lv_at hl 0 rfl) ?_
    refine r_geti (ci := 4) (C := RX5) (T := TX5) (N := 16) hx hb hts iX5 hown hW rfl h 6 rfl (p_lt hG hh (i := 0) (by decide)) (p_kd hG hh) (by decide) q0 (fun _ h9 => h9) (nI n) h6 rfl rfl dX5_addParty_14 ?_
    refine lv_aload_n hx hb dX5_addParty_17 rfl (lv_at hl 1 rfl) ?_
    refine r_aast hx hb hW (h + 7) rfl (p_lt hG hh (i := 7) (by decide)) (p_kdT hG hh) (x := (some (gA G q))) (fun v hv9 => by cases hv9; exact r_anyP hG.2.2.2 hW hq7 hq) (by rw [p_z16 hG hh 7 (by decide) (by decide)]; exact n_inI hn (by omega)) (rp S (h + 7) (va_up (gp S (h + 7)) ((nI n)).toNatClampNeg (some (gA G q)))) (gp S (h + 7)) rfl (e_ps _ _ _) rfl rfl c_p0 dX5_addParty_18 (fun H locs hW => ?_)
    refine lv_aload_n hx hb dX5_addParty_19 rfl (lv_at hl 0 rfl) ?_
    refine lv_dup hx hb dX5_addParty_20 rfl ?_
    refine r_geti (ci := 4) (C := RX5) (T := TX5) (N := 16) hx hb hts iX5 hown hW rfl h 6 rfl (p_lt hG hh (i := 0) (by decide)) (p_kd hG hh) (by decide) q0 (fun _ h9 => h9) (nI n) h6 rfl rfl dX5_addParty_21 ?_
    refine lv_iconst (v := 1) hx hb dX5_addParty_24 (by decide) ?_
    refine lv_iadd hx hb dX5_addParty_25 ?_
    refine r_puti (ci := 4) (C := RX5) (T := TX5) (N := 16) hx hb hts iX5 tyX5 tyX5_ok nmX5 hown hW rfl h 6 rfl (p_lt hG hh (i := 0) (by decide)) (p_kd hG hh) (by decide) q0 (fun _ h9 => h9) rfl (tyX5_ok 6 (by decide)) rfl rfl (ri (rp S (h + 7) (va_up (gp S (h + 7)) ((nI n)).toNatClampNeg (some (gA G q)))) h (va_up (gi S h) 6 ((nI n) + 1))) (gi S h) (va_up (gi S h) 6 ((nI n) + 1)) rfl (e_is _ _ _) rfl rfl rfl (Nat.le_of_ble_eq_true rfl) rfl c_i0 dX5_addParty_26 (fun H locs hW => ?_)
    refine r_vret hx hb hr hlocks hW ?_ dX5_addParty_29
    rw [n_clamp (by omega), n_1, n_add]

def rmX5_becomeLike : Jvm.Room := { frames := 1, cells := 0, slots := 0, locals := 40 }
set_option maxHeartbeats 4000000 in
set_option maxRecDepth 100000 in
theorem t_X5_becomeLike (l : Launch) (D : Dc) (G : Gg) (S : Sg) (z : Nat) (hG : GrG G) (hP : GrP G S) (h g : Nat) (hh : PassR h) (hg : PassR g) (hne : h ≠ g) (B : Nat → Nat) (c : Nat) (hB : BP1 B c) (hR : RP G S g B) : MV l yX5_becomeLike wsX5_becomeLike rmX5_becomeLike D G S z [.ref (gA G h), .ref (gA G g)] (fun S' => ∃ r0 r1 r2 r3 r4 r5 r6 t, S' = rp (ri (ri (ri (ri (ri (ri (ri S h r0) (h + 1) r1) (h + 2) r2) (h + 3) r3) (h + 4) r4) (h + 5) r5) (h + 6) r6) (h + 7) t ∧ RP G S' h B) := by
  refine Met.ofW (cc := cX5_becomeLike) (maxL := 3) (ret := none) (by decide +kernel) rfl ?_
  intro pP eE s mM args bl mT cD s₁ bD hml hv
  obtain ⟨rfl, hv⟩ := hv
  have hz := hv.1
  subst hz
  have hx := bD.exec
  have hb := bD.bytes
  have hr := bD.returns
  have hts := atoms_spec (ws := wsX5_becomeLike) bD.pre
  have hown : s.vm.findClass RX5 = some mM.cls := findClass_of_methodNamed bD.named
  have hlocks := bD.notSynchronized
  have hW := Wd.start hv
  have hA : ∀ q, s.heap.size ≤ q → AW G s.heap.size q := fun q h => Or.inr h
  have hl := lv_entry ([.ref (gA G h), .ref (gA G g)]) (n := 3) (Nat.le_of_ble_eq_true rfl)
  rw [lg_entry_eq]
  generalize (lg_sl ([.ref (gA G h), .ref (gA G g)]) ++ List.replicate (3 - (lg_sl ([.ref (gA G h), .ref (gA G g)])).length) Slot.unset).toArray = ls at hl ⊢
  have hl : lv_has ls 3 [(0, .ref (gA G h)), (1, .ref (gA G g))] := hl
  have q0 := hts (.fieldLink RX5 36 "WoodForTwo$Pass" "stands" "Z") (List.mem_of_getElem? (i := 1) rfl)
  have q1 := hts (.fieldLink RX5 40 "WoodForTwo$Pass" "wood" "I") (List.mem_of_getElem? (i := 2) rfl)
  have q2 := hts (.fieldLink RX5 44 "WoodForTwo$Pass" "burn" "I") (List.mem_of_getElem? (i := 3) rfl)
  have q3 := hts (.fieldLink RX5 47 "WoodForTwo$Pass" "law" "I") (List.mem_of_getElem? (i := 4) rfl)
  have q4 := hts (.fieldLink RX5 50 "WoodForTwo$Pass" "times" "I") (List.mem_of_getElem? (i := 5) rfl)
  have q5 := hts (.fieldLink RX5 53 "WoodForTwo$Pass" "chances" "I") (List.mem_of_getElem? (i := 6) rfl)
  have q6 := hts (.fieldLink RX5 56 "WoodForTwo$Pass" "parties" "I") (List.mem_of_getElem? (i := 7) rfl)
  have q7 := hts (.fieldLink RX5 59 "WoodForTwo$Pass" "nightsGone" "I") (List.mem_of_getElem? (i := 8) rfl)
  have q8 := hts (.fieldLink RX5 62 "WoodForTwo$Pass" "frozeInAll" "I") (List.mem_of_getElem? (i := 9) rfl)
  have q9 := hts (.fieldLink RX5 9 "WoodForTwo$Pass" "chanceHeads" "[I") (List.mem_of_getElem? (i := 10) rfl)
  have q10 := hts (.methodLink RX5 71 arraycopyName) (List.mem_of_getElem? (i := 11) rfl)
  have q11 := hts (.native arraycopyName) (List.mem_of_getElem? (i := 12) rfl)
  have q12 := hts (.static arraycopyName) (List.mem_of_getElem? (i := 13) rfl)
  have q13 := hts (.initialized "java/lang/System") (List.mem_of_getElem? (i := 14) rfl)
  have q14 := hts (.fieldLink RX5 15 "WoodForTwo$Pass" "chanceOdds" "[I") (List.mem_of_getElem? (i := 15) rfl)
  have q15 := hts (.fieldLink RX5 18 "WoodForTwo$Pass" "slept" "[I") (List.mem_of_getElem? (i := 16) rfl)
  have q16 := hts (.fieldLink RX5 21 "WoodForTwo$Pass" "froze" "[I") (List.mem_of_getElem? (i := 17) rfl)
  have q17 := hts (.fieldLink RX5 24 "WoodForTwo$Pass" "left" "[I") (List.mem_of_getElem? (i := 18) rfl)
  have q18 := hts (.fieldLink RX5 27 "WoodForTwo$Pass" "lacked" "[I") (List.mem_of_getElem? (i := 19) rfl)
  have q19 := hts (.fieldLink RX5 32 "WoodForTwo$Pass" "told" "[LWoodForTwo$Party;") (List.mem_of_getElem? (i := 20) rfl)
  have iX5 : ∀ w ∈ wsX50, w ∈ wsX5_becomeLike := fun _ h => List.mem_cons_of_mem _ (List.mem_append_right _ (h))
  generalize hQ0 : MQ bl _ _ s _ _ _ = Q0
  obtain ⟨b0, b1, b2, b3, b4, b5, b6, b7, b8, b9, b10, b11, b12⟩ := id hB
  refine lv_aload_n hx hb dX5_becomeLike_0 rfl (lv_at hl 0 rfl) ?_
  refine lv_aload_n hx hb dX5_becomeLike_1 rfl (lv_at hl 1 rfl) ?_
  refine r_geti (ci := 4) (C := RX5) (T := TX5) (N := 16) hx hb hts iX5 hown hW rfl g 0 rfl (p_lt hG hg (i := 0) (by decide)) (p_kd hG hg) (by decide) q0 (fun _ h9 => h9) (nI (B 132)) hR.1.1 rfl rfl dX5_becomeLike_2 ?_
  refine r_puti (ci := 4) (C := RX5) (T := TX5) (N := 16) hx hb hts iX5 tyX5 tyX5_ok nmX5 hown hW rfl h 0 rfl (p_lt hG hh (i := 0) (by decide)) (p_kd hG hh) (by decide) q0 (fun _ h9 => h9) rfl (tyX5_ok 0 (by decide)) (by rw [b0]; rfl) (by rw [b0]; rfl) (ri S h (va_up (gi S h) 0 (nI (B 132)))) (gi S h) (va_up (gi S h) 0 (nI (B 132))) rfl (e_is _ _ _) rfl rfl rfl (Nat.le_of_ble_eq_true rfl) rfl c_i0 dX5_becomeLike_5 (fun H locs hW => ?_)
  refine lv_aload_n hx hb dX5_becomeLike_8 rfl (lv_at hl 0 rfl) ?_
  refine lv_aload_n hx hb dX5_becomeLike_9 rfl (lv_at hl 1 rfl) ?_
  refine r_geti (ci := 4) (C := RX5) (T := TX5) (N := 16) hx hb hts iX5 hown hW rfl g 1 rfl (p_lt hG hg (i := 0) (by decide)) (p_kd hG hg) (by decide) q1 (fun _ h9 => h9) (nI (B 0)) ((congrFun (e_in (by omega) rfl) 1).trans hR.1.2.1) rfl rfl dX5_becomeLike_10 ?_
  refine r_puti (ci := 4) (C := RX5) (T := TX5) (N := 16) hx hb hts iX5 tyX5 tyX5_ok nmX5 hown hW rfl h 1 rfl (p_lt hG hh (i := 0) (by decide)) (p_kd hG hh) (by decide) q1 (fun _ h9 => h9) rfl (tyX5_ok 1 (by decide)) rfl rfl (ri S h (va_up (va_up (gi S h) 0 (nI (B 132))) 1 (nI (B 0)))) (va_up (gi S h) 0 (nI (B 132))) (va_up (va_up (gi S h) 0 (nI (B 132))) 1 (nI (B 0))) (e_is _ _ _) (e_is _ _ _) rfl rfl rfl (Nat.le_of_ble_eq_true rfl) rfl c_i dX5_becomeLike_13 (fun H locs hW => ?_)
  refine lv_aload_n hx hb dX5_becomeLike_16 rfl (lv_at hl 0 rfl) ?_
  refine lv_aload_n hx hb dX5_becomeLike_17 rfl (lv_at hl 1 rfl) ?_
  refine r_geti (ci := 4) (C := RX5) (T := TX5) (N := 16) hx hb hts iX5 hown hW rfl g 2 rfl (p_lt hG hg (i := 0) (by decide)) (p_kd hG hg) (by decide) q2 (fun _ h9 => h9) (nI (B 1)) ((congrFun (e_in (by omega) rfl) 2).trans hR.1.2.2.1) rfl rfl dX5_becomeLike_18 ?_
  refine r_puti (ci := 4) (C := RX5) (T := TX5) (N := 16) hx hb hts iX5 tyX5 tyX5_ok nmX5 hown hW rfl h 2 rfl (p_lt hG hh (i := 0) (by decide)) (p_kd hG hh) (by decide) q2 (fun _ h9 => h9) rfl (tyX5_ok 2 (by decide)) rfl rfl (ri S h (va_up (va_up (va_up (gi S h) 0 (nI (B 132))) 1 (nI (B 0))) 2 (nI (B 1)))) (va_up (va_up (gi S h) 0 (nI (B 132))) 1 (nI (B 0))) (va_up (va_up (va_up (gi S h) 0 (nI (B 132))) 1 (nI (B 0))) 2 (nI (B 1))) (e_is _ _ _) (e_is _ _ _) rfl rfl rfl (Nat.le_of_ble_eq_true rfl) rfl c_i dX5_becomeLike_21 (fun H locs hW => ?_)
  refine lv_aload_n hx hb dX5_becomeLike_24 rfl (lv_at hl 0 rfl) ?_
  refine lv_aload_n hx hb dX5_becomeLike_25 rfl (lv_at hl 1 rfl) ?_
  refine r_geti (ci := 4) (C := RX5) (T := TX5) (N := 16) hx hb hts iX5 hown hW rfl g 3 rfl (p_lt hG hg (i := 0) (by decide)) (p_kd hG hg) (by decide) q3 (fun _ h9 => h9) (nI (B 2)) ((congrFun (e_in (by omega) rfl) 3).trans hR.1.2.2.2.1) rfl rfl dX5_becomeLike_26 ?_
  refine r_puti (ci := 4) (C := RX5) (T := TX5) (N := 16) hx hb hts iX5 tyX5 tyX5_ok nmX5 hown hW rfl h 3 rfl (p_lt hG hh (i := 0) (by decide)) (p_kd hG hh) (by decide) q3 (fun _ h9 => h9) rfl (tyX5_ok 3 (by decide)) rfl rfl (ri S h (va_up (va_up (va_up (va_up (gi S h) 0 (nI (B 132))) 1 (nI (B 0))) 2 (nI (B 1))) 3 (nI (B 2)))) (va_up (va_up (va_up (gi S h) 0 (nI (B 132))) 1 (nI (B 0))) 2 (nI (B 1))) (va_up (va_up (va_up (va_up (gi S h) 0 (nI (B 132))) 1 (nI (B 0))) 2 (nI (B 1))) 3 (nI (B 2))) (e_is _ _ _) (e_is _ _ _) rfl rfl rfl (Nat.le_of_ble_eq_true rfl) rfl c_i dX5_becomeLike_29 (fun H locs hW => ?_)
  refine lv_aload_n hx hb dX5_becomeLike_32 rfl (lv_at hl 0 rfl) ?_
  refine lv_aload_n hx hb dX5_becomeLike_33 rfl (lv_at hl 1 rfl) ?_
  refine r_geti (ci := 4) (C := RX5) (T := TX5) (N := 16) hx hb hts iX5 hown hW rfl g 4 rfl (p_lt hG hg (i := 0) (by decide)) (p_kd hG hg) (by decide) q4 (fun _ h9 => h9) (nI (B 3)) ((congrFun (e_in (by omega) rfl) 4).trans hR.1.2.2.2.2.1) rfl rfl dX5_becomeLike_34 ?_
  refine r_puti (ci := 4) (C := RX5) (T := TX5) (N := 16) hx hb hts iX5 tyX5 tyX5_ok nmX5 hown hW rfl h 4 rfl (p_lt hG hh (i := 0) (by decide)) (p_kd hG hh) (by decide) q4 (fun _ h9 => h9) rfl (tyX5_ok 4 (by decide)) rfl rfl (ri S h (va_up (va_up (va_up (va_up (va_up (gi S h) 0 (nI (B 132))) 1 (nI (B 0))) 2 (nI (B 1))) 3 (nI (B 2))) 4 (nI (B 3)))) (va_up (va_up (va_up (va_up (gi S h) 0 (nI (B 132))) 1 (nI (B 0))) 2 (nI (B 1))) 3 (nI (B 2))) (va_up (va_up (va_up (va_up (va_up (gi S h) 0 (nI (B 132))) 1 (nI (B 0))) 2 (nI (B 1))) 3 (nI (B 2))) 4 (nI (B 3))) (e_is _ _ _) (e_is _ _ _) rfl rfl rfl (Nat.le_of_ble_eq_true rfl) rfl c_i dX5_becomeLike_37 (fun H locs hW => ?_)
  refine lv_aload_n hx hb dX5_becomeLike_40 rfl (lv_at hl 0 rfl) ?_
  refine lv_aload_n hx hb dX5_becomeLike_41 rfl (lv_at hl 1 rfl) ?_
  refine r_geti (ci := 4) (C := RX5) (T := TX5) (N := 16) hx hb hts iX5 hown hW rfl g 5 rfl (p_lt hG hg (i := 0) (by decide)) (p_kd hG hg) (by decide) q5 (fun _ h9 => h9) (nI (B 4)) ((congrFun (e_in (by omega) rfl) 5).trans hR.1.2.2.2.2.2.1) rfl rfl dX5_becomeLike_42 ?_
  refine r_puti (ci := 4) (C := RX5) (T := TX5) (N := 16) hx hb hts iX5 tyX5 tyX5_ok nmX5 hown hW rfl h 5 rfl (p_lt hG hh (i := 0) (by decide)) (p_kd hG hh) (by decide) q5 (fun _ h9 => h9) rfl (tyX5_ok 5 (by decide)) rfl rfl (ri S h (va_up (va_up (va_up (va_up (va_up (va_up (gi S h) 0 (nI (B 132))) 1 (nI (B 0))) 2 (nI (B 1))) 3 (nI (B 2))) 4 (nI (B 3))) 5 (nI (B 4)))) (va_up (va_up (va_up (va_up (va_up (gi S h) 0 (nI (B 132))) 1 (nI (B 0))) 2 (nI (B 1))) 3 (nI (B 2))) 4 (nI (B 3))) (va_up (va_up (va_up (va_up (va_up (va_up (gi S h) 0 (nI (B 132))) 1 (nI (B 0))) 2 (nI (B 1))) 3 (nI (B 2))) 4 (nI (B 3))) 5 (nI (B 4))) (e_is _ _ _) (e_is _ _ _) rfl rfl rfl (Nat.le_of_ble_eq_true rfl) rfl c_i dX5_becomeLike_45 (fun H locs hW => ?_)
  refine lv_aload_n hx hb dX5_becomeLike_48 rfl (lv_at hl 0 rfl) ?_
  refine lv_aload_n hx hb dX5_becomeLike_49 rfl (lv_at hl 1 rfl) ?_
  refine r_geti (ci := 4) (C := RX5) (T := TX5) (N := 16) hx hb hts iX5 hown hW rfl g 6 rfl (p_lt hG hg (i := 0) (by decide)) (p_kd hG hg) (by decide) q6 (fun _ h9 => h9) (nI (B 17)) ((congrFun (e_in (by omega) rfl) 6).trans hR.1.2.2.2.2.2.2.1) rfl rfl dX5_becomeLike_50 ?_
  refine r_puti (ci := 4) (C := RX5) (T := TX5) (N := 16) hx hb hts iX5 tyX5 tyX5_ok nmX5 hown hW rfl h 6 rfl (p_lt hG hh (i := 0) (by decide)) (p_kd hG hh) (by decide) q6 (fun _ h9 => h9) rfl (tyX5_ok 6 (by decide)) rfl rfl (ri S h (va_up (va_up (va_up (va_up (va_up (va_up (va_up (gi S h) 0 (nI (B 132))) 1 (nI (B 0))) 2 (nI (B 1))) 3 (nI (B 2))) 4 (nI (B 3))) 5 (nI (B 4))) 6 (nI (B 17)))) (va_up (va_up (va_up (va_up (va_up (va_up (gi S h) 0 (nI (B 132))) 1 (nI (B 0))) 2 (nI (B 1))) 3 (nI (B 2))) 4 (nI (B 3))) 5 (nI (B 4))) (va_up (va_up (va_up (va_up (va_up (va_up (va_up (gi S h) 0 (nI (B 132))) 1 (nI (B 0))) 2 (nI (B 1))) 3 (nI (B 2))) 4 (nI (B 3))) 5 (nI (B 4))) 6 (nI (B 17))) (e_is _ _ _) (e_is _ _ _) rfl rfl rfl (Nat.le_of_ble_eq_true rfl) rfl c_i dX5_becomeLike_53 (fun H locs hW => ?_)
  refine lv_aload_n hx hb dX5_becomeLike_56 rfl (lv_at hl 0 rfl) ?_
  refine lv_aload_n hx hb dX5_becomeLike_57 rfl (lv_at hl 1 rfl) ?_
  refine r_geti (ci := 4) (C := RX5) (T := TX5) (N := 16) hx hb hts iX5 hown hW rfl g 7 rfl (p_lt hG hg (i := 0) (by decide)) (p_kd hG hg) (by decide) q7 (fun _ h9 => h9) (nI (B 130)) ((congrFun (e_in (by omega) rfl) 7).trans hR.1.2.2.2.2.2.2.2.1) rfl rfl dX5_becomeLike_58 ?_
  refine r_puti (ci := 4) (C := RX5) (T := TX5) (N := 16) hx hb hts iX5 tyX5 tyX5_ok nmX5 hown hW rfl h 7 rfl (p_lt hG hh (i := 0) (by decide)) (p_kd hG hh) (by decide) q7 (fun _ h9 => h9) rfl (tyX5_ok 7 (by decide)) rfl rfl (ri S h (va_up (va_up (va_up (va_up (va_up (va_up (va_up (va_up (gi S h) 0 (nI (B 132))) 1 (nI (B 0))) 2 (nI (B 1))) 3 (nI (B 2))) 4 (nI (B 3))) 5 (nI (B 4))) 6 (nI (B 17))) 7 (nI (B 130)))) (va_up (va_up (va_up (va_up (va_up (va_up (va_up (gi S h) 0 (nI (B 132))) 1 (nI (B 0))) 2 (nI (B 1))) 3 (nI (B 2))) 4 (nI (B 3))) 5 (nI (B 4))) 6 (nI (B 17))) (va_up (va_up (va_up (va_up (va_up (va_up (va_up (va_up (gi S h) 0 (nI (B 132))) 1 (nI (B 0))) 2 (nI (B 1))) 3 (nI (B 2))) 4 (nI (B 3))) 5 (nI (B 4))) 6 (nI (B 17))) 7 (nI (B 130))) (e_is _ _ _) (e_is _ _ _) rfl rfl rfl (Nat.le_of_ble_eq_true rfl) rfl c_i dX5_becomeLike_61 (fun H locs hW => ?_)
  refine lv_aload_n hx hb dX5_becomeLike_64 rfl (lv_at hl 0 rfl) ?_
  refine lv_aload_n hx hb dX5_becomeLike_65 rfl (lv_at hl 1 rfl) ?_
  refine r_geti (ci := 4) (C := RX5) (T := TX5) (N := 16) hx hb hts iX5 hown hW rfl g 8 rfl (p_lt hG hg (i := 0) (by decide)) (p_kd hG hg) (by decide) q8 (fun _ h9 => h9) (nI (B 131)) ((congrFun (e_in (by omega) rfl) 8).trans hR.1.2.2.2.2.2.2.2.2) rfl rfl dX5_becomeLike_66 ?_
  refine r_puti (ci := 4) (C := RX5) (T := TX5) (N := 16) hx hb hts iX5 tyX5 tyX5_ok nmX5 hown hW rfl h 8 rfl (p_lt hG hh (i := 0) (by decide)) (p_kd hG hh) (by decide) q8 (fun _ h9 => h9) rfl (tyX5_ok 8 (by decide)) rfl rfl (ri S h (va_up (va_up (va_up (va_up (va_up (va_up (va_up (va_up (va_up (gi S h) 0 (nI (B 132))) 1 (nI (B 0))) 2 (nI (B 1))) 3 (nI (B 2))) 4 (nI (B 3))) 5 (nI (B 4))) 6 (nI (B 17))) 7 (nI (B 130))) 8 (nI (B 131)))) (va_up (va_up (va_up (va_up (va_up (va_up (va_up (va_up (gi S h) 0 (nI (B 132))) 1 (nI (B 0))) 2 (nI (B 1))) 3 (nI (B 2))) 4 (nI (B 3))) 5 (nI (B 4))) 6 (nI (B 17))) 7 (nI (B 130))) (va_up (va_up (va_up (va_up (va_up (va_up (va_up (va_up (va_up (gi S h) 0 (nI (B 132))) 1 (nI (B 0))) 2 (nI (B 1))) 3 (nI (B 2))) 4 (nI (B 3))) 5 (nI (B 4))) 6 (nI (B 17))) 7 (nI (B 130))) 8 (nI (B 131))) (e_is _ _ _) (e_is _ _ _) rfl rfl rfl (Nat.le_of_ble_eq_true rfl) rfl c_i dX5_becomeLike_69 (fun H locs hW => ?_)
  refine lv_aload_n hx hb dX5_becomeLike_72 rfl (lv_at hl 1 rfl) ?_
  refine r_getr (ci := 4) (C := RX5) (T := TX5) (N := 16) hx hb hts iX5 hown hW rfl g 9 rfl (p_lt hG hg (i := 0) (by decide)) (p_kd hG hg) (by decide) q9 (fun _ h9 => h9) (p_lk hP hg 0 (by decide)) rfl rfl dX5_becomeLike_73 ?_
  refine lv_iconst (v := 0) hx hb dX5_becomeLike_76 (by decide) ?_
  refine lv_aload_n hx hb dX5_becomeLike_77 rfl (lv_at hl 0 rfl) ?_
  refine r_getr (ci := 4) (C := RX5) (T := TX5) (N := 16) hx hb hts iX5 hown hW rfl h 9 rfl (p_lt hG hh (i := 0) (by decide)) (p_kd hG hh) (by decide) q9 (fun _ h9 => h9) (p_lk hP hh 0 (by decide)) rfl rfl dX5_becomeLike_78 ?_
  refine lv_iconst (v := 0) hx hb dX5_becomeLike_81 (by decide) ?_
  refine lv_bipush (v := 6) hx hb dX5_becomeLike_82 (by decide) ?_
  refine r_copyi hx hb (hml.trans hl.1.symm) hown q10 q11 q12 q13 hW (g + 1) (h + 1) rfl rfl (p_lt hG hg (i := 1) (by decide)) (p_lt hG hh (i := 1) (by decide)) (p_kdA hG hg 1 (by decide) (by decide)) (p_kdA hG hh 1 (by decide) (by decide)) (by decide) (by decide) (by decide) (by rw [p_z6 hG hg 1 (by decide) (by decide)]; decide) (by rw [p_z6 hG hh 1 (by decide) (by decide)]; decide) (Nat.le_of_ble_eq_true rfl) (Nat.le_of_ble_eq_true rfl) (ri (ri S h (va_up (va_up (va_up (va_up (va_up (va_up (va_up (va_up (va_up (gi S h) 0 (nI (B 132))) 1 (nI (B 0))) 2 (nI (B 1))) 3 (nI (B 2))) 4 (nI (B 3))) 5 (nI (B 4))) 6 (nI (B 17))) 7 (nI (B 130))) 8 (nI (B 131)))) (h + 1) (va_cpy (gi S (g + 1)) (gi S (h + 1)) (0 : Int32).toNatClampNeg (0 : Int32).toNatClampNeg (6 : Int32).toNatClampNeg)) (gi S (h + 1)) (gi S (g + 1)) (e_in (by omega) rfl) (e_in (by omega) rfl) (e_is _ _ _) rfl rfl c_i0 dX5_becomeLike_84 (fun H locs hW => ?_)
  refine lv_aload_n hx hb dX5_becomeLike_87 rfl (lv_at hl 1 rfl) ?_
  refine r_getr (ci := 4) (C := RX5) (T := TX5) (N := 16) hx hb hts iX5 hown hW rfl g 10 rfl (p_lt hG hg (i := 0) (by decide)) (p_kd hG hg) (by decide) q14 (fun _ h9 => h9) (p_lk hP hg 1 (by decide)) rfl rfl dX5_becomeLike_88 ?_
  refine lv_iconst (v := 0) hx hb dX5_becomeLike_91 (by decide) ?_
  refine lv_aload_n hx hb dX5_becomeLike_92 rfl (lv_at hl 0 rfl) ?_
  refine r_getr (ci := 4) (C := RX5) (T := TX5) (N := 16) hx hb hts iX5 hown hW rfl h 10 rfl (p_lt hG hh (i := 0) (by decide)) (p_kd hG hh) (by decide) q14 (fun _ h9 => h9) (p_lk hP hh 1 (by decide)) rfl rfl dX5_becomeLike_93 ?_
  refine lv_iconst (v := 0) hx hb dX5_becomeLike_96 (by decide) ?_
  refine lv_bipush (v := 6) hx hb dX5_becomeLike_97 (by decide) ?_
  refine r_copyi hx hb (hml.trans hl.1.symm) hown q10 q11 q12 q13 hW (g + 2) (h + 2) rfl rfl (p_lt hG hg (i := 2) (by decide)) (p_lt hG hh (i := 2) (by decide)) (p_kdA hG hg 2 (by decide) (by decide)) (p_kdA hG hh 2 (by decide) (by decide)) (by decide) (by decide) (by decide) (by rw [p_z6 hG hg 2 (by decide) (by decide)]; decide) (by rw [p_z6 hG hh 2 (by decide) (by decide)]; decide) (Nat.le_of_ble_eq_true rfl) (Nat.le_of_ble_eq_true rfl) (ri (ri (ri S h (va_up (va_up (va_up (va_up (va_up (va_up (va_up (va_up (va_up (gi S h) 0 (nI (B 132))) 1 (nI (B 0))) 2 (nI (B 1))) 3 (nI (B 2))) 4 (nI (B 3))) 5 (nI (B 4))) 6 (nI (B 17))) 7 (nI (B 130))) 8 (nI (B 131)))) (h + 1) (va_cpy (gi S (g + 1)) (gi S (h + 1)) (0 : Int32).toNatClampNeg (0 : Int32).toNatClampNeg (6 : Int32).toNatClampNeg)) (h + 2) (va_cpy (gi S (g + 2)) (gi S (h + 2)) (0 : Int32).toNatClampNeg (0 : Int32).toNatClampNeg (6 : Int32).toNatClampNeg)) (gi S (h + 2)) (gi S (g + 2)) (e_in (by omega) (e_in (by omega) rfl)) (e_in (by omega) (e_in (by omega) rfl)) (e_is _ _ _) rfl rfl c_i0 dX5_becomeLike_99 (fun H locs hW => ?_)
  refine lv_aload_n hx hb dX5_becomeLike_102 rfl (lv_at hl 1 rfl) ?_
  refine r_getr (ci := 4) (C := RX5) (T := TX5) (N := 16) hx hb hts iX5 hown hW rfl g 11 rfl (p_lt hG hg (i := 0) (by decide)) (p_kd hG hg) (by decide) q15 (fun _ h9 => h9) (p_lk hP hg 2 (by decide)) rfl rfl dX5_becomeLike_103 ?_
  refine lv_iconst (v := 0) hx hb dX5_becomeLike_106 (by decide) ?_
  refine lv_aload_n hx hb dX5_becomeLike_107 rfl (lv_at hl 0 rfl) ?_
  refine r_getr (ci := 4) (C := RX5) (T := TX5) (N := 16) hx hb hts iX5 hown hW rfl h 11 rfl (p_lt hG hh (i := 0) (by decide)) (p_kd hG hh) (by decide) q15 (fun _ h9 => h9) (p_lk hP hh 2 (by decide)) rfl rfl dX5_becomeLike_108 ?_
  refine lv_iconst (v := 0) hx hb dX5_becomeLike_111 (by decide) ?_
  refine lv_bipush (v := 16) hx hb dX5_becomeLike_112 (by decide) ?_
  refine r_copyi hx hb (hml.trans hl.1.symm) hown q10 q11 q12 q13 hW (g + 3) (h + 3) rfl rfl (p_lt hG hg (i := 3) (by decide)) (p_lt hG hh (i := 3) (by decide)) (p_kdA hG hg 3 (by decide) (by decide)) (p_kdA hG hh 3 (by decide) (by decide)) (by decide) (by decide) (by decide) (by rw [p_z16 hG hg 3 (by decide) (by decide)]; decide) (by rw [p_z16 hG hh 3 (by decide) (by decide)]; decide) (Nat.le_of_ble_eq_true rfl) (Nat.le_of_ble_eq_true rfl) (ri (ri (ri (ri S h (va_up (va_up (va_up (va_up (va_up (va_up (va_up (va_up (va_up (gi S h) 0 (nI (B 132))) 1 (nI (B 0))) 2 (nI (B 1))) 3 (nI (B 2))) 4 (nI (B 3))) 5 (nI (B 4))) 6 (nI (B 17))) 7 (nI (B 130))) 8 (nI (B 131)))) (h + 1) (va_cpy (gi S (g + 1)) (gi S (h + 1)) (0 : Int32).toNatClampNeg (0 : Int32).toNatClampNeg (6 : Int32).toNatClampNeg)) (h + 2) (va_cpy (gi S (g + 2)) (gi S (h + 2)) (0 : Int32).toNatClampNeg (0 : Int32).toNatClampNeg (6 : Int32).toNatClampNeg)) (h + 3) (va_cpy (gi S (g + 3)) (gi S (h + 3)) (0 : Int32).toNatClampNeg (0 : Int32).toNatClampNeg (16 : Int32).toNatClampNeg)) (gi S (h + 3)) (gi S (g + 3)) (e_in (by omega) (e_in (by omega) (e_in (by omega) rfl))) (e_in (by omega) (e_in (by omega) (e_in (by omega) rfl))) (e_is _ _ _) rfl rfl c_i0 dX5_becomeLike_114 (fun H locs hW => ?_)
  refine lv_aload_n hx hb dX5_becomeLike_117 rfl (lv_at hl 1 rfl) ?_
  refine r_getr (ci := 4) (C := RX5) (T := TX5) (N := 16) hx hb hts iX5 hown hW rfl g 12 rfl (p_lt hG hg (i := 0) (by decide)) (p_kd hG hg) (by decide) q16 (fun _ h9 => h9) (p_lk hP hg 3 (by decide)) rfl rfl dX5_becomeLike_118 ?_
  refine lv_iconst (v := 0) hx hb dX5_becomeLike_121 (by decide) ?_
  refine lv_aload_n hx hb dX5_becomeLike_122 rfl (lv_at hl 0 rfl) ?_
  refine r_getr (ci := 4) (C := RX5) (T := TX5) (N := 16) hx hb hts iX5 hown hW rfl h 12 rfl (p_lt hG hh (i := 0) (by decide)) (p_kd hG hh) (by decide) q16 (fun _ h9 => h9) (p_lk hP hh 3 (by decide)) rfl rfl dX5_becomeLike_123 ?_
  refine lv_iconst (v := 0) hx hb dX5_becomeLike_126 (by decide) ?_
  refine lv_bipush (v := 16) hx hb dX5_becomeLike_127 (by decide) ?_
  refine r_copyi hx hb (hml.trans hl.1.symm) hown q10 q11 q12 q13 hW (g + 4) (h + 4) rfl rfl (p_lt hG hg (i := 4) (by decide)) (p_lt hG hh (i := 4) (by decide)) (p_kdA hG hg 4 (by decide) (by decide)) (p_kdA hG hh 4 (by decide) (by decide)) (by decide) (by decide) (by decide) (by rw [p_z16 hG hg 4 (by decide) (by decide)]; decide) (by rw [p_z16 hG hh 4 (by decide) (by decide)]; decide) (Nat.le_of_ble_eq_true rfl) (Nat.le_of_ble_eq_true rfl) (ri (ri (ri (ri (ri S h (va_up (va_up (va_up (va_up (va_up (va_up (va_up (va_up (va_up (gi S h) 0 (nI (B 132))) 1 (nI (B 0))) 2 (nI (B 1))) 3 (nI (B 2))) 4 (nI (B 3))) 5 (nI (B 4))) 6 (nI (B 17))) 7 (nI (B 130))) 8 (nI (B 131)))) (h + 1) (va_cpy (gi S (g + 1)) (gi S (h + 1)) (0 : Int32).toNatClampNeg (0 : Int32).toNatClampNeg (6 : Int32).toNatClampNeg)) (h + 2) (va_cpy (gi S (g + 2)) (gi S (h + 2)) (0 : Int32).toNatClampNeg (0 : Int32).toNatClampNeg (6 : Int32).toNatClampNeg)) (h + 3) (va_cpy (gi S (g + 3)) (gi S (h + 3)) (0 : Int32).toNatClampNeg (0 : Int32).toNatClampNeg (16 : Int32).toNatClampNeg)) (h + 4) (va_cpy (gi S (g + 4)) (gi S (h + 4)) (0 : Int32).toNatClampNeg (0 : Int32).toNatClampNeg (16 : Int32).toNatClampNeg)) (gi S (h + 4)) (gi S (g + 4)) (e_in (by omega) (e_in (by omega) (e_in (by omega) (e_in (by omega) rfl)))) (e_in (by omega) (e_in (by omega) (e_in (by omega) (e_in (by omega) rfl)))) (e_is _ _ _) rfl rfl c_i0 dX5_becomeLike_129 (fun H locs hW => ?_)
  refine lv_aload_n hx hb dX5_becomeLike_132 rfl (lv_at hl 1 rfl) ?_
  refine r_getr (ci := 4) (C := RX5) (T := TX5) (N := 16) hx hb hts iX5 hown hW rfl g 13 rfl (p_lt hG hg (i := 0) (by decide)) (p_kd hG hg) (by decide) q17 (fun _ h9 => h9) (p_lk hP hg 4 (by decide)) rfl rfl dX5_becomeLike_133 ?_
  refine lv_iconst (v := 0) hx hb dX5_becomeLike_136 (by decide) ?_
  refine lv_aload_n hx hb dX5_becomeLike_137 rfl (lv_at hl 0 rfl) ?_
  refine r_getr (ci := 4) (C := RX5) (T := TX5) (N := 16) hx hb hts iX5 hown hW rfl h 13 rfl (p_lt hG hh (i := 0) (by decide)) (p_kd hG hh) (by decide) q17 (fun _ h9 => h9) (p_lk hP hh 4 (by decide)) rfl rfl dX5_becomeLike_138 ?_
  refine lv_iconst (v := 0) hx hb dX5_becomeLike_141 (by decide) ?_
  refine lv_bipush (v := 16) hx hb dX5_becomeLike_142 (by decide) ?_
  refine r_copyi hx hb (hml.trans hl.1.symm) hown q10 q11 q12 q13 hW (g + 5) (h + 5) rfl rfl (p_lt hG hg (i := 5) (by decide)) (p_lt hG hh (i := 5) (by decide)) (p_kdA hG hg 5 (by decide) (by decide)) (p_kdA hG hh 5 (by decide) (by decide)) (by decide) (by decide) (by decide) (by rw [p_z16 hG hg 5 (by decide) (by decide)]; decide) (by rw [p_z16 hG hh 5 (by decide) (by decide)]; decide) (Nat.le_of_ble_eq_true rfl) (Nat.le_of_ble_eq_true rfl) (ri (ri (ri (ri (ri (ri S h (va_up (va_up (va_up (va_up (va_up (va_up (va_up (va_up (va_up (gi S h) 0 (nI (B 132))) 1 (nI (B 0))) 2 (nI (B 1))) 3 (nI (B 2))) 4 (nI (B 3))) 5 (nI (B 4))) 6 (nI (B 17))) 7 (nI (B 130))) 8 (nI (B 131)))) (h + 1) (va_cpy (gi S (g + 1)) (gi S (h + 1)) (0 : Int32).toNatClampNeg (0 : Int32).toNatClampNeg (6 : Int32).toNatClampNeg)) (h + 2) (va_cpy (gi S (g + 2)) (gi S (h + 2)) (0 : Int32).toNatClampNeg (0 : Int32).toNatClampNeg (6 : Int32).toNatClampNeg)) (h + 3) (va_cpy (gi S (g + 3)) (gi S (h + 3)) (0 : Int32).toNatClampNeg (0 : Int32).toNatClampNeg (16 : Int32).toNatClampNeg)) (h + 4) (va_cpy (gi S (g + 4)) (gi S (h + 4)) (0 : Int32).toNatClampNeg (0 : Int32).toNatClampNeg (16 : Int32).toNatClampNeg)) (h + 5) (va_cpy (gi S (g + 5)) (gi S (h + 5)) (0 : Int32).toNatClampNeg (0 : Int32).toNatClampNeg (16 : Int32).toNatClampNeg)) (gi S (h + 5)) (gi S (g + 5)) (e_in (by omega) (e_in (by omega) (e_in (by omega) (e_in (by omega) (e_in (by omega) rfl))))) (e_in (by omega) (e_in (by omega) (e_in (by omega) (e_in (by omega) (e_in (by omega) rfl))))) (e_is _ _ _) rfl rfl c_i0 dX5_becomeLike_144 (fun H locs hW => ?_)
  refine lv_aload_n hx hb dX5_becomeLike_147 rfl (lv_at hl 1 rfl) ?_
  refine r_getr (ci := 4) (C := RX5) (T := TX5) (N := 16) hx hb hts iX5 hown hW rfl g 14 rfl (p_lt hG hg (i := 0) (by decide)) (p_kd hG hg) (by decide) q18 (fun _ h9 => h9) (p_lk hP hg 5 (by decide)) rfl rfl dX5_becomeLike_148 ?_
  refine lv_iconst (v := 0) hx hb dX5_becomeLike_151 (by decide) ?_
  refine lv_aload_n hx hb dX5_becomeLike_152 rfl (lv_at hl 0 rfl) ?_
  refine r_getr (ci := 4) (C := RX5) (T := TX5) (N := 16) hx hb hts iX5 hown hW rfl h 14 rfl (p_lt hG hh (i := 0) (by decide)) (p_kd hG hh) (by decide) q18 (fun _ h9 => h9) (p_lk hP hh 5 (by decide)) rfl rfl dX5_becomeLike_153 ?_
  refine lv_iconst (v := 0) hx hb dX5_becomeLike_156 (by decide) ?_
  refine lv_bipush (v := 16) hx hb dX5_becomeLike_157 (by decide) ?_
  refine r_copyi hx hb (hml.trans hl.1.symm) hown q10 q11 q12 q13 hW (g + 6) (h + 6) rfl rfl (p_lt hG hg (i := 6) (by decide)) (p_lt hG hh (i := 6) (by decide)) (p_kdA hG hg 6 (by decide) (by decide)) (p_kdA hG hh 6 (by decide) (by decide)) (by decide) (by decide) (by decide) (by rw [p_z16 hG hg 6 (by decide) (by decide)]; decide) (by rw [p_z16 hG hh 6 (by decide) (by decide)]; decide) (Nat.le_of_ble_eq_true rfl) (Nat.le_of_ble_eq_true rfl) (ri (ri (ri (ri (ri (ri (ri S h (va_up (va_up (va_up (va_up (va_up (va_up (va_up (va_up (va_up (gi S h) 0 (nI (B 132))) 1 (nI (B 0))) 2 (nI (B 1))) 3 (nI (B 2))) 4 (nI (B 3))) 5 (nI (B 4))) 6 (nI (B 17))) 7 (nI (B 130))) 8 (nI (B 131)))) (h + 1) (va_cpy (gi S (g + 1)) (gi S (h + 1)) (0 : Int32).toNatClampNeg (0 : Int32).toNatClampNeg (6 : Int32).toNatClampNeg)) (h + 2) (va_cpy (gi S (g + 2)) (gi S (h + 2)) (0 : Int32).toNatClampNeg (0 : Int32).toNatClampNeg (6 : Int32).toNatClampNeg)) (h + 3) (va_cpy (gi S (g + 3)) (gi S (h + 3)) (0 : Int32).toNatClampNeg (0 : Int32).toNatClampNeg (16 : Int32).toNatClampNeg)) (h + 4) (va_cpy (gi S (g + 4)) (gi S (h + 4)) (0 : Int32).toNatClampNeg (0 : Int32).toNatClampNeg (16 : Int32).toNatClampNeg)) (h + 5) (va_cpy (gi S (g + 5)) (gi S (h + 5)) (0 : Int32).toNatClampNeg (0 : Int32).toNatClampNeg (16 : Int32).toNatClampNeg)) (h + 6) (va_cpy (gi S (g + 6)) (gi S (h + 6)) (0 : Int32).toNatClampNeg (0 : Int32).toNatClampNeg (16 : Int32).toNatClampNeg)) (gi S (h + 6)) (gi S (g + 6)) (e_in (by omega) (e_in (by omega) (e_in (by omega) (e_in (by omega) (e_in (by omega) (e_in (by omega) rfl)))))) (e_in (by omega) (e_in (by omega) (e_in (by omega) (e_in (by omega) (e_in (by omega) (e_in (by omega) rfl)))))) (e_is _ _ _) rfl rfl c_i0 dX5_becomeLike_159 (fun H locs hW => ?_)
  refine lv_iconst (v := 0) hx hb dX5_becomeLike_162 (by decide) ?_
  refine lv_istore_n (lv' := [(2, .int 0), (0, .ref (gA G h)), (1, .ref (gA G g))]) hx hb dX5_becomeLike_163 rfl hl (by decide) rfl (fun ls hl => ?_)
  rw [show (ri (ri (ri (ri (ri (ri (ri S h (va_up (va_up (va_up (va_up (va_up (va_up (va_up (va_up (va_up (gi S h) 0 (nI (B 132))) 1 (nI (B 0))) 2 (nI (B 1))) 3 (nI (B 2))) 4 (nI (B 3))) 5 (nI (B 4))) 6 (nI (B 17))) 7 (nI (B 130))) 8 (nI (B 131)))) (h + 1) (va_cpy (gi S (g + 1)) (gi S (h + 1)) (0 : Int32).toNatClampNeg (0 : Int32).toNatClampNeg (6 : Int32).toNatClampNeg)) (h + 2) (va_cpy (gi S (g + 2)) (gi S (h + 2)) (0 : Int32).toNatClampNeg (0 : Int32).toNatClampNeg (6 : Int32).toNatClampNeg)) (h + 3) (va_cpy (gi S (g + 3)) (gi S (h + 3)) (0 : Int32).toNatClampNeg (0 : Int32).toNatClampNeg (16 : Int32).toNatClampNeg)) (h + 4) (va_cpy (gi S (g + 4)) (gi S (h + 4)) (0 : Int32).toNatClampNeg (0 : Int32).toNatClampNeg (16 : Int32).toNatClampNeg)) (h + 5) (va_cpy (gi S (g + 5)) (gi S (h + 5)) (0 : Int32).toNatClampNeg (0 : Int32).toNatClampNeg (16 : Int32).toNatClampNeg)) (h + 6) (va_cpy (gi S (g + 6)) (gi S (h + 6)) (0 : Int32).toNatClampNeg (0 : Int32).toNatClampNeg (16 : Int32).toNatClampNeg)) = rp (ri (ri (ri (ri (ri (ri (ri S h (va_up (va_up (va_up (va_up (va_up (va_up (va_up (va_up (va_up (gi S h) 0 (nI (B 132))) 1 (nI (B 0))) 2 (nI (B 1))) 3 (nI (B 2))) 4 (nI (B 3))) 5 (nI (B 4))) 6 (nI (B 17))) 7 (nI (B 130))) 8 (nI (B 131)))) (h + 1) (va_cpy (gi S (g + 1)) (gi S (h + 1)) (0 : Int32).toNatClampNeg (0 : Int32).toNatClampNeg (6 : Int32).toNatClampNeg)) (h + 2) (va_cpy (gi S (g + 2)) (gi S (h + 2)) (0 : Int32).toNatClampNeg (0 : Int32).toNatClampNeg (6 : Int32).toNatClampNeg)) (h + 3) (va_cpy (gi S (g + 3)) (gi S (h + 3)) (0 : Int32).toNatClampNeg (0 : Int32).toNatClampNeg (16 : Int32).toNatClampNeg)) (h + 4) (va_cpy (gi S (g + 4)) (gi S (h + 4)) (0 : Int32).toNatClampNeg (0 : Int32).toNatClampNeg (16 : Int32).toNatClampNeg)) (h + 5) (va_cpy (gi S (g + 5)) (gi S (h + 5)) (0 : Int32).toNatClampNeg (0 : Int32).toNatClampNeg (16 : Int32).toNatClampNeg)) (h + 6) (va_cpy (gi S (g + 6)) (gi S (h + 6)) (0 : Int32).toNatClampNeg (0 : Int32).toNatClampNeg (16 : Int32).toNatClampNeg)) (h + 7) (gp S (h + 7)) from (rp_id _ _).symm] at hW
  have L164 : ∀ (n : Nat) (i : Nat) (t : Nat → Option Nat) (H : Heap) (locs : List Loc) (ls : Array Slot), (16 - i) < n → i ≤ 16 → (∀ j, j < i → t j = gp S (g + 7) j) → Wd D (AW G s.heap.size) s G (rp (ri (ri (ri (ri (ri (ri (ri S h (va_up (va_up (va_up (va_up (va_up (va_up (va_up (va_up (va_up (gi S h) 0 (nI (B 132))) 1 (nI (B 0))) 2 (nI (B 1))) 3 (nI (B 2))) 4 (nI (B 3))) 5 (nI (B 4))) 6 (nI (B 17))) 7 (nI (B 130))) 8 (nI (B 131)))) (h + 1) (va_cpy (gi S (g + 1)) (gi S (h + 1)) (0 : Int32).toNatClampNeg (0 : Int32).toNatClampNeg (6 : Int32).toNatClampNeg)) (h + 2) (va_cpy (gi S (g + 2)) (gi S (h + 2)) (0 : Int32).toNatClampNeg (0 : Int32).toNatClampNeg (6 : Int32).toNatClampNeg)) (h + 3) (va_cpy (gi S (g + 3)) (gi S (h + 3)) (0 : Int32).toNatClampNeg (0 : Int32).toNatClampNeg (16 : Int32).toNatClampNeg)) (h + 4) (va_cpy (gi S (g + 4)) (gi S (h + 4)) (0 : Int32).toNatClampNeg (0 : Int32).toNatClampNeg (16 : Int32).toNatClampNeg)) (h + 5) (va_cpy (gi S (g + 5)) (gi S (h + 5)) (0 : Int32).toNatClampNeg (0 : Int32).toNatClampNeg (16 : Int32).toNatClampNeg)) (h + 6) (va_cpy (gi S (g + 6)) (gi S (h + 6)) (0 : Int32).toNatClampNeg (0 : Int32).toNatClampNeg (16 : Int32).toNatClampNeg)) (h + 7) t) H locs → lv_has ls 3 [(2, .int (nI i)), (0, .ref (gA G h)), (1, .ref (gA G g))] → W pP l eE (headSpec wsX5_becomeLike rmX5_becomeLike).room s mM ([.ref (gA G h), .ref (gA G g)] : List Value).toArray bl mT cD H locs 0 0 Q0 (F0 mM 164 ls []) := by
    intro n
    induction n with
    | zero => intro i t H locs ls hm; exact absurd hm (Nat.not_lt_zero _)
    | succ n ih164 =>
      intro i t H locs ls hm164 hi ht hW hl
      refine lv_iload_n hx hb dX5_becomeLike_164 rfl (lv_at hl 0 rfl) ?_
      refine lv_bipush (v := 16) hx hb dX5_becomeLike_165 (by decide) ?_
      refine lv_icmp_ge (tgt := 188) hx hb dX5_becomeLike_167 (by decide) (fun c167 => ?_) (fun c167 => ?_)
      · skip
        have hge : 16 ≤ i := (n_le (a := 16) (by omega) (by omega)).mp c167
        rw [← hQ0]
        refine r_vret hx hb hr hlocks hW ?_ dX5_becomeLike_188
        have hi16 : i = 16 := by omega
        subst hi16
        obtain ⟨y1, y2, y3, y4, y5⟩ := hR
        refine ⟨_, _, _, _, _, _, _, _, rfl, ⟨?_, ?_, ?_, ?_, ?_⟩⟩
        · exact ⟨(congrFun (e_ip (e_in (by omega) (e_in (by omega) (e_in (by omega) (e_in (by omega) (e_in (by omega) (e_in (by omega) (e_is _ _ _)))))))) 0).trans rfl, (congrFun (e_ip (e_in (by omega) (e_in (by omega) (e_in (by omega) (e_in (by omega) (e_in (by omega) (e_in (by omega) (e_is _ _ _)))))))) 1).trans rfl, (congrFun (e_ip (e_in (by omega) (e_in (by omega) (e_in (by omega) (e_in (by omega) (e_in (by omega) (e_in (by omega) (e_is _ _ _)))))))) 2).trans rfl, (congrFun (e_ip (e_in (by omega) (e_in (by omega) (e_in (by omega) (e_in (by omega) (e_in (by omega) (e_in (by omega) (e_is _ _ _)))))))) 3).trans rfl, (congrFun (e_ip (e_in (by omega) (e_in (by omega) (e_in (by omega) (e_in (by omega) (e_in (by omega) (e_in (by omega) (e_is _ _ _)))))))) 4).trans rfl, (congrFun (e_ip (e_in (by omega) (e_in (by omega) (e_in (by omega) (e_in (by omega) (e_in (by omega) (e_in (by omega) (e_is _ _ _)))))))) 5).trans rfl, (congrFun (e_ip (e_in (by omega) (e_in (by omega) (e_in (by omega) (e_in (by omega) (e_in (by omega) (e_in (by omega) (e_is _ _ _)))))))) 6).trans rfl, (congrFun (e_ip (e_in (by omega) (e_in (by omega) (e_in (by omega) (e_in (by omega) (e_in (by omega) (e_in (by omega) (e_is _ _ _)))))))) 7).trans rfl, (congrFun (e_ip (e_in (by omega) (e_in (by omega) (e_in (by omega) (e_in (by omega) (e_in (by omega) (e_in (by omega) (e_is _ _ _)))))))) 8).trans rfl⟩
        · intro j hj
          rw [(e_ip (e_in (by omega) (e_in (by omega) (e_in (by omega) (e_in (by omega) (e_in (by omega) (e_is _ _ _))))))), (e_ip (e_in (by omega) (e_in (by omega) (e_in (by omega) (e_in (by omega) (e_is _ _ _))))))]
          unfold va_cpy
          rw [if_pos ⟨Nat.zero_le _, by simp; omega⟩, if_pos ⟨Nat.zero_le _, by simp; omega⟩]
          simpa using y2 j hj
        · intro j hj
          rw [(e_ip (e_in (by omega) (e_in (by omega) (e_in (by omega) (e_is _ _ _))))), (e_ip (e_in (by omega) (e_in (by omega) (e_is _ _ _)))), (e_ip (e_in (by omega) (e_is _ _ _))), (e_ip (e_is _ _ _))]
          unfold va_cpy
          rw [if_pos ⟨Nat.zero_le _, by simp; omega⟩, if_pos ⟨Nat.zero_le _, by simp; omega⟩, if_pos ⟨Nat.zero_le _, by simp; omega⟩, if_pos ⟨Nat.zero_le _, by simp; omega⟩]
          simpa using y3 j hj
        · intro j hj
          obtain ⟨q, a1, a2, a3, a4⟩ := y4 j hj
          refine ⟨q, a1, a2, ?_, ?_⟩
          · rw [(e_ps _ _ _), ht j (by omega)]; exact a3
          · unfold PtyOK; simp only [gi_rp, gi_ri]; rw [up_n _ _ (by omega), up_n _ _ (by omega), up_n _ _ (by omega), up_n _ _ (by omega), up_n _ _ (by omega), up_n _ _ (by omega), up_n _ _ (by omega)]; exact a4
        · intro j hj
          rw [(e_ps _ _ _), ht j hj]
          exact y5 j hj
      · skip
        have hlt : i < 16 := by
          have h9 : ¬ 16 ≤ i := fun q => c167 ((n_le (a := 16) (by omega) (by omega)).mpr q)
          omega
        refine lv_aload_n hx hb dX5_becomeLike_170 rfl (lv_at hl 1 rfl) ?_
        refine r_getr (ci := 4) (C := RX5) (T := TX5) (N := 16) hx hb hts iX5 hown hW rfl h 15 rfl (p_lt hG hh (i := 0) (by decide)) (p_kd hG hh) (by decide) q19 (fun _ h9 => h9) ((congrFun (e_pn (by omega) rfl) 15).trans (p_lk hP hh 6 (by decide))) rfl rfl dX5_becomeLike_171 ?_
        refine lv_iload_n hx hb dX5_becomeLike_174 rfl (lv_at hl 0 rfl) ?_
        refine lv_aload_n hx hb dX5_becomeLike_175 rfl (lv_at hl 2 rfl) ?_
        refine r_getr (ci := 4) (C := RX5) (T := TX5) (N := 16) hx hb hts iX5 hown hW rfl g 15 rfl (p_lt hG hg (i := 0) (by decide)) (p_kd hG hg) (by decide) q19 (fun _ h9 => h9) ((congrFun (e_pn (by omega) rfl) 15).trans (p_lk hP hg 6 (by decide))) rfl rfl dX5_becomeLike_176 ?_
        refine lv_iload_n hx hb dX5_becomeLike_179 rfl (lv_at hl 0 rfl) ?_
        refine r_aald hx hb hW (g + 7) rfl (p_lt hG hg (i := 7) (by decide)) 14 3 (p_kdT hG hg) rfl rfl (fun _ _ _ _ => rfl) (by rw [p_z16 hG hg 7 (by decide) (by decide)]; exact n_inI hlt (by omega)) (gp S (g + 7) i) ((congrFun (e_pn (by omega) rfl) _).trans (congrArg (gp S (g + 7)) (n_clamp (by omega)))) dX5_becomeLike_180 ?_
        refine r_aast hx hb hW (h + 7) rfl (p_lt hG hh (i := 7) (by decide)) (p_kdT hG hh) (x := (gp S (g + 7) i)) (fun v hv9 => by rcases hR.2.2.2.2 i hlt with h9 | ⟨q, a1, a2, a3⟩; (rw [h9] at hv9; cases hv9); (rw [a3] at hv9; cases hv9; exact r_anyP hG.2.2.2 hW a1 a2)) (by rw [p_z16 hG hh 7 (by decide) (by decide)]; exact n_inI hlt (by omega)) (rp (ri (ri (ri (ri (ri (ri (ri S h (va_up (va_up (va_up (va_up (va_up (va_up (va_up (va_up (va_up (gi S h) 0 (nI (B 132))) 1 (nI (B 0))) 2 (nI (B 1))) 3 (nI (B 2))) 4 (nI (B 3))) 5 (nI (B 4))) 6 (nI (B 17))) 7 (nI (B 130))) 8 (nI (B 131)))) (h + 1) (va_cpy (gi S (g + 1)) (gi S (h + 1)) (0 : Int32).toNatClampNeg (0 : Int32).toNatClampNeg (6 : Int32).toNatClampNeg)) (h + 2) (va_cpy (gi S (g + 2)) (gi S (h + 2)) (0 : Int32).toNatClampNeg (0 : Int32).toNatClampNeg (6 : Int32).toNatClampNeg)) (h + 3) (va_cpy (gi S (g + 3)) (gi S (h + 3)) (0 : Int32).toNatClampNeg (0 : Int32).toNatClampNeg (16 : Int32).toNatClampNeg)) (h + 4) (va_cpy (gi S (g + 4)) (gi S (h + 4)) (0 : Int32).toNatClampNeg (0 : Int32).toNatClampNeg (16 : Int32).toNatClampNeg)) (h + 5) (va_cpy (gi S (g + 5)) (gi S (h + 5)) (0 : Int32).toNatClampNeg (0 : Int32).toNatClampNeg (16 : Int32).toNatClampNeg)) (h + 6) (va_cpy (gi S (g + 6)) (gi S (h + 6)) (0 : Int32).toNatClampNeg (0 : Int32).toNatClampNeg (16 : Int32).toNatClampNeg)) (h + 7) (va_up t ((nI i)).toNatClampNeg (gp S (g + 7) i))) t (e_ps _ _ _) (e_ps _ _ _) rfl rfl c_p dX5_becomeLike_181 (fun H locs hW => ?_)
        refine lv_iinc (v := (nI (i + 1))) (lv' := [(2, .int (nI (i + 1))), (0, .ref (gA G h)), (1, .ref (gA G g))]) hx hb dX5_becomeLike_182 hl (k := 0) rfl (nI_1 i) (by decide) rfl (fun ls hl => ?_)
        refine lv_goto (tgt := 164) hx hb dX5_becomeLike_185 (by decide) ?_
        exact ih164 (i + 1) (va_up t ((nI i)).toNatClampNeg (gp S (g + 7) i)) _ _ ls (by omega) hlt (fun j hj => by rw [n_clamp (by omega)]; by_cases z : j = i; (subst z; rw [up_s]); (rw [up_n _ _ z]; exact ht j (by omega))) hW (lv_sub hl [0, 1, 2] rfl)
  exact L164 _ 0 (gp S (h + 7)) _ _ ls (Nat.lt_succ_self _) (Nat.zero_le _) (fun j hj => absurd hj (Nat.not_lt_zero _)) hW (lv_sub hl [0, 1, 2] rfl)
