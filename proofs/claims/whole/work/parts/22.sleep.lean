def rmX5_sleepNight : Jvm.Room := { frames := 1, cells := 0, slots := 0, locals := 24 }
set_option maxHeartbeats 4000000 in
set_option maxRecDepth 100000 in
theorem t_X5_sleepNight (l : Launch) (D : Dc) (G : Gg) (S : Sg) (z : Nat) (hG : GrG G) (hP : GrP G S) (h : Nat) (hh : PassR h) (B : Nat → Nat) (c : Nat) (hB : BP1 B c) (hR : RP G S h B) (p : Nat) (hp : p < B 17) : MI l yX5_sleepNight wsX5_sleepNight rmX5_sleepNight D G S z [.ref (gA G h), .int (nI p)] (fun r S' => r = nI (slF B p) ∧ ∃ r0 r3 r4 r5 r6, S' = ri (ri (ri (ri (ri S h r0) (h + 3) r3) (h + 4) r4) (h + 5) r5) (h + 6) r6 ∧ RP G S' h (slB B p)) := by
  refine Met.ofW (cc := cX5_sleepNight) (maxL := 8) (ret := (some .int)) (by decide +kernel) rfl ?_
  intro pP eE s mM args bl mT cD s₁ bD hml hv
  obtain ⟨rfl, hv⟩ := hv
  have hz := hv.1
  subst hz
  have hx := bD.exec
  have hb := bD.bytes
  have hr := bD.returns
  have hts := atoms_spec (ws := wsX5_sleepNight) bD.pre
  have hown : s.vm.findClass RX5 = some mM.cls := findClass_of_methodNamed bD.named
  have hlocks := bD.notSynchronized
  have hW := Wd.start hv
  have hA : ∀ q, s.heap.size ≤ q → AW G s.heap.size q := fun q h => Or.inr h
  have hl := lv_entry ([.ref (gA G h), .int (nI p)]) (n := 8) (Nat.le_of_ble_eq_true rfl)
  rw [lg_entry_eq]
  generalize (lg_sl ([.ref (gA G h), .int (nI p)]) ++ List.replicate (8 - (lg_sl ([.ref (gA G h), .int (nI p)])).length) Slot.unset).toArray = ls at hl ⊢
  have hl : lv_has ls 8 [(0, .ref (gA G h)), (1, .int (nI p))] := hl
  have q0 := hts (.fieldLink RX5 81 "WoodForTwo$Party" "heads" "I") (List.mem_of_getElem? (i := 1) rfl)
  have q1 := hts (.fieldLink RX5 44 "WoodForTwo$Pass" "burn" "I") (List.mem_of_getElem? (i := 2) rfl)
  have q2 := hts (.fieldLink RX5 40 "WoodForTwo$Pass" "wood" "I") (List.mem_of_getElem? (i := 3) rfl)
  have q3 := hts (.methodLink RX5 84 Lib.Math.min.name) (List.mem_of_getElem? (i := 4) rfl)
  have q4 := hts (.static Lib.Math.min.name) (List.mem_of_getElem? (i := 5) rfl)
  have q5 := hts (.initialized "java/lang/Math") (List.mem_of_getElem? (i := 6) rfl)
  have q6 := hts (.code Lib.Math.min.name Lib.Math.min.code 2 (some .int)) (List.mem_of_getElem? (i := 7) rfl)
  have q7 := hts (.fieldLink RX5 47 "WoodForTwo$Pass" "law" "I") (List.mem_of_getElem? (i := 8) rfl)
  have q8 := hts (.fieldLink RX5 18 "WoodForTwo$Pass" "slept" "[I") (List.mem_of_getElem? (i := 9) rfl)
  have q9 := hts (.fieldLink RX5 21 "WoodForTwo$Pass" "froze" "[I") (List.mem_of_getElem? (i := 10) rfl)
  have q10 := hts (.fieldLink RX5 24 "WoodForTwo$Pass" "left" "[I") (List.mem_of_getElem? (i := 11) rfl)
  have q11 := hts (.fieldLink RX5 27 "WoodForTwo$Pass" "lacked" "[I") (List.mem_of_getElem? (i := 12) rfl)
  have q12 := hts (.fieldLink RX5 59 "WoodForTwo$Pass" "nightsGone" "I") (List.mem_of_getElem? (i := 13) rfl)
  have q13 := hts (.fieldLink RX5 62 "WoodForTwo$Pass" "frozeInAll" "I") (List.mem_of_getElem? (i := 14) rfl)
  have iX1 : ∀ w ∈ wsX10, w ∈ wsX5_sleepNight := fun _ h => List.mem_cons_of_mem _ (List.mem_append_left _ (List.mem_append_left _ (List.mem_append_left _ (List.mem_append_left _ (List.mem_append_left _ (List.mem_append_right _ (h)))))))
  have iX2 : ∀ w ∈ wsX20, w ∈ wsX5_sleepNight := fun _ h => List.mem_cons_of_mem _ (List.mem_append_left _ (List.mem_append_left _ (List.mem_append_left _ (List.mem_append_left _ (List.mem_append_right _ (h))))))
  have iX3 : ∀ w ∈ wsX30, w ∈ wsX5_sleepNight := fun _ h => List.mem_cons_of_mem _ (List.mem_append_left _ (List.mem_append_left _ (List.mem_append_left _ (List.mem_append_right _ (h)))))
  have iX7 : ∀ w ∈ wsX70, w ∈ wsX5_sleepNight := fun _ h => List.mem_cons_of_mem _ (List.mem_append_left _ (List.mem_append_left _ (List.mem_append_right _ (h))))
  have iX9 : ∀ w ∈ wsX90, w ∈ wsX5_sleepNight := fun _ h => List.mem_cons_of_mem _ (List.mem_append_left _ (List.mem_append_right _ (h)))
  have iX5 : ∀ w ∈ wsX50, w ∈ wsX5_sleepNight := fun _ h => List.mem_cons_of_mem _ (List.mem_append_right _ (h))
  generalize hQ0 : MQ bl _ _ s _ _ _ = Q0
  obtain ⟨b0, b1, b2, b3, b4, b5, b6, b7, b8, b9, b10, b11, b12⟩ := id hB
  have hp16 : p < 16 := by omega
  have hp31 : p < 2147483648 := by omega
  have hMB : B (18 + p) * B 1 ≤ 9 * 9 := Nat.mul_le_mul (b9 p hp).2.1 b3
  have hD : slD B p ≤ 729 := due_le b5 b3 (b9 p hp).2.1
  have hL : slL B p ≤ slD B p := lv_le
  have hWd : slW B p ≤ 999 := by unfold slW; omega
  refine lv_aload_n hx hb dX5_sleepNight_0 rfl (lv_at hl 0 rfl) ?_
  refine lv_iload_n hx hb dX5_sleepNight_1 rfl (lv_at hl 1 rfl) ?_
  refine r_callq hW hA (va_runV (As := [.int (nI p)]) (rest := []) ⟨hx, hb, hml, hown, hts⟩ (t_X5_partyAt l D G S _ hG hP h hh B b8 hR.1.2.2.2.2.2.2.1 hR.2.2.2.1 (nI p)) (cwV 1 hts gX5_sleepNight_X5_partyAt rfl rfl rfl (by decide +kernel) ⟨Nat.le_of_ble_eq_true rfl, Nat.le_of_ble_eq_true rfl⟩) (r_preV (k := h) hA hW (ci := 4) (C := RX5) (T := TX5) (N := 16) rfl rfl (p_lt hG hh (i := 0) (by decide)) (p_kd hG hh) rfl rfl) rfl rfl hl.1 rfl (lv_room (Nat.le_of_ble_eq_true rfl)) dX5_sleepNight_2 ⟨Nat.zero_le _, Nat.zero_le _⟩) (fun r2 S2 H locs hp2 hW => ?_)
  obtain ⟨hs2, hp2⟩ := hp2
  rw [hs2] at hW
  replace hp2 := hp2.resolve_right (fun g => by have g2 := g.2; rw [n_toInt hp31] at g2; omega)
  obtain ⟨p2, q, g1, g2, rfl, g4, g5, g6, g7⟩ := hp2
  have ep : p = p2 := (n_eq hp31 (by omega)).mp g2
  subst ep
  refine W.eq (g2 := F0 mM 5 ls [.ref (gA G q)]) rfl ?_
  refine lv_astore_n (lv' := [(2, .ref (gA G q)), (0, .ref (gA G h)), (1, .int (nI p))]) hx hb dX5_sleepNight_5 rfl hl (by decide) rfl (fun ls hl => ?_)
  refine lv_aload_n hx hb dX5_sleepNight_6 rfl (lv_at hl 0 rfl) ?_
  refine lv_ifnonnull (tgt := 12) hx hb dX5_sleepNight_7 (by decide) ?_
  refine lv_aload_n hx hb dX5_sleepNight_12 rfl (lv_at hl 0 rfl) ?_
  refine r_getP1 hx hb hts iX1 iX2 iX3 iX7 iX9 hown hW q rfl g5 (kdF_P g7.1) q0 (nI (B (18 + p))) g7.2.2.1 dX5_sleepNight_13 ?_
  refine lv_aload_n hx hb dX5_sleepNight_16 rfl (lv_at hl 1 rfl) ?_
  refine r_geti (ci := 4) (C := RX5) (T := TX5) (N := 16) hx hb hts iX5 hown hW rfl h 2 rfl (p_lt hG hh (i := 0) (by decide)) (p_kd hG hh) (by decide) q1 (fun _ h9 => h9) (nI (B 1)) hR.1.2.2.1 rfl rfl dX5_sleepNight_17 ?_
  refine lv_imul hx hb dX5_sleepNight_20 ?_
  rw [show (((nI (B (18 + p))) * (nI (B 1))) : Int32) = (nI (B (18 + p) * B 1)) from n_mul _ _]
  refine lv_istore_n (lv' := [(3, .int (nI (B (18 + p) * B 1))), (2, .ref (gA G q)), (0, .ref (gA G h)), (1, .int (nI p))]) hx hb dX5_sleepNight_21 rfl hl (by decide) rfl (fun ls hl => ?_)
  refine lv_iload_n hx hb dX5_sleepNight_22 rfl (lv_at hl 0 rfl) ?_
  refine lv_aload_n hx hb dX5_sleepNight_23 rfl (lv_at hl 2 rfl) ?_
  refine r_geti (ci := 4) (C := RX5) (T := TX5) (N := 16) hx hb hts iX5 hown hW rfl h 1 rfl (p_lt hG hh (i := 0) (by decide)) (p_kd hG hh) (by decide) q2 (fun _ h9 => h9) (nI (B 0)) hR.1.2.1 rfl rfl dX5_sleepNight_24 ?_
  refine va_mmin hx hb (hml.trans hl.1.symm) hown q3 q4 q5 q6 (Nat.le_of_ble_eq_true rfl) (Nat.le_of_ble_eq_true rfl) (Nat.zero_le _) (Nat.zero_le _) dX5_sleepNight_27 ?_
  rw [show ((if (nI (B 0)) < (nI (B (18 + p) * B 1)) then (nI (B 0)) else (nI (B (18 + p) * B 1))) : Int32) = (nI (min (B (18 + p) * B 1) (B 0))) from n_min (a := (B (18 + p) * B 1)) (b := (B 0)) (by omega) (by omega)]
  refine lv_istore (lv' := [(4, .int (nI (min (B (18 + p) * B 1) (B 0)))), (3, .int (nI (B (18 + p) * B 1))), (2, .ref (gA G q)), (0, .ref (gA G h)), (1, .int (nI p))]) hx hb dX5_sleepNight_30 hl (by decide) rfl (fun ls hl => ?_)
  refine lv_aload_n hx hb dX5_sleepNight_32 rfl (lv_at hl 3 rfl) ?_
  refine lv_iload_n hx hb dX5_sleepNight_33 rfl (lv_at hl 1 rfl) ?_
  refine lv_iload hx hb dX5_sleepNight_34 (lv_at hl 0 rfl) ?_
  refine lv_isub hx hb dX5_sleepNight_36 ?_
  rw [show (((nI (B (18 + p) * B 1)) - (nI (min (B (18 + p) * B 1) (B 0)))) : Int32) = (nI ((B (18 + p) * B 1) - min (B (18 + p) * B 1) (B 0))) from n_sub (Nat.min_le_left _ _)]
  refine r_calli hW hA (va_runV (As := [.int (nI ((B (18 + p) * B 1) - min (B (18 + p) * B 1) (B 0)))]) (rest := []) ⟨hx, hb, hml, hown, hts⟩ (t_X5_headsWithout l D G S _ hG hP h hh ((B (18 + p) * B 1) - min (B (18 + p) * B 1) (B 0)) (B 1) (by omega) b2 b3 hR.1.2.2.1) (cwV 1 hts gX5_sleepNight_X5_headsWithout rfl rfl rfl (by decide +kernel) ⟨Nat.le_of_ble_eq_true rfl, Nat.le_of_ble_eq_true rfl⟩) (r_preV (k := h) hA hW (ci := 4) (C := RX5) (T := TX5) (N := 16) rfl rfl (p_lt hG hh (i := 0) (by decide)) (p_kd hG hh) rfl rfl) rfl rfl hl.1 rfl (lv_room (Nat.le_of_ble_eq_true rfl)) dX5_sleepNight_37 ⟨Nat.zero_le _, Nat.zero_le _⟩) (fun r37 S37 H locs hp37 hW => ?_)
  obtain ⟨hs37, rfl⟩ := hp37
  rw [hs37] at hW
  rw [show ((nI (((B (18 + p) * B 1) - min (B (18 + p) * B 1) (B 0) + B 1 - 1) / B 1)) : Int32) = (nI (slF B p)) from by rw [show (B (18 + p) * B 1) - min (B (18 + p) * B 1) (B 0) = (B (18 + p) * B 1) - B 0 by omega]; rfl]
  refine lv_istore (lv' := [(5, .int (nI (slF B p))), (4, .int (nI (min (B (18 + p) * B 1) (B 0)))), (3, .int (nI (B (18 + p) * B 1))), (2, .ref (gA G q)), (0, .ref (gA G h)), (1, .int (nI p))]) hx hb dX5_sleepNight_40 hl (by decide) rfl (fun ls hl => ?_)
  refine lv_aload_n hx hb dX5_sleepNight_42 rfl (lv_at hl 4 rfl) ?_
  refine lv_dup hx hb dX5_sleepNight_43 rfl ?_
  refine r_geti (ci := 4) (C := RX5) (T := TX5) (N := 16) hx hb hts iX5 hown hW rfl h 1 rfl (p_lt hG hh (i := 0) (by decide)) (p_kd hG hh) (by decide) q2 (fun _ h9 => h9) (nI (B 0)) hR.1.2.1 rfl rfl dX5_sleepNight_44 ?_
  refine lv_iload hx hb dX5_sleepNight_47 (lv_at hl 1 rfl) ?_
  refine lv_isub hx hb dX5_sleepNight_49 ?_
  rw [show (((nI (B 0)) - (nI (min (B (18 + p) * B 1) (B 0)))) : Int32) = (nI (slW B p)) from by rw [n_sub (Nat.min_le_right _ _), show B 0 - min (B (18 + p) * B 1) (B 0) = B 0 - (B (18 + p) * B 1) by omega]; rfl]
  refine r_puti (ci := 4) (C := RX5) (T := TX5) (N := 16) hx hb hts iX5 tyX5 tyX5_ok nmX5 hown hW rfl h 1 rfl (p_lt hG hh (i := 0) (by decide)) (p_kd hG hh) (by decide) q2 (fun _ h9 => h9) rfl (tyX5_ok 1 (by decide)) rfl rfl (ri S h (va_up (gi S h) 1 (nI (slW B p)))) (gi S h) (va_up (gi S h) 1 (nI (slW B p))) rfl (e_is _ _ _) rfl rfl rfl (Nat.le_of_ble_eq_true rfl) rfl c_i0 dX5_sleepNight_50 (fun H locs hW => ?_)
  refine lv_aload_n hx hb dX5_sleepNight_53 rfl (lv_at hl 4 rfl) ?_
  refine lv_aload_n hx hb dX5_sleepNight_54 rfl (lv_at hl 4 rfl) ?_
  refine r_geti (ci := 4) (C := RX5) (T := TX5) (N := 16) hx hb hts iX5 hown hW rfl h 3 rfl (p_lt hG hh (i := 0) (by decide)) (p_kd hG hh) (by decide) q7 (fun _ h9 => h9) (nI (B 2)) ((congrFun (e_is _ _ _) 3).trans hR.1.2.2.2.1) rfl rfl dX5_sleepNight_55 ?_
  refine lv_aload_n hx hb dX5_sleepNight_58 rfl (lv_at hl 3 rfl) ?_
  refine r_getP1 hx hb hts iX1 iX2 iX3 iX7 iX9 hown hW q rfl g5 (kdF_P g7.1) q0 (nI (B (18 + p))) ((congrFun (e_in (by omega) rfl) 1).trans g7.2.2.1) dX5_sleepNight_59 ?_
  refine r_calli hW hA (va_runV (As := [.int (nI (B 2)), .int (nI (B (18 + p)))]) (rest := []) ⟨hx, hb, hml, hown, hts⟩ (t_X5_owed l D G (ri S h (va_up (gi S h) 1 (nI (slW B p)))) _ hG hP h hh (B 2) (B (18 + p)) (B 3) (B 1) b4 (b9 p hp).1 (b9 p hp).2.1 b5 b3 ((congrFun (e_is _ _ _) 2).trans hR.1.2.2.1) ((congrFun (e_is _ _ _) 4).trans hR.1.2.2.2.2.1)) (cwV 2 hts gX5_sleepNight_X5_owed rfl rfl rfl (by decide +kernel) ⟨Nat.le_of_ble_eq_true rfl, Nat.le_of_ble_eq_true rfl⟩) (r_preV (k := h) hA hW (ci := 4) (C := RX5) (T := TX5) (N := 16) rfl rfl (p_lt hG hh (i := 0) (by decide)) (p_kd hG hh) rfl rfl) rfl rfl hl.1 rfl (lv_room (Nat.le_of_ble_eq_true rfl)) dX5_sleepNight_62 ⟨Nat.zero_le _, Nat.zero_le _⟩) (fun r62 S62 H locs hp62 hW => ?_)
  obtain ⟨hs62, rfl⟩ := hp62
  rw [hs62] at hW
  rw [show ((nI (dueN (B 3) (B 1) (B 2) (B (18 + p)))) : Int32) = (nI (slD B p)) from rfl]
  refine lv_istore (lv' := [(6, .int (nI (slD B p))), (5, .int (nI (slF B p))), (4, .int (nI (min (B (18 + p) * B 1) (B 0)))), (3, .int (nI (B (18 + p) * B 1))), (2, .ref (gA G q)), (0, .ref (gA G h)), (1, .int (nI p))]) hx hb dX5_sleepNight_65 hl (by decide) rfl (fun ls hl => ?_)
  refine lv_aload_n hx hb dX5_sleepNight_67 rfl (lv_at hl 4 rfl) ?_
  refine lv_iload hx hb dX5_sleepNight_68 (lv_at hl 0 rfl) ?_
  refine lv_aload_n hx hb dX5_sleepNight_70 rfl (lv_at hl 5 rfl) ?_
  refine r_geti (ci := 4) (C := RX5) (T := TX5) (N := 16) hx hb hts iX5 hown hW rfl h 1 rfl (p_lt hG hh (i := 0) (by decide)) (p_kd hG hh) (by decide) q2 (fun _ h9 => h9) (nI (slW B p)) (congrFun (e_is _ _ _) 1) rfl rfl dX5_sleepNight_71 ?_
  refine lv_aload_n hx hb dX5_sleepNight_74 rfl (lv_at hl 5 rfl) ?_
  refine r_geti (ci := 4) (C := RX5) (T := TX5) (N := 16) hx hb hts iX5 hown hW rfl h 2 rfl (p_lt hG hh (i := 0) (by decide)) (p_kd hG hh) (by decide) q1 (fun _ h9 => h9) (nI (B 1)) ((congrFun (e_is _ _ _) 2).trans hR.1.2.2.1) rfl rfl dX5_sleepNight_75 ?_
  have K81 : ∀ (H : Heap) (locs : List Loc), Wd D (AW G s.heap.size) s G (ri S h (va_up (gi S h) 1 (nI (slW B p)))) H locs → W pP l eE (headSpec wsX5_sleepNight rmX5_sleepNight).room s mM ([.ref (gA G h), .int (nI p)] : List Value).toArray bl mT cD H locs 0 0 Q0 (F0 mM 81 ls [.int (nI (slL B p))]) := by
    intro H locs hW
    refine lv_istore (lv' := [(7, .int (nI (slL B p))), (6, .int (nI (slD B p))), (5, .int (nI (slF B p))), (4, .int (nI (min (B (18 + p) * B 1) (B 0)))), (3, .int (nI (B (18 + p) * B 1))), (2, .ref (gA G q)), (0, .ref (gA G h)), (1, .int (nI p))]) hx hb dX5_sleepNight_81 hl (by decide) rfl (fun ls hl => ?_)
    refine lv_aload_n hx hb dX5_sleepNight_83 rfl (lv_at hl 6 rfl) ?_
    refine lv_sipush (v := 999) hx hb dX5_sleepNight_84 (by decide) ?_
    refine lv_aload_n hx hb dX5_sleepNight_87 rfl (lv_at hl 6 rfl) ?_
    refine r_geti (ci := 4) (C := RX5) (T := TX5) (N := 16) hx hb hts iX5 hown hW rfl h 1 rfl (p_lt hG hh (i := 0) (by decide)) (p_kd hG hh) (by decide) q2 (fun _ h9 => h9) (nI (slW B p)) (congrFun (e_is _ _ _) 1) rfl rfl dX5_sleepNight_88 ?_
    refine lv_iload hx hb dX5_sleepNight_91 (lv_at hl 0 rfl) ?_
    refine lv_iadd hx hb dX5_sleepNight_93 ?_
    rw [show (((nI (slW B p)) + (nI (slL B p))) : Int32) = (nI (slW B p + slL B p)) from n_add _ _]
    refine va_mmin hx hb (hml.trans hl.1.symm) hown q3 q4 q5 q6 (Nat.le_of_ble_eq_true rfl) (Nat.le_of_ble_eq_true rfl) (Nat.zero_le _) (Nat.zero_le _) dX5_sleepNight_94 ?_
    rw [show ((if (nI (slW B p + slL B p)) < 999 then (nI (slW B p + slL B p)) else 999) : Int32) = (nI (min 999 (slW B p + slL B p))) from n_min (a := 999) (b := (slW B p + slL B p)) (by omega) (by omega)]
    refine r_puti (ci := 4) (C := RX5) (T := TX5) (N := 16) hx hb hts iX5 tyX5 tyX5_ok nmX5 hown hW rfl h 1 rfl (p_lt hG hh (i := 0) (by decide)) (p_kd hG hh) (by decide) q2 (fun _ h9 => h9) rfl (tyX5_ok 1 (by decide)) rfl rfl (ri S h (va_up (gi S h) 1 (nI (min 999 (slW B p + slL B p))))) (va_up (gi S h) 1 (nI (slW B p))) (va_up (gi S h) 1 (nI (min 999 (slW B p + slL B p)))) (e_is _ _ _) (e_is _ _ _) rfl rfl rfl (Nat.le_of_ble_eq_true rfl) rfl c_i dX5_sleepNight_97 (fun H locs hW => ?_)
    refine lv_aload_n hx hb dX5_sleepNight_100 rfl (lv_at hl 6 rfl) ?_
    refine r_getr (ci := 4) (C := RX5) (T := TX5) (N := 16) hx hb hts iX5 hown hW rfl h 11 rfl (p_lt hG hh (i := 0) (by decide)) (p_kd hG hh) (by decide) q8 (fun _ h9 => h9) (p_lk hP hh 2 (by decide)) rfl rfl dX5_sleepNight_101 ?_
    refine lv_iload_n hx hb dX5_sleepNight_104 rfl (lv_at hl 7 rfl) ?_
    refine lv_dup2_11 hx hb dX5_sleepNight_105 rfl rfl ?_
    refine r_iald hx hb hW (h + 3) rfl (p_lt hG hh (i := 3) (by decide)) (p_kdA hG hh 3 (by decide) (by decide)) (by rw [p_z16 hG hh 3 (by decide) (by decide)]; exact n_inI hp16 (by decide)) (nI (B (66 + p))) ((congrFun (e_in (by omega) rfl) _).trans (by rw [n_clamp hp31]; exact (hR.2.2.1 p hp16).1)) dX5_sleepNight_106 ?_
    refine lv_iconst (v := 1) hx hb dX5_sleepNight_107 (by decide) ?_
    refine lv_iadd hx hb dX5_sleepNight_108 ?_
    refine r_iast hx hb hW (h + 3) rfl (p_lt hG hh (i := 3) (by decide)) (p_kdA hG hh 3 (by decide) (by decide)) (by rw [p_z16 hG hh 3 (by decide) (by decide)]; exact n_inI hp16 (by decide)) (ri (ri S h (va_up (gi S h) 1 (nI (min 999 (slW B p + slL B p))))) (h + 3) (va_up (gi S (h + 3)) ((nI p)).toNatClampNeg ((nI (B (66 + p))) + 1))) (gi S (h + 3)) (e_in (by omega) rfl) (e_is _ _ _) rfl rfl c_i0 dX5_sleepNight_109 (fun H locs hW => ?_)
    rw [n_clamp hp31] at hW
    refine lv_aload_n hx hb dX5_sleepNight_110 rfl (lv_at hl 6 rfl) ?_
    refine r_getr (ci := 4) (C := RX5) (T := TX5) (N := 16) hx hb hts iX5 hown hW rfl h 12 rfl (p_lt hG hh (i := 0) (by decide)) (p_kd hG hh) (by decide) q9 (fun _ h9 => h9) (p_lk hP hh 3 (by decide)) rfl rfl dX5_sleepNight_111 ?_
    refine lv_iload_n hx hb dX5_sleepNight_114 rfl (lv_at hl 7 rfl) ?_
    refine lv_dup2_11 hx hb dX5_sleepNight_115 rfl rfl ?_
    refine r_iald hx hb hW (h + 4) rfl (p_lt hG hh (i := 4) (by decide)) (p_kdA hG hh 4 (by decide) (by decide)) (by rw [p_z16 hG hh 4 (by decide) (by decide)]; exact n_inI hp16 (by decide)) (nI (B (82 + p))) ((congrFun (e_in (by omega) (e_in (by omega) rfl)) _).trans (by rw [n_clamp hp31]; exact (hR.2.2.1 p hp16).2.1)) dX5_sleepNight_116 ?_
    refine lv_iload hx hb dX5_sleepNight_117 (lv_at hl 2 rfl) ?_
    refine lv_iadd hx hb dX5_sleepNight_119 ?_
    refine r_iast hx hb hW (h + 4) rfl (p_lt hG hh (i := 4) (by decide)) (p_kdA hG hh 4 (by decide) (by decide)) (by rw [p_z16 hG hh 4 (by decide) (by decide)]; exact n_inI hp16 (by decide)) (ri (ri (ri S h (va_up (gi S h) 1 (nI (min 999 (slW B p + slL B p))))) (h + 3) (va_up (gi S (h + 3)) p ((nI (B (66 + p))) + 1))) (h + 4) (va_up (gi S (h + 4)) ((nI p)).toNatClampNeg ((nI (B (82 + p))) + (nI (slF B p))))) (gi S (h + 4)) (e_in (by omega) (e_in (by omega) rfl)) (e_is _ _ _) rfl rfl c_i0 dX5_sleepNight_120 (fun H locs hW => ?_)
    rw [n_clamp hp31] at hW
    refine lv_aload_n hx hb dX5_sleepNight_121 rfl (lv_at hl 6 rfl) ?_
    refine r_getr (ci := 4) (C := RX5) (T := TX5) (N := 16) hx hb hts iX5 hown hW rfl h 13 rfl (p_lt hG hh (i := 0) (by decide)) (p_kd hG hh) (by decide) q10 (fun _ h9 => h9) (p_lk hP hh 4 (by decide)) rfl rfl dX5_sleepNight_122 ?_
    refine lv_iload_n hx hb dX5_sleepNight_125 rfl (lv_at hl 7 rfl) ?_
    refine lv_dup2_11 hx hb dX5_sleepNight_126 rfl rfl ?_
    refine r_iald hx hb hW (h + 5) rfl (p_lt hG hh (i := 5) (by decide)) (p_kdA hG hh 5 (by decide) (by decide)) (by rw [p_z16 hG hh 5 (by decide) (by decide)]; exact n_inI hp16 (by decide)) (nI (B (98 + p))) ((congrFun (e_in (by omega) (e_in (by omega) (e_in (by omega) rfl))) _).trans (by rw [n_clamp hp31]; exact (hR.2.2.1 p hp16).2.2.1)) dX5_sleepNight_127 ?_
    refine lv_iload hx hb dX5_sleepNight_128 (lv_at hl 0 rfl) ?_
    refine lv_iadd hx hb dX5_sleepNight_130 ?_
    refine r_iast hx hb hW (h + 5) rfl (p_lt hG hh (i := 5) (by decide)) (p_kdA hG hh 5 (by decide) (by decide)) (by rw [p_z16 hG hh 5 (by decide) (by decide)]; exact n_inI hp16 (by decide)) (ri (ri (ri (ri S h (va_up (gi S h) 1 (nI (min 999 (slW B p + slL B p))))) (h + 3) (va_up (gi S (h + 3)) p ((nI (B (66 + p))) + 1))) (h + 4) (va_up (gi S (h + 4)) p ((nI (B (82 + p))) + (nI (slF B p))))) (h + 5) (va_up (gi S (h + 5)) ((nI p)).toNatClampNeg ((nI (B (98 + p))) + (nI (slL B p))))) (gi S (h + 5)) (e_in (by omega) (e_in (by omega) (e_in (by omega) rfl))) (e_is _ _ _) rfl rfl c_i0 dX5_sleepNight_131 (fun H locs hW => ?_)
    rw [n_clamp hp31] at hW
    refine lv_aload_n hx hb dX5_sleepNight_132 rfl (lv_at hl 6 rfl) ?_
    refine r_getr (ci := 4) (C := RX5) (T := TX5) (N := 16) hx hb hts iX5 hown hW rfl h 14 rfl (p_lt hG hh (i := 0) (by decide)) (p_kd hG hh) (by decide) q11 (fun _ h9 => h9) (p_lk hP hh 5 (by decide)) rfl rfl dX5_sleepNight_133 ?_
    refine lv_iload_n hx hb dX5_sleepNight_136 rfl (lv_at hl 7 rfl) ?_
    refine lv_dup2_11 hx hb dX5_sleepNight_137 rfl rfl ?_
    refine r_iald hx hb hW (h + 6) rfl (p_lt hG hh (i := 6) (by decide)) (p_kdA hG hh 6 (by decide) (by decide)) (by rw [p_z16 hG hh 6 (by decide) (by decide)]; exact n_inI hp16 (by decide)) (nI (B (114 + p))) ((congrFun (e_in (by omega) (e_in (by omega) (e_in (by omega) (e_in (by omega) rfl)))) _).trans (by rw [n_clamp hp31]; exact (hR.2.2.1 p hp16).2.2.2)) dX5_sleepNight_138 ?_
    refine lv_iload hx hb dX5_sleepNight_139 (lv_at hl 1 rfl) ?_
    refine lv_iload hx hb dX5_sleepNight_141 (lv_at hl 0 rfl) ?_
    refine lv_isub hx hb dX5_sleepNight_143 ?_
    refine lv_iadd hx hb dX5_sleepNight_144 ?_
    refine r_iast hx hb hW (h + 6) rfl (p_lt hG hh (i := 6) (by decide)) (p_kdA hG hh 6 (by decide) (by decide)) (by rw [p_z16 hG hh 6 (by decide) (by decide)]; exact n_inI hp16 (by decide)) (ri (ri (ri (ri (ri S h (va_up (gi S h) 1 (nI (min 999 (slW B p + slL B p))))) (h + 3) (va_up (gi S (h + 3)) p ((nI (B (66 + p))) + 1))) (h + 4) (va_up (gi S (h + 4)) p ((nI (B (82 + p))) + (nI (slF B p))))) (h + 5) (va_up (gi S (h + 5)) p ((nI (B (98 + p))) + (nI (slL B p))))) (h + 6) (va_up (gi S (h + 6)) ((nI p)).toNatClampNeg ((nI (B (114 + p))) + ((nI (slD B p)) - (nI (slL B p)))))) (gi S (h + 6)) (e_in (by omega) (e_in (by omega) (e_in (by omega) (e_in (by omega) rfl)))) (e_is _ _ _) rfl rfl c_i0 dX5_sleepNight_145 (fun H locs hW => ?_)
    rw [n_clamp hp31] at hW
    refine lv_aload_n hx hb dX5_sleepNight_146 rfl (lv_at hl 6 rfl) ?_
    refine lv_dup hx hb dX5_sleepNight_147 rfl ?_
    refine r_geti (ci := 4) (C := RX5) (T := TX5) (N := 16) hx hb hts iX5 hown hW rfl h 7 rfl (p_lt hG hh (i := 0) (by decide)) (p_kd hG hh) (by decide) q12 (fun _ h9 => h9) (nI (B 130)) ((congrFun (e_in (by omega) (e_in (by omega) (e_in (by omega) (e_in (by omega) (e_is _ _ _))))) 7).trans hR.1.2.2.2.2.2.2.2.1) rfl rfl dX5_sleepNight_148 ?_
    refine lv_iconst (v := 1) hx hb dX5_sleepNight_151 (by decide) ?_
    refine lv_iadd hx hb dX5_sleepNight_152 ?_
    refine r_puti (ci := 4) (C := RX5) (T := TX5) (N := 16) hx hb hts iX5 tyX5 tyX5_ok nmX5 hown hW rfl h 7 rfl (p_lt hG hh (i := 0) (by decide)) (p_kd hG hh) (by decide) q12 (fun _ h9 => h9) rfl (tyX5_ok 7 (by decide)) rfl rfl (ri (ri (ri (ri (ri S h (va_up (va_up (gi S h) 1 (nI (min 999 (slW B p + slL B p)))) 7 ((nI (B 130)) + 1))) (h + 3) (va_up (gi S (h + 3)) p ((nI (B (66 + p))) + 1))) (h + 4) (va_up (gi S (h + 4)) p ((nI (B (82 + p))) + (nI (slF B p))))) (h + 5) (va_up (gi S (h + 5)) p ((nI (B (98 + p))) + (nI (slL B p))))) (h + 6) (va_up (gi S (h + 6)) p ((nI (B (114 + p))) + ((nI (slD B p)) - (nI (slL B p)))))) (va_up (gi S h) 1 (nI (min 999 (slW B p + slL B p)))) (va_up (va_up (gi S h) 1 (nI (min 999 (slW B p + slL B p)))) 7 ((nI (B 130)) + 1)) (e_in (by omega) (e_in (by omega) (e_in (by omega) (e_in (by omega) (e_is _ _ _))))) (e_in (by omega) (e_in (by omega) (e_in (by omega) (e_in (by omega) (e_is _ _ _))))) rfl rfl rfl (Nat.le_of_ble_eq_true rfl) rfl (c_ui (c_ui (c_ui (c_ui c_i)))) dX5_sleepNight_153 (fun H locs hW => ?_)
    refine lv_aload_n hx hb dX5_sleepNight_156 rfl (lv_at hl 6 rfl) ?_
    refine lv_dup hx hb dX5_sleepNight_157 rfl ?_
    refine r_geti (ci := 4) (C := RX5) (T := TX5) (N := 16) hx hb hts iX5 hown hW rfl h 8 rfl (p_lt hG hh (i := 0) (by decide)) (p_kd hG hh) (by decide) q13 (fun _ h9 => h9) (nI (B 131)) ((congrFun (e_in (by omega) (e_in (by omega) (e_in (by omega) (e_in (by omega) (e_is _ _ _))))) 8).trans hR.1.2.2.2.2.2.2.2.2) rfl rfl dX5_sleepNight_158 ?_
    refine lv_iload hx hb dX5_sleepNight_161 (lv_at hl 2 rfl) ?_
    refine lv_iadd hx hb dX5_sleepNight_163 ?_
    refine r_puti (ci := 4) (C := RX5) (T := TX5) (N := 16) hx hb hts iX5 tyX5 tyX5_ok nmX5 hown hW rfl h 8 rfl (p_lt hG hh (i := 0) (by decide)) (p_kd hG hh) (by decide) q13 (fun _ h9 => h9) rfl (tyX5_ok 8 (by decide)) rfl rfl (ri (ri (ri (ri (ri S h (va_up (va_up (va_up (gi S h) 1 (nI (min 999 (slW B p + slL B p)))) 7 ((nI (B 130)) + 1)) 8 ((nI (B 131)) + (nI (slF B p))))) (h + 3) (va_up (gi S (h + 3)) p ((nI (B (66 + p))) + 1))) (h + 4) (va_up (gi S (h + 4)) p ((nI (B (82 + p))) + (nI (slF B p))))) (h + 5) (va_up (gi S (h + 5)) p ((nI (B (98 + p))) + (nI (slL B p))))) (h + 6) (va_up (gi S (h + 6)) p ((nI (B (114 + p))) + ((nI (slD B p)) - (nI (slL B p)))))) (va_up (va_up (gi S h) 1 (nI (min 999 (slW B p + slL B p)))) 7 ((nI (B 130)) + 1)) (va_up (va_up (va_up (gi S h) 1 (nI (min 999 (slW B p + slL B p)))) 7 ((nI (B 130)) + 1)) 8 ((nI (B 131)) + (nI (slF B p)))) (e_in (by omega) (e_in (by omega) (e_in (by omega) (e_in (by omega) (e_is _ _ _))))) (e_in (by omega) (e_in (by omega) (e_in (by omega) (e_in (by omega) (e_is _ _ _))))) rfl rfl rfl (Nat.le_of_ble_eq_true rfl) rfl (c_ui (c_ui (c_ui (c_ui c_i)))) dX5_sleepNight_164 (fun H locs hW => ?_)
    refine lv_iload hx hb dX5_sleepNight_167 (lv_at hl 2 rfl) ?_
    rw [← hQ0]
    refine r_iret hx hb hr hlocks hW ?_ dX5_sleepNight_169
    refine ⟨rfl, _, _, _, _, _, rfl, RP_sl hR hB hp (e_in (by omega) (e_in (by omega) (e_in (by omega) (e_in (by omega) (e_in (by omega) rfl))))) (e_in (by omega) (e_in (by omega) (e_in (by omega) (e_in (by omega) (e_in (by omega) rfl))))) (fun q hq => by simp only [gi_ri]; rw [up_n _ _ (by omega), up_n _ _ (by omega), up_n _ _ (by omega), up_n _ _ (by omega), up_n _ _ (by omega)]) rfl ?_ ?_⟩
    · exact ⟨((congrFun (e_in (by omega) (e_in (by omega) (e_in (by omega) (e_in (by omega) (e_is _ _ _))))) 0).trans ((hR.1.1).trans (congrArg nI (slB_st hp16 (by omega) (by omega)).symm))), ((congrFun (e_in (by omega) (e_in (by omega) (e_in (by omega) (e_in (by omega) (e_is _ _ _))))) 1).trans (by show ((nI (min 999 (slW B p + slL B p))) : Int32) = _; rfl)), ((congrFun (e_in (by omega) (e_in (by omega) (e_in (by omega) (e_in (by omega) (e_is _ _ _))))) 2).trans ((hR.1.2.2.1).trans (congrArg nI (slB_st hp16 (by omega) (by omega)).symm))), ((congrFun (e_in (by omega) (e_in (by omega) (e_in (by omega) (e_in (by omega) (e_is _ _ _))))) 3).trans ((hR.1.2.2.2.1).trans (congrArg nI (slB_st hp16 (by omega) (by omega)).symm))), ((congrFun (e_in (by omega) (e_in (by omega) (e_in (by omega) (e_in (by omega) (e_is _ _ _))))) 4).trans ((hR.1.2.2.2.2.1).trans (congrArg nI (slB_st hp16 (by omega) (by omega)).symm))), ((congrFun (e_in (by omega) (e_in (by omega) (e_in (by omega) (e_in (by omega) (e_is _ _ _))))) 5).trans ((hR.1.2.2.2.2.2.1).trans (congrArg nI (slB_st hp16 (by omega) (by omega)).symm))), ((congrFun (e_in (by omega) (e_in (by omega) (e_in (by omega) (e_in (by omega) (e_is _ _ _))))) 6).trans ((hR.1.2.2.2.2.2.2.1).trans (congrArg nI (slB_st hp16 (by omega) (by omega)).symm))), ((congrFun (e_in (by omega) (e_in (by omega) (e_in (by omega) (e_in (by omega) (e_is _ _ _))))) 7).trans (by show (((nI (B 130)) + 1) : Int32) = _; rw [n_1, n_add]; congr 1; unfold slB; rw [if_neg (by omega), if_neg (by omega), if_neg (by omega), if_neg (by omega), if_neg (by omega), if_pos rfl])), ((congrFun (e_in (by omega) (e_in (by omega) (e_in (by omega) (e_in (by omega) (e_is _ _ _))))) 8).trans (by show (((nI (B 131)) + (nI (slF B p))) : Int32) = _; rw [n_add]; congr 1; unfold slB; rw [if_neg (by omega), if_neg (by omega), if_neg (by omega), if_neg (by omega), if_neg (by omega), if_neg (by omega), if_pos rfl]))⟩
    · intro i hi
      by_cases hip : i = p
      · subst hip
        refine ⟨?_, ?_, ?_, ?_⟩
        · rw [(e_in (by omega) (e_in (by omega) (e_in (by omega) (e_is _ _ _)))), up_s]; rw [n_1, n_add]; congr 1; unfold slB; rw [if_neg (by omega), if_pos rfl]
        · rw [(e_in (by omega) (e_in (by omega) (e_is _ _ _))), up_s]; rw [n_add]; congr 1; unfold slB; rw [if_neg (by omega), if_neg (by omega), if_pos rfl]
        · rw [(e_in (by omega) (e_is _ _ _)), up_s]; rw [n_add]; congr 1; unfold slB; rw [if_neg (by omega), if_neg (by omega), if_neg (by omega), if_pos rfl]
        · rw [(e_is _ _ _), up_s]; rw [n_sub (show slL B _ ≤ slD B _ from lv_le), n_add]; congr 1; unfold slB; rw [if_neg (by omega), if_neg (by omega), if_neg (by omega), if_neg (by omega), if_pos rfl]
      · refine ⟨?_, ?_, ?_, ?_⟩
        · rw [(e_in (by omega) (e_in (by omega) (e_in (by omega) (e_is _ _ _)))), up_n _ _ hip]; refine ((hR.2.2.1 i hi).1).trans (congrArg nI ?_); unfold slB; rw [if_neg (by omega), if_neg (by omega), if_neg (by omega), if_neg (by omega), if_neg (by omega), if_neg (by omega), if_neg (by omega)]
        · rw [(e_in (by omega) (e_in (by omega) (e_is _ _ _))), up_n _ _ hip]; refine ((hR.2.2.1 i hi).2.1).trans (congrArg nI ?_); unfold slB; rw [if_neg (by omega), if_neg (by omega), if_neg (by omega), if_neg (by omega), if_neg (by omega), if_neg (by omega), if_neg (by omega)]
        · rw [(e_in (by omega) (e_is _ _ _)), up_n _ _ hip]; refine ((hR.2.2.1 i hi).2.2.1).trans (congrArg nI ?_); unfold slB; rw [if_neg (by omega), if_neg (by omega), if_neg (by omega), if_neg (by omega), if_neg (by omega), if_neg (by omega), if_neg (by omega)]
        · rw [(e_is _ _ _), up_n _ _ hip]; refine ((hR.2.2.1 i hi).2.2.2).trans (congrArg nI ?_); unfold slB; rw [if_neg (by omega), if_neg (by omega), if_neg (by omega), if_neg (by omega), if_neg (by omega), if_neg (by omega), if_neg (by omega)]
  have hway := (b9 p hp).2.2.1
  have ekd := g7.1
  rcases (show B (34 + p) = 0 ∧ B (18 + p) = 1 ∨ B (34 + p) = 0 ∧ B (18 + p) ≠ 1 ∨ B (34 + p) = 1 ∨ B (34 + p) = 2 ∨ B (34 + p) = 3 by omega) with ⟨z1, z2⟩ | ⟨z1, z2⟩ | z1 | z1 | z1
  · have hkq : gK G q = 3 := by rw [ekd]; simp [kdF, z1, z2]
    refine r_calli hW hA (va_runU (As := [.int (nI (slD B p)), .int (nI (slW B p)), .int (nI (B 1))]) (rest := []) ⟨hx, hb, hml, hown, hts⟩ (t_X2_leaves l D G (ri S h (va_up (gi S h) 1 (nI (slW B p)))) _ q (nI (slD B p)) (nI (slW B p)) (nI (B 1))) (va_cwA 3 hts gX5_sleepNight_X2_leaves_u97X3 rfl rfl rfl (hW.2.2.2.2.2.2.2.2.2.2.2.2.1 ⟨"WoodForTwo$Party", "leaves", "(III)I"⟩ (by decide)) (by decide +kernel) ⟨Nat.le_of_ble_eq_true rfl, Nat.le_of_ble_eq_true rfl⟩) (r_preV (k := q) hA hW (ci := 3) (C := RX3) (T := TX3) (N := 3) rfl rfl g5 hkq rfl rfl) rfl rfl hl.1 rfl (lv_room (Nat.le_of_ble_eq_true rfl)) dX5_sleepNight_78 ⟨Nat.zero_le _, Nat.zero_le _⟩) (fun r78 S78 H locs hp78 hW => ?_)
    obtain ⟨hs78, rfl⟩ := hp78
    rw [hs78] at hW
    rw [show slD B p = slL B p from by unfold slL lvN; rw [if_pos z1]]
    exact K81 _ _ hW
  · have hkq : gK G q = 2 := by rw [ekd]; simp [kdF, z1, z2]
    refine r_calli hW hA (va_runU (As := [.int (nI (slD B p)), .int (nI (slW B p)), .int (nI (B 1))]) (rest := []) ⟨hx, hb, hml, hown, hts⟩ (t_X2_leaves l D G (ri S h (va_up (gi S h) 1 (nI (slW B p)))) _ q (nI (slD B p)) (nI (slW B p)) (nI (B 1))) (va_cwA 3 hts gX5_sleepNight_X2_leaves_u97X2 rfl rfl rfl (hW.2.2.2.2.2.2.2.2.2.2.2.2.1 ⟨"WoodForTwo$Party", "leaves", "(III)I"⟩ (by decide)) (by decide +kernel) ⟨Nat.le_of_ble_eq_true rfl, Nat.le_of_ble_eq_true rfl⟩) (r_preV (k := q) hA hW (ci := 2) (C := RX2) (T := TX2) (N := 3) rfl rfl g5 hkq rfl rfl) rfl rfl hl.1 rfl (lv_room (Nat.le_of_ble_eq_true rfl)) dX5_sleepNight_78 ⟨Nat.zero_le _, Nat.zero_le _⟩) (fun r78 S78 H locs hp78 hW => ?_)
    obtain ⟨hs78, rfl⟩ := hp78
    rw [hs78] at hW
    rw [show slD B p = slL B p from by unfold slL lvN; rw [if_pos z1]]
    exact K81 _ _ hW
  · have hkq : gK G q = 1 := by rw [ekd]; simp [kdF, z1]
    refine r_calli hW hA (va_runU (As := [.int (nI (slD B p)), .int (nI (slW B p)), .int (nI (B 1))]) (rest := []) ⟨hx, hb, hml, hown, hts⟩ (t_X1_leaves l D G (ri S h (va_up (gi S h) 1 (nI (slW B p)))) _ q (nI (slD B p)) (nI (slW B p)) (nI (B 1))) (va_cwA 3 hts gX5_sleepNight_X1_leaves_u97X1 rfl rfl rfl (hW.2.2.2.2.2.2.2.2.2.2.2.2.1 ⟨"WoodForTwo$Party", "leaves", "(III)I"⟩ (by decide)) (by decide +kernel) ⟨Nat.le_of_ble_eq_true rfl, Nat.le_of_ble_eq_true rfl⟩) (r_preV (k := q) hA hW (ci := 1) (C := RX1) (T := TX1) (N := 3) rfl rfl g5 hkq rfl rfl) rfl rfl hl.1 rfl (lv_room (Nat.le_of_ble_eq_true rfl)) dX5_sleepNight_78 ⟨Nat.zero_le _, Nat.zero_le _⟩) (fun r78 S78 H locs hp78 hW => ?_)
    obtain ⟨hs78, rfl⟩ := hp78
    rw [hs78] at hW
    rw [show nI (slD B p) / 2 = nI (slL B p) from by rw [show nI (slD B p) / 2 = nI (slD B p / 2) from n_div (d := 2) (by omega) (by decide) (by decide)]; unfold slL lvN; rw [if_neg (by omega), if_pos z1]]
    exact K81 _ _ hW
  · have hkq : gK G q = 6 := by rw [ekd]; simp [kdF, z1]
    refine r_calli hW hA (va_runU (As := [.int (nI (slD B p)), .int (nI (slW B p)), .int (nI (B 1))]) (rest := []) ⟨hx, hb, hml, hown, hts⟩ (t_X7_leaves l D G (ri S h (va_up (gi S h) 1 (nI (slW B p)))) _ q (nI (slD B p)) (nI (slW B p)) (nI (B 1))) (va_cwA 3 hts gX5_sleepNight_X7_leaves_u97X7 rfl rfl rfl (hW.2.2.2.2.2.2.2.2.2.2.2.2.1 ⟨"WoodForTwo$Party", "leaves", "(III)I"⟩ (by decide)) (by decide +kernel) ⟨Nat.le_of_ble_eq_true rfl, Nat.le_of_ble_eq_true rfl⟩) (r_preV (k := q) hA hW (ci := 6) (C := RX7) (T := TX7) (N := 3) rfl rfl g5 hkq rfl rfl) rfl rfl hl.1 rfl (lv_room (Nat.le_of_ble_eq_true rfl)) dX5_sleepNight_78 ⟨Nat.zero_le _, Nat.zero_le _⟩) (fun r78 S78 H locs hp78 hW => ?_)
    obtain ⟨hs78, rfl⟩ := hp78
    rw [hs78] at hW
    rw [show (0 : Int32) = nI (slL B p) from by unfold slL lvN; rw [if_neg (by omega), if_neg (by omega), if_neg (by omega)]; rfl]
    exact K81 _ _ hW
  · have hkq : gK G q = 8 := by rw [ekd]; simp [kdF, z1]
    refine r_calli hW hA (va_runU (As := [.int (nI (slD B p)), .int (nI (slW B p)), .int (nI (B 1))]) (rest := []) ⟨hx, hb, hml, hown, hts⟩ (t_X9_leaves l D G (ri S h (va_up (gi S h) 1 (nI (slW B p)))) _ q g5 hkq (B (50 + p)) (slD B p) (slW B p) (B 1) (b9 p hp).2.2.2 hD (by unfold slW; omega) b3 ((congrFun (e_in (by omega) rfl) 2).trans g7.2.2.2)) (va_cwA 3 hts gX5_sleepNight_X9_leaves_u97X9 rfl rfl rfl (hW.2.2.2.2.2.2.2.2.2.2.2.2.1 ⟨"WoodForTwo$Party", "leaves", "(III)I"⟩ (by decide)) (by decide +kernel) ⟨Nat.le_of_ble_eq_true rfl, Nat.le_of_ble_eq_true rfl⟩) (r_preV (k := q) hA hW (ci := 8) (C := RX9) (T := TX9) (N := 3) rfl rfl g5 hkq rfl rfl) rfl rfl hl.1 rfl (lv_room (Nat.le_of_ble_eq_true rfl)) dX5_sleepNight_78 ⟨Nat.zero_le _, Nat.zero_le _⟩) (fun r78 S78 H locs hp78 hW => ?_)
    obtain ⟨hs78, rfl⟩ := hp78
    rw [hs78] at hW
    rw [show lvN 3 (B (50 + p)) (slD B p) (slW B p) (B 1) = slL B p from by unfold slL; rw [z1]]
    exact K81 _ _ hW
