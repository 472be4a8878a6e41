def rmX0_bestNight : Jvm.Room := { frames := 3, cells := 0, slots := 0, locals := 65 }
set_option maxHeartbeats 4000000 in
set_option maxRecDepth 100000 in
theorem t_X0_bestNight (l : Launch) (D : Dc) (G : Gg) (S : Sg) (z : Nat) (hG : GrG G) (hP : GrP G S) (B : Nat → Nat) (c : Nat) (hB1 : BP1 B c) (law n0 : Nat) (hl2 : law ≤ 2) (hn1 : 1 ≤ n0) (hn8 : n0 ≤ 8) (hFs : FTs S B law n0) (hFr : FTr S B law n0 (n0 + 1)) (nw : Nat) (hnw : NwR nw) (hN4 : gp S 14 4 = some (gA G nw)) (hN5 : gp S 14 5 = some (gA G (57 - nw))) (w0 x : Nat) (hw9 : w0 ≤ 999) (hx9 : x ≤ 99) : MI l yX0_bestNight wsX0_bestNight rmX0_bestNight D G S z [.ref (gA G 14), .int (nI w0), .int (nI x)] (fun r S' => r = nI ((amx (fun j => fCut B law n0 x j w0) n0).1 + 1) ∧ ChN S S' ∧ ∃ nk, NwR nk ∧ gp S' 14 4 = some (gA G nk) ∧ gp S' 14 5 = some (gA G (57 - nk))) := by
  refine Met.ofW (cc := cX0_bestNight) (maxL := 9) (ret := (some .int)) (by decide +kernel) rfl ?_
  intro pP eE s mM args bl mT cD s₁ bD hml hv
  obtain ⟨rfl, hv⟩ := hv
  have hz := hv.1
  subst hz
  have hx := bD.exec
  have hb := bD.bytes
  have hr := bD.returns
  have hts := atoms_spec (ws := wsX0_bestNight) bD.pre
  have hown : s.vm.findClass RX0 = some mM.cls := findClass_of_methodNamed bD.named
  have hlocks := bD.notSynchronized
  have hW := Wd.start hv
  have hA : ∀ q, s.heap.size ≤ q → AW G s.heap.size q := fun q h => Or.inr h
  have hl := lv_entry ([.ref (gA G 14), .int (nI w0), .int (nI x)]) (n := 9) (Nat.le_of_ble_eq_true rfl)
  rw [lg_entry_eq]
  generalize (lg_sl ([.ref (gA G 14), .int (nI w0), .int (nI x)]) ++ List.replicate (9 - (lg_sl ([.ref (gA G 14), .int (nI w0), .int (nI x)])).length) Slot.unset).toArray = ls at hl ⊢
  have hl : lv_has ls 9 [(0, .ref (gA G 14)), (1, .int (nI w0)), (2, .int (nI x))] := hl
  have q0 := hts (.fieldLink RX0 26 "WoodForTwo$Foretelling" "now" "[J") (List.mem_of_getElem? (i := 1) rfl)
  have q1 := hts (.fieldLink RX0 43 "WoodForTwo$Foretelling" "enough" "I") (List.mem_of_getElem? (i := 2) rfl)
  have q2 := hts (.methodLink RX0 85 Lib.Math.min.name) (List.mem_of_getElem? (i := 3) rfl)
  have q3 := hts (.static Lib.Math.min.name) (List.mem_of_getElem? (i := 4) rfl)
  have q4 := hts (.initialized "java/lang/Math") (List.mem_of_getElem? (i := 5) rfl)
  have q5 := hts (.code Lib.Math.min.name Lib.Math.min.code 2 (some .int)) (List.mem_of_getElem? (i := 6) rfl)
  have q6 := hts (.constantLong RX0 88 (-1)) (List.mem_of_getElem? (i := 7) rfl)
  have q7 := hts (.fieldLink RX0 57 "WoodForTwo$Foretelling" "nights" "I") (List.mem_of_getElem? (i := 8) rfl)
  have q8 := hts (.fieldLink RX0 13 "WoodForTwo$Foretelling" "waysFree" "[[J") (List.mem_of_getElem? (i := 9) rfl)
  have iX0 : ∀ w ∈ wsX00, w ∈ wsX0_bestNight := fun _ h => List.mem_cons_of_mem _ (List.mem_append_right _ (h))
  generalize hQ0 : MQ bl _ _ s _ _ _ = Q0
  have hE9 := enF_le (n := n0) hB1 hl2 hn8
  obtain ⟨F, hF⟩ : ∃ F : Nat → Nat, F = (fun j => fCut B law n0 x j w0) := ⟨_, rfl⟩
  have hFj : ∀ j, F j = fCut B law n0 x j w0 := fun j => by rw [hF]
  refine lv_aload_n hx hb dX0_bestNight_0 rfl (lv_at hl 0 rfl) ?_
  refine r_getr (ci := 0) (C := RX0) (T := TX0) (N := 10) hx hb hts iX0 hown hW rfl 14 4 rfl (g_lt hG (by decide)) (g_kd hG (by decide) rfl) (by decide) q0 (fun _ h9 => h9) hN4 rfl rfl dX0_bestNight_1 ?_
  refine lv_lconst (v := 0) hx hb dX0_bestNight_4 (by decide) ?_
  refine r_callv hW hA (va_runS (As := [.ref (gA G nw), .long 0]) (rest := []) ⟨hx, hb, hml, hown, hts⟩ (t_J7_fill_d0a16 l D G S _ nw 649 (nw_lt hG hnw) (nw_kd hG hnw) (nw_z hG hnw) (by decide) 0) (va_cwS 2 hts gX0_bestNight_J7_fill_d0a16 rfl rfl rfl (by decide +kernel) ⟨Nat.le_of_ble_eq_true rfl, Nat.le_of_ble_eq_true rfl⟩) (r_preS hA hW) rfl rfl hl.1 rfl (lv_room (Nat.le_of_ble_eq_true rfl)) dX0_bestNight_5 ⟨Nat.zero_le _, Nat.zero_le _⟩) (fun S5 H locs hp5 hW => ?_)
  rw [hp5, show gj S nw = (gj S nw) from rfl] at hW
  refine lv_aload_n hx hb dX0_bestNight_8 rfl (lv_at hl 0 rfl) ?_
  refine r_getr (ci := 0) (C := RX0) (T := TX0) (N := 10) hx hb hts iX0 hown hW rfl 14 4 rfl (g_lt hG (by decide)) (g_kd hG (by decide) rfl) (by decide) q0 (fun _ h9 => h9) hN4 rfl rfl dX0_bestNight_9 ?_
  refine lv_aload_n hx hb dX0_bestNight_12 rfl (lv_at hl 0 rfl) ?_
  refine r_geti (ci := 0) (C := RX0) (T := TX0) (N := 10) hx hb hts iX0 hown hW rfl 14 8 rfl (g_lt hG (by decide)) (g_kd hG (by decide) rfl) (by decide) q1 (fun _ h9 => h9) (nI (enF B law n0)) hFs.2.2.1 rfl rfl dX0_bestNight_13 ?_
  refine lv_iload_n hx hb dX0_bestNight_16 rfl (lv_at hl 1 rfl) ?_
  refine va_mmin hx hb (hml.trans hl.1.symm) hown q2 q3 q4 q5 (Nat.le_of_ble_eq_true rfl) (Nat.le_of_ble_eq_true rfl) (Nat.zero_le _) (Nat.zero_le _) dX0_bestNight_17 ?_
  rw [show ((if (nI w0) < (nI (enF B law n0)) then (nI w0) else (nI (enF B law n0))) : Int32) = (nI (min (enF B law n0) w0)) from n_min (a := (enF B law n0)) (b := w0) (by omega) (by omega)]
  refine lv_lconst (v := 1) hx hb dX0_bestNight_20 (by decide) ?_
  refine r_last hx hb hW nw rfl (nw_lt hG hnw) (nw_kd hG hnw) (by rw [nw_z hG hnw]; exact n_inI (by omega) (by decide)) (rj S nw (va_up (flR (gj S nw) 649 0) ((nI (min (enF B law n0) w0))).toNatClampNeg 1)) (flR (gj S nw) 649 0) (e_js _ _ _) (e_js _ _ _) rfl rfl c_j dX0_bestNight_21 (fun H locs hW => ?_)
  rw [show ((nI (min (enF B law n0) w0))).toNatClampNeg = (min (enF B law n0) w0) from n_clamp (by omega)] at hW
  refine lv_iconst (v := 1) hx hb dX0_bestNight_22 (by decide) ?_
  refine lv_istore_n (lv' := [(3, .int 1), (0, .ref (gA G 14)), (1, .int (nI w0)), (2, .int (nI x))]) hx hb dX0_bestNight_23 rfl hl (by decide) rfl (fun ls hl => ?_)
  refine lv_ldc2 (v := (-1)) hx hb hown q6 dX0_bestNight_24 ?_
  refine lv_lstore (lv' := [(4, .long (-1)), (3, .int 1), (0, .ref (gA G 14)), (1, .int (nI w0)), (2, .int (nI x))]) hx hb dX0_bestNight_27 hl (by decide) rfl (fun ls hl => ?_)
  refine lv_iconst (v := 1) hx hb dX0_bestNight_29 (by decide) ?_
  refine lv_istore (lv' := [(6, .int 1), (4, .long (-1)), (3, .int 1), (0, .ref (gA G 14)), (1, .int (nI w0)), (2, .int (nI x))]) hx hb dX0_bestNight_30 hl (by decide) rfl (fun ls hl => ?_)
  have L32 : ∀ (n : Nat) (j : Nat) (T : Sg) (nk : Nat) (r1 : Nat → Nat) (H : Heap) (locs : List Loc) (ls : Array Slot), (n0 - j) < n → j ≤ n0 → ChN S T → NwR nk → gp T 14 4 = some (gA G nk) → gp T 14 5 = some (gA G (57 - nk)) → (∀ v, v ≤ (enF B law n0) → gj T nk v = lN (r1 v)) → (∀ g, dot ((enF B law n0) + 1) r1 g = NN (Qc B law) (enF B law n0) g j (min (enF B law n0) w0)) → Wd D (AW G s.heap.size) s G T H locs → lv_has ls 9 [(6, .int (nI (j + 1))), (3, .int (nI ((amx F j).1 + 1))), (4, .long (mI (amx F j).2)), (0, .ref (gA G 14)), (2, .int (nI x))] → W pP l eE (headSpec wsX0_bestNight rmX0_bestNight).room s mM ([.ref (gA G 14), .int (nI w0), .int (nI x)] : List Value).toArray bl mT cD H locs 0 0 Q0 (F0 mM 32 ls []) := by
    intro n
    induction n with
    | zero => intro j T nk r1 H locs ls hm; exact absurd hm (Nat.not_lt_zero _)
    | succ n ih32 =>
      intro j T nk r1 H locs ls hm32 hj hCT hnk hT4 hT5 hnow1 hd1 hW hl
      have hP_T : GrP G T := ChN.P hP hCT
      have hFsT := ChN.fs hFs hCT
      have hFrT := ChN.fr hFr (by omega) hCT
      refine lv_iload hx hb dX0_bestNight_32 (lv_at hl 0 rfl) ?_
      refine lv_aload_n hx hb dX0_bestNight_34 rfl (lv_at hl 3 rfl) ?_
      refine r_geti (ci := 0) (C := RX0) (T := TX0) (N := 10) hx hb hts iX0 hown hW rfl 14 7 rfl (g_lt hG (by decide)) (g_kd hG (by decide) rfl) (by decide) q7 (fun _ h9 => h9) (nI n0) hFsT.2.1 rfl rfl dX0_bestNight_35 ?_
      refine lv_icmp_gt (tgt := 87) hx hb dX0_bestNight_38 (by decide) (fun c38 => ?_) (fun c38 => ?_)
      · skip
        have hjn : j = n0 := by
          have h9 := (n_lt (a := n0) (b := j + 1) (by omega) (by omega)).mp c38
          omega
        refine lv_iload_n hx hb dX0_bestNight_87 rfl (lv_at hl 1 rfl) ?_
        rw [← hQ0]
        refine r_iret hx hb hr hlocks hW ?_ dX0_bestNight_88
        subst hjn
        rw [hF]
        exact ⟨rfl, hCT, nk, hnk, hT4, hT5⟩
      · skip
        have hjn : j < n0 := by
          have h9 : ¬ n0 < j + 1 := fun z => c38 ((n_lt (a := n0) (b := j + 1) (by omega) (by omega)).mpr z)
          omega
        refine lv_aload_n hx hb dX0_bestNight_41 rfl (lv_at hl 3 rfl) ?_
        refine lv_aload_n hx hb dX0_bestNight_42 rfl (lv_at hl 3 rfl) ?_
        refine r_getr (ci := 0) (C := RX0) (T := TX0) (N := 10) hx hb hts iX0 hown hW rfl 14 0 rfl (g_lt hG (by decide)) (g_kd hG (by decide) rfl) (by decide) q8 (fun _ h9 => h9) (hP_T _ (List.mem_of_getElem? (i := 16) rfl)) rfl rfl dX0_bestNight_43 ?_
        refine lv_aload_n hx hb dX0_bestNight_46 rfl (lv_at hl 3 rfl) ?_
        refine r_geti (ci := 0) (C := RX0) (T := TX0) (N := 10) hx hb hts iX0 hown hW rfl 14 7 rfl (g_lt hG (by decide)) (g_kd hG (by decide) rfl) (by decide) q7 (fun _ h9 => h9) (nI n0) hFsT.2.1 rfl rfl dX0_bestNight_47 ?_
        refine lv_iload hx hb dX0_bestNight_50 (lv_at hl 0 rfl) ?_
        refine lv_isub hx hb dX0_bestNight_52 ?_
        rw [show (((nI n0) - (nI (j + 1))) : Int32) = (nI (n0 - (j + 1))) from n_sub (by omega)]
        refine lv_iconst (v := 1) hx hb dX0_bestNight_53 (by decide) ?_
        refine lv_iadd hx hb dX0_bestNight_54 ?_
        rw [show (((nI (n0 - (j + 1))) + 1) : Int32) = (nI (n0 - j)) from by rw [nI_1]; congr 1; omega]
        refine r_aald hx hb hW 15 rfl (g_lt hG (by decide)) 17 6 (g_kd hG (by decide) rfl) rfl rfl (fun _ _ _ _ => rfl) (g_ix hG (c := 9) (by decide) rfl (n_inI (by omega) (by decide))) (some (gA G (16 + (n0 - j)))) (by rw [n_clamp (by omega)]; exact wf_lk hP_T (by omega)) dX0_bestNight_55 ?_
        refine W.eq (g2 := F0 mM 56 ls [.ref (gA G (16 + (n0 - j))), .ref (gA G 14)]) rfl ?_
        refine lv_iload_n hx hb dX0_bestNight_56 rfl (lv_at hl 4 rfl) ?_
        refine r_calll hW hA (va_runV (As := [.ref (gA G (16 + (n0 - j))), .int (nI x)]) (rest := []) ⟨hx, hb, hml, hown, hts⟩ (t_X0_waysWithCut l D G T _ hG hP_T B c hB1 law n0 hl2 hn1 hn8 hFsT hFrT nk hnk hT4 hT5 r1 hnow1 (n0 - j) (by omega) (NN (Qc B law) (enF B law n0) (fun _ => 1) (n0 - j)) (fun v hv => hFrT (n0 - j) (by omega) v hv) x hx9) (cwV 2 hts gX0_bestNight_X0_waysWithCut rfl rfl rfl (by decide +kernel) ⟨Nat.le_of_ble_eq_true rfl, Nat.le_of_ble_eq_true rfl⟩) (r_preV (k := 14) hA hW (ci := 0) (C := RX0) (T := TX0) (N := 10) rfl rfl (g_lt hG (by decide)) (g_kd hG (by decide) rfl) rfl rfl) rfl rfl hl.1 rfl (lv_room (Nat.le_of_ble_eq_true rfl)) dX0_bestNight_57 ⟨Nat.zero_le _, Nat.zero_le _⟩) (fun r57 S57 H locs hp57 hW => ?_)
        obtain ⟨rfl, hs57⟩ := hp57
        rw [hs57] at hW
        rw [show ((lN (dot ((enF B law n0) + 1) r1 (fun v => NN (Qc B law) (enF B law n0) (fun _ => 1) (n0 - j) (min (enF B law n0) (v + x))))) : Int64) = lN (F j) from by rw [hd1, fCut_cap hB1 hl2 hn8 (by omega) hw9, hFj]]
        have hfj : F j ≤ 72301961339136 := by rw [hFj]; exact fCut_le hB1 hl2 hn8 (by omega)
        have hax := amx_b (f := F) (M := 72301961339136) j (fun i hi => by rw [hFj]; exact fCut_le hB1 hl2 hn8 (by omega))
        refine lv_lstore (lv' := [(7, .long (lN (F j))), (6, .int (nI (j + 1))), (3, .int (nI ((amx F j).1 + 1))), (4, .long (mI (amx F j).2)), (0, .ref (gA G 14)), (2, .int (nI x))]) hx hb dX0_bestNight_60 hl (by decide) rfl (fun ls hl => ?_)
        refine lv_lload hx hb dX0_bestNight_62 (lv_at hl 0 rfl) ?_
        refine lv_lload hx hb dX0_bestNight_64 (lv_at hl 3 rfl) ?_
        refine W.lcmp hx hb dX0_bestNight_66 ?_
        refine lv_if_le (tgt := 77) hx hb dX0_bestNight_67 (by decide) (fun c67 => ?_) (fun c67 => ?_)
        · skip
          rw [lc_le] at c67
          rw [lN_int (by omega), mI_int hax.1 (by omega)] at c67
          have eM : amx F (j + 1) = amx F j := by show (if _ then _ else _) = _; rw [if_neg (by omega)]
          have em : (mI (amx F j).2) = mI (amx F (j + 1)).2 := by rw [eM]
          have eb : (nI ((amx F j).1 + 1)) = nI ((amx F (j + 1)).1 + 1) := by rw [eM]
          have hl : lv_has ls 9 [(7, .long (lN (F j))), (6, .int (nI (j + 1))), (3, .int (nI ((amx F (j + 1)).1 + 1))), (4, .long (mI (amx F (j + 1)).2)), (0, .ref (gA G 14)), (2, .int (nI x))] := by rw [← em, ← eb]; exact hl
          refine lv_aload_n hx hb dX0_bestNight_77 rfl (lv_at hl 4 rfl) ?_
          have hbd : ∀ v, v ≤ (enF B law n0) → r1 v < 9223372036854775808 := fun v hv => by
            have a1 := dot_le (r := r1) (n := (enF B law n0) + 1) (v := v) (by omega)
            rw [hd1] at a1
            have a2 := NN_le (Q := (Qc B law)) (C := (enF B law n0)) (v := 1) (f := fun _ => 1) (fun _ => Nat.le_refl _) j (min (enF B law n0) w0)
            rw [Nat.mul_one] at a2
            have a3 := pow_54 (t := tot (Qc B law)) (k := j) (tot_le hB1 hl2) (by omega)
            omega
          refine r_callv hW hA (va_runV (As := []) (rest := []) ⟨hx, hb, hml, hown, hts⟩ (t_X0_sleepOne l D G T _ hG hP_T B c hB1 law n0 hl2 hn1 hn8 hFsT hFrT nk hnk hT4 hT5 r1 hnow1 hbd) (cwV 0 hts gX0_bestNight_X0_sleepOne rfl rfl rfl (by decide +kernel) ⟨Nat.le_of_ble_eq_true rfl, Nat.le_of_ble_eq_true rfl⟩) (r_preV (k := 14) hA hW (ci := 0) (C := RX0) (T := TX0) (N := 10) rfl rfl (g_lt hG (by decide)) (g_kd hG (by decide) rfl) rfl rfl) rfl rfl hl.1 rfl (lv_room (Nat.le_of_ble_eq_true rfl)) dX0_bestNight_78 ⟨Nat.zero_le _, Nat.zero_le _⟩) (fun S78 H locs hp78 hW => ?_)
          obtain ⟨r78, hnow78, hd78, hA78, hB78, hC78⟩ := hp78
          refine lv_iinc (v := (nI (j + 1 + 1))) (lv' := [(6, .int (nI (j + 1 + 1))), (7, .long (lN (F j))), (3, .int (nI ((amx F (j + 1)).1 + 1))), (4, .long (mI (amx F (j + 1)).2)), (0, .ref (gA G 14)), (2, .int (nI x))]) hx hb dX0_bestNight_81 hl (k := 1) rfl (nI_1 (j + 1)) (by decide) rfl (fun ls hl => ?_)
          refine lv_goto (tgt := 32) hx hb dX0_bestNight_84 (by decide) ?_
          exact ih32 (j + 1) S78 (57 - nk) r78 _ _ ls (by omega) (by omega) (ChN.tr hCT hC78) (nwc hnk) hA78 (by rw [show 57 - (57 - nk) = nk by rcases hnk with z | z <;> omega]; exact hB78) hnow78 (fun g => by rw [hd78 g, hd1]; exact congrFun (NN_shift _ _ _ _) _) hW (lv_sub hl [0, 2, 3, 4, 5] rfl)
        · skip
          rw [lc_le] at c67
          rw [lN_int (by omega), mI_int hax.1 (by omega)] at c67
          refine lv_lload hx hb dX0_bestNight_70 (lv_at hl 0 rfl) ?_
          refine lv_lstore (lv' := [(4, .long (lN (F j))), (7, .long (lN (F j))), (6, .int (nI (j + 1))), (3, .int (nI ((amx F j).1 + 1))), (0, .ref (gA G 14)), (2, .int (nI x))]) hx hb dX0_bestNight_72 hl (by decide) rfl (fun ls hl => ?_)
          refine lv_iload hx hb dX0_bestNight_74 (lv_at hl 2 rfl) ?_
          refine lv_istore_n (lv' := [(3, .int (nI (j + 1))), (4, .long (lN (F j))), (7, .long (lN (F j))), (6, .int (nI (j + 1))), (0, .ref (gA G 14)), (2, .int (nI x))]) hx hb dX0_bestNight_76 rfl hl (by decide) rfl (fun ls hl => ?_)
          have eM : amx F (j + 1) = (j, (F j : Int)) := by show (if _ then _ else _) = _; rw [if_pos (by omega)]
          have em : (lN (F j)) = mI (amx F (j + 1)).2 := by rw [eM]; unfold mI; rw [if_neg (by dsimp only; omega)]; rfl
          have eb : (nI (j + 1)) = nI ((amx F (j + 1)).1 + 1) := by rw [eM]
          have hl : lv_has ls 9 [(3, .int (nI ((amx F (j + 1)).1 + 1))), (4, .long (mI (amx F (j + 1)).2)), (7, .long (lN (F j))), (6, .int (nI (j + 1))), (0, .ref (gA G 14)), (2, .int (nI x))] := by rw [← em, ← eb]; exact hl
          refine lv_aload_n hx hb dX0_bestNight_77 rfl (lv_at hl 4 rfl) ?_
          have hbd : ∀ v, v ≤ (enF B law n0) → r1 v < 9223372036854775808 := fun v hv => by
            have a1 := dot_le (r := r1) (n := (enF B law n0) + 1) (v := v) (by omega)
            rw [hd1] at a1
            have a2 := NN_le (Q := (Qc B law)) (C := (enF B law n0)) (v := 1) (f := fun _ => 1) (fun _ => Nat.le_refl _) j (min (enF B law n0) w0)
            rw [Nat.mul_one] at a2
            have a3 := pow_54 (t := tot (Qc B law)) (k := j) (tot_le hB1 hl2) (by omega)
            omega
          refine r_callv hW hA (va_runV (As := []) (rest := []) ⟨hx, hb, hml, hown, hts⟩ (t_X0_sleepOne l D G T _ hG hP_T B c hB1 law n0 hl2 hn1 hn8 hFsT hFrT nk hnk hT4 hT5 r1 hnow1 hbd) (cwV 0 hts gX0_bestNight_X0_sleepOne rfl rfl rfl (by decide +kernel) ⟨Nat.le_of_ble_eq_true rfl, Nat.le_of_ble_eq_true rfl⟩) (r_preV (k := 14) hA hW (ci := 0) (C := RX0) (T := TX0) (N := 10) rfl rfl (g_lt hG (by decide)) (g_kd hG (by decide) rfl) rfl rfl) rfl rfl hl.1 rfl (lv_room (Nat.le_of_ble_eq_true rfl)) dX0_bestNight_78 ⟨Nat.zero_le _, Nat.zero_le _⟩) (fun S78 H locs hp78 hW => ?_)
          obtain ⟨r78, hnow78, hd78, hA78, hB78, hC78⟩ := hp78
          refine lv_iinc (v := (nI (j + 1 + 1))) (lv' := [(6, .int (nI (j + 1 + 1))), (3, .int (nI ((amx F (j + 1)).1 + 1))), (4, .long (mI (amx F (j + 1)).2)), (7, .long (lN (F j))), (0, .ref (gA G 14)), (2, .int (nI x))]) hx hb dX0_bestNight_81 hl (k := 3) rfl (nI_1 (j + 1)) (by decide) rfl (fun ls hl => ?_)
          refine lv_goto (tgt := 32) hx hb dX0_bestNight_84 (by decide) ?_
          exact ih32 (j + 1) S78 (57 - nk) r78 _ _ ls (by omega) (by omega) (ChN.tr hCT hC78) (nwc hnk) hA78 (by rw [show 57 - (57 - nk) = nk by rcases hnk with z | z <;> omega]; exact hB78) hnow78 (fun g => by rw [hd78 g, hd1]; exact congrFun (NN_shift _ _ _ _) _) hW (lv_sub hl [0, 1, 2, 4, 5] rfl)
  exact L32 _ 0 (rj S nw (va_up (flR (gj S nw) 649 0) (min (enF B law n0) w0) 1)) nw (fun v => if v = min (enF B law n0) w0 then 1 else 0) _ _ ls (Nat.lt_succ_self _) (Nat.zero_le _) ⟨fun _ => rfl, fun k hk => e_jn (by rcases hnw with z | z <;> omega) rfl, fun _ _ => rfl, fun _ _ _ => rfl⟩ hnw hN4 hN5 (fun v hv => by
                                                                                rw [show gj (rj S nw (va_up (flR (gj S nw) 649 0) (min (enF B law n0) w0) 1)) nw = _ from e_js _ _ _]
                                                                                by_cases ev : v = min (enF B law n0) w0
                                                                                · rw [ev, up_s, if_pos rfl]; rfl
                                                                                · rw [up_n _ _ ev, if_neg ev]; unfold flR; rw [if_pos (by omega)]; rfl) (fun g => dot_1 (by omega)) hW (lv_sub hl [0, 2, 1, 3, 5] rfl)
