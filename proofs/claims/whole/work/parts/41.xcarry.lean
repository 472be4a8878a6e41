def rmX10_send : Jvm.Room := { frames := 4, cells := 0, slots := 0, locals := 93 }
set_option maxHeartbeats 4000000 in
set_option maxRecDepth 100000 in
theorem t_X10_send (l : Launch) (D : Dc) (G : Gg) (S : Sg) (z : Nat) (hG : GrG G) (hP : GrP G S) (h : Nat) (hh : PassR h) (hH : gp S 0 7 = some (gA G h)) (B : Nat → Nat) (c : Nat) (hB : BP B c) (hc : c < 100000) (hR : RP G S h B) (nw : Nat) (hnw : NwR nw) (hN4 : gp S 14 4 = some (gA G nw)) (hN5 : gp S 14 5 = some (gA G (57 - nw))) (a1 a2 : Int32) : ML l yX10_send wsX10_send rmX10_send D G S z [.ref (gA G 0), .int a1, .int a2] (fun r S' => r = fSend B a1 a2 ∧ ChF G S S') := by
  refine Met.ofW (cc := cX10_send) (maxL := 3) (ret := (some .long)) (by decide +kernel) rfl ?_
  intro pP eE s mM args bl mT cD s₁ bD hml hv
  obtain ⟨rfl, hv⟩ := hv
  have hz := hv.1
  subst hz
  have hx := bD.exec
  have hb := bD.bytes
  have hr := bD.returns
  have hts := atoms_spec (ws := wsX10_send) bD.pre
  have hown : s.vm.findClass RX10 = some mM.cls := findClass_of_methodNamed bD.named
  have hlocks := bD.notSynchronized
  have hW := Wd.start hv
  have hA : ∀ q, s.heap.size ≤ q → AW G s.heap.size q := fun q h => Or.inr h
  have hl := lv_entry ([.ref (gA G 0), .int a1, .int a2]) (n := 3) (Nat.le_of_ble_eq_true rfl)
  rw [lg_entry_eq]
  generalize (lg_sl ([.ref (gA G 0), .int a1, .int a2]) ++ List.replicate (3 - (lg_sl ([.ref (gA G 0), .int a1, .int a2])).length) Slot.unset).toArray = ls at hl ⊢
  have hl : lv_has ls 3 [(0, .ref (gA G 0)), (1, .int a1), (2, .int a2)] := hl
  have q0 := hts (.fieldLink RX10 49 "WoodForTwo" "here" "LWoodForTwo$Pass;") (List.mem_of_getElem? (i := 1) rfl)
  have q1 := hts (.fieldLink RX10 116 "WoodForTwo$Pass" "stands" "Z") (List.mem_of_getElem? (i := 2) rfl)
  have q2 := hts (.constantLong RX10 66 (-9000000000000000001)) (List.mem_of_getElem? (i := 4) rfl)
  have q3 := hts (.fieldLink RX10 175 "WoodForTwo$Pass" "chances" "I") (List.mem_of_getElem? (i := 5) rfl)
  have q4 := hts (.fieldLink RX10 31 "WoodForTwo" "foretelling" "LWoodForTwo$Foretelling;") (List.mem_of_getElem? (i := 7) rfl)
  have q5 := hts (.fieldLink RX10 197 "WoodForTwo$Pass" "law" "I") (List.mem_of_getElem? (i := 8) rfl)
  have q6 := hts (.fieldLink RX10 140 "WoodForTwo$Pass" "wood" "I") (List.mem_of_getElem? (i := 9) rfl)
  have q7 := hts (.constantLong RX10 178 (-1000000)) (List.mem_of_getElem? (i := 6) rfl)
  have q8 := hts (.constantLong RX10 134 (-9000000000000000002)) (List.mem_of_getElem? (i := 3) rfl)
  have iX10 : ∀ w ∈ wsX100, w ∈ wsX10_send := fun _ h => List.mem_cons_of_mem _ (List.mem_append_left _ (List.mem_append_left _ (List.mem_append_right _ (h))))
  have iX5 : ∀ w ∈ wsX50, w ∈ wsX10_send := fun _ h => List.mem_cons_of_mem _ (List.mem_append_left _ (List.mem_append_right _ (h)))
  have h17 : B 17 ≤ 16 := by rcases hB with z | z; (rw [z.2 17]; omega); exact z.2.2.2.2.2.2.2.2.1
  have hb46 : B 4 ≤ 6 := by rcases hB with z | z; (rw [z.2 4]; omega); exact z.2.2.2.2.2.2.1
  refine lv_aload_n hx hb dX10_send_0 rfl (lv_at hl 0 rfl) ?_
  refine r_getr (ci := 9) (C := RX10) (T := TX10) (N := 10) hx hb hts iX10 hown hW rfl 0 7 rfl (g_lt hG (by decide)) (g_kd hG (by decide) rfl) (by decide) q0 (fun _ h9 => h9) hH rfl rfl dX10_send_1 ?_
  refine r_geti (ci := 4) (C := RX5) (T := TX5) (N := 16) hx hb hts iX5 hown hW rfl h 0 rfl (p_lt hG hh (i := 0) (by decide)) (p_kd hG hh) (by decide) q1 (fun _ h9 => h9) (nI (B 132)) hR.1.1 rfl rfl dX10_send_4 ?_
  refine lv_if_ne (tgt := 14) hx hb dX10_send_7 (by decide) (fun c7 => ?_) (fun c7 => ?_)
  · skip
    have hB1 : BP1 B c := hB.resolve_left (fun z => c7 (by rw [z.1]; rfl))
    obtain ⟨b0, b1, b2, b3, b4, b5, b6, b7, b8, b9, b10, b11, b12⟩ := id hB1
    refine lv_iload_n hx hb dX10_send_14 rfl (lv_at hl 1 rfl) ?_
    refine r_calli hW hA (va_runS (As := [.int a1]) (rest := []) ⟨hx, hb, hml, hown, hts⟩ (t_X10_isNights l D G S _ a1) (va_cwS 1 hts gX10_send_X10_isNights rfl rfl rfl (by decide +kernel) ⟨Nat.le_of_ble_eq_true rfl, Nat.le_of_ble_eq_true rfl⟩) (r_preS hA hW) rfl rfl hl.1 rfl (lv_room (Nat.le_of_ble_eq_true rfl)) dX10_send_15 ⟨Nat.zero_le _, Nat.zero_le _⟩) (fun r15 S15 H locs hp15 hW => ?_)
    obtain ⟨hs15, hp15⟩ := hp15
    rw [hs15] at hW
    rcases hp15 with ⟨rfl, h15⟩ | ⟨rfl, h15⟩
    · skip
      refine lv_if_eq (tgt := 32) hx hb dX10_send_18 (by decide) (fun c18 => ?_) (fun c18 => ?_)
      · exact absurd c18 (by decide)
      · skip
        refine lv_iload_n hx hb dX10_send_21 rfl (lv_at hl 2 rfl) ?_
        refine lv_iconst (v := 1) hx hb dX10_send_22 (by decide) ?_
        refine lv_icmp_lt (tgt := 32) hx hb dX10_send_23 (by decide) (fun c23 => ?_) (fun c23 => ?_)
        · skip
          rw [t_lt, show (1 : Int32).toInt = 1 from by decide] at c23
          refine lv_ldc2 (v := (-9000000000000000001)) hx hb hown q2 dX10_send_32 ?_
          refine r_lret hx hb hr hlocks hW ?_ dX10_send_35
          have e : fSend B a1 a2 = BADL := by unfold fSend; rw [if_neg (by omega), if_neg (by omega)]
          rw [e]
          exact ⟨rfl, ChF.rf hnw hN4 hN5⟩
        · skip
          rw [t_lt, show (1 : Int32).toInt = 1 from by decide] at c23
          refine lv_iload_n hx hb dX10_send_26 rfl (lv_at hl 2 rfl) ?_
          refine lv_bipush (v := 99) hx hb dX10_send_27 (by decide) ?_
          refine lv_icmp_le (tgt := 36) hx hb dX10_send_29 (by decide) (fun c29 => ?_) (fun c29 => ?_)
          · skip
            rw [t_le, show (99 : Int32).toInt = 99 from by decide] at c29
            refine lv_aload_n hx hb dX10_send_36 rfl (lv_at hl 0 rfl) ?_
            refine r_getr (ci := 9) (C := RX10) (T := TX10) (N := 10) hx hb hts iX10 hown hW rfl 0 7 rfl (g_lt hG (by decide)) (g_kd hG (by decide) rfl) (by decide) q0 (fun _ h9 => h9) hH rfl rfl dX10_send_37 ?_
            refine r_geti (ci := 4) (C := RX5) (T := TX5) (N := 16) hx hb hts iX5 hown hW rfl h 5 rfl (p_lt hG hh (i := 0) (by decide)) (p_kd hG hh) (by decide) q3 (fun _ h9 => h9) (nI (B 4)) hR.1.2.2.2.2.2.1 rfl rfl dX10_send_40 ?_
            refine lv_if_ne (tgt := 50) hx hb dX10_send_43 (by decide) (fun c43 => ?_) (fun c43 => ?_)
            · skip
              have hb4 : ¬ B 4 = 0 := fun z => c43 (by rw [z]; rfl)
              have hn_a1 := n_nat (x := a1) (by omega)
              have e_a1 := n_nI (x := a1) (by omega)
              have hn_a2 := n_nat (x := a2) (by omega)
              have e_a2 := n_nI (x := a2) (by omega)
              have hlw : B 2 ≤ 2 := by omega
              have hn1 : 1 ≤ a1.toNatClampNeg := by omega
              have hn8 : a1.toNatClampNeg ≤ 8 := by omega
              refine lv_aload_n hx hb dX10_send_50 rfl (lv_at hl 0 rfl) ?_
              refine r_getr (ci := 9) (C := RX10) (T := TX10) (N := 10) hx hb hts iX10 hown hW rfl 0 4 rfl (g_lt hG (by decide)) (g_kd hG (by decide) rfl) (by decide) q4 (fun _ h9 => h9) (hP _ (List.mem_of_getElem? (i := 4) rfl)) rfl rfl dX10_send_51 ?_
              refine lv_aload_n hx hb dX10_send_54 rfl (lv_at hl 0 rfl) ?_
              refine r_getr (ci := 9) (C := RX10) (T := TX10) (N := 10) hx hb hts iX10 hown hW rfl 0 7 rfl (g_lt hG (by decide)) (g_kd hG (by decide) rfl) (by decide) q0 (fun _ h9 => h9) hH rfl rfl dX10_send_55 ?_
              refine lv_aload_n hx hb dX10_send_58 rfl (lv_at hl 0 rfl) ?_
              refine r_getr (ci := 9) (C := RX10) (T := TX10) (N := 10) hx hb hts iX10 hown hW rfl 0 7 rfl (g_lt hG (by decide)) (g_kd hG (by decide) rfl) (by decide) q0 (fun _ h9 => h9) hH rfl rfl dX10_send_59 ?_
              refine r_geti (ci := 4) (C := RX5) (T := TX5) (N := 16) hx hb hts iX5 hown hW rfl h 3 rfl (p_lt hG hh (i := 0) (by decide)) (p_kd hG hh) (by decide) q5 (fun _ h9 => h9) (nI (B 2)) hR.1.2.2.2.1 rfl rfl dX10_send_62 ?_
              refine lv_iload_n hx hb dX10_send_65 rfl (lv_at hl 1 rfl) ?_
              refine W.eq (g2 := F0 mM 66 ls [.int (nI a1.toNatClampNeg), .int (nI (B 2)), .ref (gA G h), .ref (gA G 14)]) (by rw [← e_a1]) ?_
              refine r_callv hW hA (va_runV (As := [.ref (gA G h), .int (nI (B 2)), .int (nI a1.toNatClampNeg)]) (rest := []) ⟨hx, hb, hml, hown, hts⟩ (t_X0_foretell l D G S _ hG hP h hh B c hB1 hR (B 2) a1.toNatClampNeg hlw hn1 hn8) (cwV 3 hts gX10_send_X0_foretell rfl rfl rfl (by decide +kernel) ⟨Nat.le_of_ble_eq_true rfl, Nat.le_of_ble_eq_true rfl⟩) (r_preV (k := 14) hA hW (ci := 0) (C := RX0) (T := TX0) (N := 10) rfl rfl (g_lt hG (by decide)) (g_kd hG (by decide) rfl) rfl rfl) rfl rfl hl.1 rfl (lv_room (Nat.le_of_ble_eq_true rfl)) dX10_send_66 ⟨Nat.zero_le _, Nat.zero_le _⟩) (fun S66 H locs hp66 hW => ?_)
              obtain ⟨hF, hFr, hC⟩ := hp66
              have hP_S66 : GrP G S66 := fun q hq => by rw [hC.1]; exact hP q hq
              have hH_S66 : gp S66 0 7 = some (gA G h) := by rw [hC.1]; exact hH
              refine lv_aload_n hx hb dX10_send_69 rfl (lv_at hl 0 rfl) ?_
              refine r_getr (ci := 9) (C := RX10) (T := TX10) (N := 10) hx hb hts iX10 hown hW rfl 0 4 rfl (g_lt hG (by decide)) (g_kd hG (by decide) rfl) (by decide) q4 (fun _ h9 => h9) (hP_S66 _ (List.mem_of_getElem? (i := 4) rfl)) rfl rfl dX10_send_70 ?_
              refine lv_aload_n hx hb dX10_send_73 rfl (lv_at hl 0 rfl) ?_
              refine r_getr (ci := 9) (C := RX10) (T := TX10) (N := 10) hx hb hts iX10 hown hW rfl 0 7 rfl (g_lt hG (by decide)) (g_kd hG (by decide) rfl) (by decide) q0 (fun _ h9 => h9) hH_S66 rfl rfl dX10_send_74 ?_
              refine r_geti (ci := 4) (C := RX5) (T := TX5) (N := 16) hx hb hts iX5 hown hW rfl h 1 rfl (p_lt hG hh (i := 0) (by decide)) (p_kd hG hh) (by decide) q6 (fun _ h9 => h9) (nI (B 0)) ((congrFun (hC.2 h (by omega)).1 _).trans hR.1.2.1) rfl rfl dX10_send_77 ?_
              refine lv_iload_n hx hb dX10_send_80 rfl (lv_at hl 2 rfl) ?_
              refine W.eq (g2 := F0 mM 81 ls [.int (nI a2.toNatClampNeg), .int (nI (B 0)), .ref (gA G 14)]) (by rw [← e_a2]) ?_
              refine r_calli hW hA (va_runV (As := [.int (nI (B 0)), .int (nI a2.toNatClampNeg)]) (rest := []) ⟨hx, hb, hml, hown, hts⟩ (t_X0_bestNight l D G S66 _ hG hP_S66 B c hB1 (B 2) a1.toNatClampNeg hlw hn1 hn8 hF hFr nw hnw (by rw [hC.1]; exact hN4) (by rw [hC.1]; exact hN5) (B 0) a2.toNatClampNeg (by omega) (by omega)) (cwV 2 hts gX10_send_X0_bestNight rfl rfl rfl (by decide +kernel) ⟨Nat.le_of_ble_eq_true rfl, Nat.le_of_ble_eq_true rfl⟩) (r_preV (k := 14) hA hW (ci := 0) (C := RX0) (T := TX0) (N := 10) rfl rfl (g_lt hG (by decide)) (g_kd hG (by decide) rfl) rfl rfl) rfl rfl hl.1 rfl (lv_room (Nat.le_of_ble_eq_true rfl)) dX10_send_81 ⟨Nat.zero_le _, Nat.zero_le _⟩) (fun r81 S81 H locs hp81 hW => ?_)
              obtain ⟨rfl, hCN, hNX⟩ := hp81
              have hax := amx_b (f := (fun j => fCut B (B 2) a1.toNatClampNeg a2.toNatClampNeg j (B 0))) (M := 72301961339136) a1.toNatClampNeg (fun i hi => fCut_le hB1 hlw hn8 (by omega))
              refine lv_i2l hx hb dX10_send_84 rfl ?_
              refine r_lret hx hb hr hlocks hW ?_ dX10_send_85
              have e : fSend B a1 a2 = lN ((amx (fun j => fCut B (B 2) a1.toNatClampNeg a2.toNatClampNeg j (B 0)) a1.toNatClampNeg).1 + 1) := by unfold fSend; rw [if_neg (by omega), if_pos (by omega), if_neg hb4]
              rw [e]
              exact ⟨lN_of (by omega), ChF.of hC hCN hNX⟩
            · skip
              have hb4 : B 4 = 0 := (n_eq (a := B 4) (b := 0) (by omega) (by omega)).mp c43
              refine lv_ldc2 (v := (-1000000)) hx hb hown q7 dX10_send_46 ?_
              refine r_lret hx hb hr hlocks hW ?_ dX10_send_49
              have e : fSend B a1 a2 = NONEL := by unfold fSend; rw [if_neg (by omega), if_pos (by omega), if_pos hb4]
              rw [e]
              exact ⟨rfl, ChF.rf hnw hN4 hN5⟩
          · skip
            rw [t_le, show (99 : Int32).toInt = 99 from by decide] at c29
            refine lv_ldc2 (v := (-9000000000000000001)) hx hb hown q2 dX10_send_32 ?_
            refine r_lret hx hb hr hlocks hW ?_ dX10_send_35
            have e : fSend B a1 a2 = BADL := by unfold fSend; rw [if_neg (by omega), if_neg (by omega)]
            rw [e]
            exact ⟨rfl, ChF.rf hnw hN4 hN5⟩
    · skip
      refine lv_if_eq (tgt := 32) hx hb dX10_send_18 (by decide) (fun c18 => ?_) (fun c18 => ?_)
      · skip
        refine lv_ldc2 (v := (-9000000000000000001)) hx hb hown q2 dX10_send_32 ?_
        refine r_lret hx hb hr hlocks hW ?_ dX10_send_35
        have e : fSend B a1 a2 = BADL := by unfold fSend; rw [if_neg (by omega), if_neg (by omega)]
        rw [e]
        exact ⟨rfl, ChF.rf hnw hN4 hN5⟩
      · exact absurd (by decide) c18
  · skip
    have hs0 : B 132 = 0 := by
      rcases hB with z | z
      · exact z.1
      · rw [z.1] at c7; exact absurd c7 (by decide)
    refine lv_ldc2 (v := (-9000000000000000002)) hx hb hown q8 dX10_send_10 ?_
    refine r_lret hx hb hr hlocks hW ?_ dX10_send_13
    have e : fSend B a1 a2 = STATEL := by unfold fSend; rw [if_pos hs0]
    rw [e]
    exact ⟨rfl, ChF.rf hnw hN4 hN5⟩

def rmX10_carry : Jvm.Room := { frames := 4, cells := 0, slots := 0, locals := 93 }
set_option maxHeartbeats 4000000 in
set_option maxRecDepth 100000 in
theorem t_X10_carry (l : Launch) (D : Dc) (G : Gg) (S : Sg) (z : Nat) (hG : GrG G) (hP : GrP G S) (h : Nat) (hh : PassR h) (hH : gp S 0 7 = some (gA G h)) (B : Nat → Nat) (c : Nat) (hB : BP B c) (hc : c < 100000) (hR : RP G S h B) (a1 a2 a3 : Int32) : ML l yX10_carry wsX10_carry rmX10_carry D G S z [.ref (gA G 0), .int a1, .int a2, .int a3] (fun r S' => r = fCarry B a1 a2 a3 ∧ Ch (fun k => k = 14 ∨ (16 ≤ k ∧ k ≤ 29)) S S') := by
  refine Met.ofW (cc := cX10_carry) (maxL := 10) (ret := (some .long)) (by decide +kernel) rfl ?_
  intro pP eE s mM args bl mT cD s₁ bD hml hv
  obtain ⟨rfl, hv⟩ := hv
  have hz := hv.1
  subst hz
  have hx := bD.exec
  have hb := bD.bytes
  have hr := bD.returns
  have hts := atoms_spec (ws := wsX10_carry) bD.pre
  have hown : s.vm.findClass RX10 = some mM.cls := findClass_of_methodNamed bD.named
  have hlocks := bD.notSynchronized
  have hW := Wd.start hv
  have hA : ∀ q, s.heap.size ≤ q → AW G s.heap.size q := fun q h => Or.inr h
  have hl := lv_entry ([.ref (gA G 0), .int a1, .int a2, .int a3]) (n := 10) (Nat.le_of_ble_eq_true rfl)
  rw [lg_entry_eq]
  generalize (lg_sl ([.ref (gA G 0), .int a1, .int a2, .int a3]) ++ List.replicate (10 - (lg_sl ([.ref (gA G 0), .int a1, .int a2, .int a3])).length) Slot.unset).toArray = ls at hl ⊢
  have hl : lv_has ls 10 [(0, .ref (gA G 0)), (1, .int a1), (2, .int a2), (3, .int a3)] := hl
  have q0 := hts (.fieldLink RX10 49 "WoodForTwo" "here" "LWoodForTwo$Pass;") (List.mem_of_getElem? (i := 1) rfl)
  have q1 := hts (.fieldLink RX10 116 "WoodForTwo$Pass" "stands" "Z") (List.mem_of_getElem? (i := 2) rfl)
  have q2 := hts (.constantLong RX10 66 (-9000000000000000001)) (List.mem_of_getElem? (i := 4) rfl)
  have q3 := hts (.fieldLink RX10 175 "WoodForTwo$Pass" "chances" "I") (List.mem_of_getElem? (i := 5) rfl)
  have q4 := hts (.fieldLink RX10 31 "WoodForTwo" "foretelling" "LWoodForTwo$Foretelling;") (List.mem_of_getElem? (i := 7) rfl)
  have q5 := hts (.fieldLink RX10 197 "WoodForTwo$Pass" "law" "I") (List.mem_of_getElem? (i := 8) rfl)
  have q6 := hts (.constantLong RX10 214 (-1)) (List.mem_of_getElem? (i := 9) rfl)
  have q7 := hts (.constantLong RX10 178 (-1000000)) (List.mem_of_getElem? (i := 6) rfl)
  have q8 := hts (.constantLong RX10 134 (-9000000000000000002)) (List.mem_of_getElem? (i := 3) rfl)
  have iX10 : ∀ w ∈ wsX100, w ∈ wsX10_carry := fun _ h => List.mem_cons_of_mem _ (List.mem_append_left _ (List.mem_append_left _ (List.mem_append_right _ (h))))
  have iX5 : ∀ w ∈ wsX50, w ∈ wsX10_carry := fun _ h => List.mem_cons_of_mem _ (List.mem_append_left _ (List.mem_append_right _ (h)))
  generalize hQ0 : MQ bl _ _ s _ _ _ = Q0
  have h17 : B 17 ≤ 16 := by rcases hB with z | z; (rw [z.2 17]; omega); exact z.2.2.2.2.2.2.2.2.1
  have hb46 : B 4 ≤ 6 := by rcases hB with z | z; (rw [z.2 4]; omega); exact z.2.2.2.2.2.2.1
  refine lv_aload_n hx hb dX10_carry_0 rfl (lv_at hl 0 rfl) ?_
  refine r_getr (ci := 9) (C := RX10) (T := TX10) (N := 10) hx hb hts iX10 hown hW rfl 0 7 rfl (g_lt hG (by decide)) (g_kd hG (by decide) rfl) (by decide) q0 (fun _ h9 => h9) hH rfl rfl dX10_carry_1 ?_
  refine r_geti (ci := 4) (C := RX5) (T := TX5) (N := 16) hx hb hts iX5 hown hW rfl h 0 rfl (p_lt hG hh (i := 0) (by decide)) (p_kd hG hh) (by decide) q1 (fun _ h9 => h9) (nI (B 132)) hR.1.1 rfl rfl dX10_carry_4 ?_
  refine lv_if_ne (tgt := 14) hx hb dX10_carry_7 (by decide) (fun c7 => ?_) (fun c7 => ?_)
  · skip
    have hB1 : BP1 B c := hB.resolve_left (fun z => c7 (by rw [z.1]; rfl))
    obtain ⟨b0, b1, b2, b3, b4, b5, b6, b7, b8, b9, b10, b11, b12⟩ := id hB1
    refine lv_iload_n hx hb dX10_carry_14 rfl (lv_at hl 1 rfl) ?_
    refine lv_if_lt (tgt := 46) hx hb dX10_carry_15 (by decide) (fun c15 => ?_) (fun c15 => ?_)
    · skip
      rw [t_lt, show (0 : Int32).toInt = 0 from by decide] at c15
      refine lv_ldc2 (v := (-9000000000000000001)) hx hb hown q2 dX10_carry_46 ?_
      rw [← hQ0]
      refine r_lret hx hb hr hlocks hW ?_ dX10_carry_49
      have e : fCarry B a1 a2 a3 = BADL := by unfold fCarry; rw [if_neg (by omega), if_neg (by omega)]
      rw [e]
      exact ⟨rfl, Ch.rf⟩
    · skip
      rw [t_lt, show (0 : Int32).toInt = 0 from by decide] at c15
      refine lv_iload_n hx hb dX10_carry_18 rfl (lv_at hl 1 rfl) ?_
      refine lv_sipush (v := 300) hx hb dX10_carry_19 (by decide) ?_
      refine lv_icmp_gt (tgt := 46) hx hb dX10_carry_22 (by decide) (fun c22 => ?_) (fun c22 => ?_)
      · skip
        rw [t_lt, show (300 : Int32).toInt = 300 from by decide] at c22
        refine lv_ldc2 (v := (-9000000000000000001)) hx hb hown q2 dX10_carry_46 ?_
        rw [← hQ0]
        refine r_lret hx hb hr hlocks hW ?_ dX10_carry_49
        have e : fCarry B a1 a2 a3 = BADL := by unfold fCarry; rw [if_neg (by omega), if_neg (by omega)]
        rw [e]
        exact ⟨rfl, Ch.rf⟩
      · skip
        rw [t_lt, show (300 : Int32).toInt = 300 from by decide] at c22
        refine lv_iload_n hx hb dX10_carry_25 rfl (lv_at hl 2 rfl) ?_
        refine lv_if_lt (tgt := 46) hx hb dX10_carry_26 (by decide) (fun c26 => ?_) (fun c26 => ?_)
        · skip
          rw [t_lt, show (0 : Int32).toInt = 0 from by decide] at c26
          refine lv_ldc2 (v := (-9000000000000000001)) hx hb hown q2 dX10_carry_46 ?_
          rw [← hQ0]
          refine r_lret hx hb hr hlocks hW ?_ dX10_carry_49
          have e : fCarry B a1 a2 a3 = BADL := by unfold fCarry; rw [if_neg (by omega), if_neg (by omega)]
          rw [e]
          exact ⟨rfl, Ch.rf⟩
        · skip
          rw [t_lt, show (0 : Int32).toInt = 0 from by decide] at c26
          refine lv_iload_n hx hb dX10_carry_29 rfl (lv_at hl 2 rfl) ?_
          refine lv_sipush (v := 300) hx hb dX10_carry_30 (by decide) ?_
          refine lv_icmp_gt (tgt := 46) hx hb dX10_carry_33 (by decide) (fun c33 => ?_) (fun c33 => ?_)
          · skip
            rw [t_lt, show (300 : Int32).toInt = 300 from by decide] at c33
            refine lv_ldc2 (v := (-9000000000000000001)) hx hb hown q2 dX10_carry_46 ?_
            rw [← hQ0]
            refine r_lret hx hb hr hlocks hW ?_ dX10_carry_49
            have e : fCarry B a1 a2 a3 = BADL := by unfold fCarry; rw [if_neg (by omega), if_neg (by omega)]
            rw [e]
            exact ⟨rfl, Ch.rf⟩
          · skip
            rw [t_lt, show (300 : Int32).toInt = 300 from by decide] at c33
            refine lv_iload_n hx hb dX10_carry_36 rfl (lv_at hl 3 rfl) ?_
            refine lv_iconst (v := 1) hx hb dX10_carry_37 (by decide) ?_
            refine lv_icmp_lt (tgt := 46) hx hb dX10_carry_38 (by decide) (fun c38 => ?_) (fun c38 => ?_)
            · skip
              rw [t_lt, show (1 : Int32).toInt = 1 from by decide] at c38
              refine lv_ldc2 (v := (-9000000000000000001)) hx hb hown q2 dX10_carry_46 ?_
              rw [← hQ0]
              refine r_lret hx hb hr hlocks hW ?_ dX10_carry_49
              have e : fCarry B a1 a2 a3 = BADL := by unfold fCarry; rw [if_neg (by omega), if_neg (by omega)]
              rw [e]
              exact ⟨rfl, Ch.rf⟩
            · skip
              rw [t_lt, show (1 : Int32).toInt = 1 from by decide] at c38
              refine lv_iload_n hx hb dX10_carry_41 rfl (lv_at hl 3 rfl) ?_
              refine lv_iconst (v := 4) hx hb dX10_carry_42 (by decide) ?_
              refine lv_icmp_le (tgt := 50) hx hb dX10_carry_43 (by decide) (fun c43 => ?_) (fun c43 => ?_)
              · skip
                rw [t_le, show (4 : Int32).toInt = 4 from by decide] at c43
                refine lv_aload_n hx hb dX10_carry_50 rfl (lv_at hl 0 rfl) ?_
                refine r_getr (ci := 9) (C := RX10) (T := TX10) (N := 10) hx hb hts iX10 hown hW rfl 0 7 rfl (g_lt hG (by decide)) (g_kd hG (by decide) rfl) (by decide) q0 (fun _ h9 => h9) hH rfl rfl dX10_carry_51 ?_
                refine r_geti (ci := 4) (C := RX5) (T := TX5) (N := 16) hx hb hts iX5 hown hW rfl h 5 rfl (p_lt hG hh (i := 0) (by decide)) (p_kd hG hh) (by decide) q3 (fun _ h9 => h9) (nI (B 4)) hR.1.2.2.2.2.2.1 rfl rfl dX10_carry_54 ?_
                refine lv_if_ne (tgt := 64) hx hb dX10_carry_57 (by decide) (fun c57 => ?_) (fun c57 => ?_)
                · skip
                  have hb4 : ¬ B 4 = 0 := fun z => c57 (by rw [z]; rfl)
                  have hn_a1 := n_nat (x := a1) (by omega)
                  have e_a1 := n_nI (x := a1) (by omega)
                  have hn_a2 := n_nat (x := a2) (by omega)
                  have e_a2 := n_nI (x := a2) (by omega)
                  have hn_a3 := n_nat (x := a3) (by omega)
                  have e_a3 := n_nI (x := a3) (by omega)
                  have hlw : B 2 ≤ 2 := by omega
                  have hn1 : 1 ≤ a3.toNatClampNeg := by omega
                  have hn8 : a3.toNatClampNeg ≤ 8 := by omega
                  refine lv_aload_n hx hb dX10_carry_64 rfl (lv_at hl 0 rfl) ?_
                  refine r_getr (ci := 9) (C := RX10) (T := TX10) (N := 10) hx hb hts iX10 hown hW rfl 0 4 rfl (g_lt hG (by decide)) (g_kd hG (by decide) rfl) (by decide) q4 (fun _ h9 => h9) (hP _ (List.mem_of_getElem? (i := 4) rfl)) rfl rfl dX10_carry_65 ?_
                  refine lv_aload_n hx hb dX10_carry_68 rfl (lv_at hl 0 rfl) ?_
                  refine r_getr (ci := 9) (C := RX10) (T := TX10) (N := 10) hx hb hts iX10 hown hW rfl 0 7 rfl (g_lt hG (by decide)) (g_kd hG (by decide) rfl) (by decide) q0 (fun _ h9 => h9) hH rfl rfl dX10_carry_69 ?_
                  refine lv_aload_n hx hb dX10_carry_72 rfl (lv_at hl 0 rfl) ?_
                  refine r_getr (ci := 9) (C := RX10) (T := TX10) (N := 10) hx hb hts iX10 hown hW rfl 0 7 rfl (g_lt hG (by decide)) (g_kd hG (by decide) rfl) (by decide) q0 (fun _ h9 => h9) hH rfl rfl dX10_carry_73 ?_
                  refine r_geti (ci := 4) (C := RX5) (T := TX5) (N := 16) hx hb hts iX5 hown hW rfl h 3 rfl (p_lt hG hh (i := 0) (by decide)) (p_kd hG hh) (by decide) q5 (fun _ h9 => h9) (nI (B 2)) hR.1.2.2.2.1 rfl rfl dX10_carry_76 ?_
                  refine lv_iload_n hx hb dX10_carry_79 rfl (lv_at hl 3 rfl) ?_
                  refine W.eq (g2 := F0 mM 80 ls [.int (nI a3.toNatClampNeg), .int (nI (B 2)), .ref (gA G h), .ref (gA G 14)]) (by rw [← e_a3]) ?_
                  refine r_callv hW hA (va_runV (As := [.ref (gA G h), .int (nI (B 2)), .int (nI a3.toNatClampNeg)]) (rest := []) ⟨hx, hb, hml, hown, hts⟩ (t_X0_foretell l D G S _ hG hP h hh B c hB1 hR (B 2) a3.toNatClampNeg hlw hn1 hn8) (cwV 3 hts gX10_carry_X0_foretell rfl rfl rfl (by decide +kernel) ⟨Nat.le_of_ble_eq_true rfl, Nat.le_of_ble_eq_true rfl⟩) (r_preV (k := 14) hA hW (ci := 0) (C := RX0) (T := TX0) (N := 10) rfl rfl (g_lt hG (by decide)) (g_kd hG (by decide) rfl) rfl rfl) rfl rfl hl.1 rfl (lv_room (Nat.le_of_ble_eq_true rfl)) dX10_carry_80 ⟨Nat.zero_le _, Nat.zero_le _⟩) (fun S80 H locs hp80 hW => ?_)
                  obtain ⟨hF, hFr, hC⟩ := hp80
                  have hP_S80 : GrP G S80 := fun q hq => by rw [hC.1]; exact hP q hq
                  have hH_S80 : gp S80 0 7 = some (gA G h) := by rw [hC.1]; exact hH
                  refine lv_iconst (v := 0) hx hb dX10_carry_83 (by decide) ?_
                  refine lv_istore (lv' := [(4, .int 0), (0, .ref (gA G 0)), (1, .int a1), (2, .int a2), (3, .int a3)]) hx hb dX10_carry_84 hl (by decide) rfl (fun ls hl => ?_)
                  refine lv_ldc2 (v := (-1)) hx hb hown q6 dX10_carry_86 ?_
                  refine lv_lstore (lv' := [(5, .long (-1)), (4, .int 0), (0, .ref (gA G 0)), (1, .int a1), (2, .int a2), (3, .int a3)]) hx hb dX10_carry_89 hl (by decide) rfl (fun ls hl => ?_)
                  refine lv_iconst (v := 0) hx hb dX10_carry_91 (by decide) ?_
                  refine lv_istore (lv' := [(7, .int 0), (5, .long (-1)), (4, .int 0), (0, .ref (gA G 0)), (1, .int a1), (2, .int a2), (3, .int a3)]) hx hb dX10_carry_92 hl (by decide) rfl (fun ls hl => ?_)
                  have L94 : ∀ (n : Nat) (k : Nat) (H : Heap) (locs : List Loc) (ls : Array Slot), (a1.toNatClampNeg / 2 + 1 - k) < n → k ≤ a1.toNatClampNeg / 2 + 1 → Wd D (AW G s.heap.size) s G S80 H locs → lv_has ls 10 [(7, .int (nI k)), (4, .int (nI (amx (crF B a1.toNatClampNeg a2.toNatClampNeg a3.toNatClampNeg) k).1)), (5, .long (mI (amx (crF B a1.toNatClampNeg a2.toNatClampNeg a3.toNatClampNeg) k).2)), (0, .ref (gA G 0)), (1, .int a1), (2, .int a2)] → W pP l eE (headSpec wsX10_carry rmX10_carry).room s mM ([.ref (gA G 0), .int a1, .int a2, .int a3] : List Value).toArray bl mT cD H locs 0 0 Q0 (F0 mM 94 ls []) := by
                    intro n
                    induction n with
                    | zero => intro k H locs ls hm; exact absurd hm (Nat.not_lt_zero _)
                    | succ n ih94 =>
                      intro k H locs ls hm94 hk hW hl
                      refine lv_iconst (v := 2) hx hb dX10_carry_94 (by decide) ?_
                      refine lv_iload hx hb dX10_carry_95 (lv_at hl 0 rfl) ?_
                      refine lv_imul hx hb dX10_carry_97 ?_
                      refine lv_iload_n hx hb dX10_carry_98 rfl (lv_at hl 4 rfl) ?_
                      refine W.eq (g2 := F0 mM 99 ls [.int (nI a1.toNatClampNeg), .int (nI (2 * k))]) (by rw [← e_a1, show nI (2 * k) = (2 : Int32) * nI k from (n_mul 2 k).symm]) ?_
                      refine lv_icmp_gt (tgt := 151) hx hb dX10_carry_99 (by decide) (fun c99 => ?_) (fun c99 => ?_)
                      · skip
                        have hke : k = a1.toNatClampNeg / 2 + 1 := by
                          have h9 := (n_lt (a := a1.toNatClampNeg) (b := 2 * k) (by omega) (by omega)).mp c99
                          omega
                        refine lv_iload hx hb dX10_carry_151 (lv_at hl 1 rfl) ?_
                        refine lv_i2l hx hb dX10_carry_153 rfl ?_
                        rw [← hQ0]
                        refine r_lret hx hb hr hlocks hW ?_ dX10_carry_154
                        have e : fCarry B a1 a2 a3 = lN (amx (crF B a1.toNatClampNeg a2.toNatClampNeg a3.toNatClampNeg) (a1.toNatClampNeg / 2 + 1)).1 := by unfold fCarry; rw [if_neg (by omega), if_pos (by omega), if_neg hb4]
                        rw [e, ← hke]
                        have hax := amx_b (f := (crF B a1.toNatClampNeg a2.toNatClampNeg a3.toNatClampNeg)) (M := 72301961339136) k (fun i _ => crF_le hB1 b4 (by omega) i)
                        exact ⟨lN_of (by omega), hC⟩
                      · skip
                        have hke : 2 * k ≤ a1.toNatClampNeg := by
                          have h9 : ¬ a1.toNatClampNeg < 2 * k := fun z => c99 ((n_lt (a := a1.toNatClampNeg) (b := 2 * k) (by omega) (by omega)).mpr z)
                          omega
                        have hck := crF_le (a := a1.toNatClampNeg) (b := a2.toNatClampNeg) (n := a3.toNatClampNeg) hB1 b4 (by omega) k
                        have hax := amx_b (f := (crF B a1.toNatClampNeg a2.toNatClampNeg a3.toNatClampNeg)) (M := 72301961339136) k (fun i _ => crF_le hB1 b4 (by omega) i)
                        refine lv_aload_n hx hb dX10_carry_102 rfl (lv_at hl 3 rfl) ?_
                        refine r_getr (ci := 9) (C := RX10) (T := TX10) (N := 10) hx hb hts iX10 hown hW rfl 0 4 rfl (g_lt hG (by decide)) (g_kd hG (by decide) rfl) (by decide) q4 (fun _ h9 => h9) (hP_S80 _ (List.mem_of_getElem? (i := 4) rfl)) rfl rfl dX10_carry_103 ?_
                        refine lv_iload_n hx hb dX10_carry_106 rfl (lv_at hl 4 rfl) ?_
                        refine lv_iconst (v := 2) hx hb dX10_carry_107 (by decide) ?_
                        refine lv_iload hx hb dX10_carry_108 (lv_at hl 0 rfl) ?_
                        refine lv_imul hx hb dX10_carry_110 ?_
                        refine lv_isub hx hb dX10_carry_111 ?_
                        rw [show ((a1 - (2 * (nI k))) : Int32) = (nI (a1.toNatClampNeg - 2 * k)) from by rw [show (2 : Int32) * nI k = nI (2 * k) from n_mul 2 k]; exact (congrArg (fun z => z - nI (2 * k)) e_a1).trans (n_sub hke)]
                        refine r_calll hW hA (va_runV (As := [.int (nI (a1.toNatClampNeg - 2 * k))]) (rest := []) ⟨hx, hb, hml, hown, hts⟩ (t_X0_safeWays l D G S80 _ hG hP_S80 B c hB1 (B 2) a3.toNatClampNeg hlw hn1 hn8 hF hFr (a1.toNatClampNeg - 2 * k) (by omega)) (cwV 1 hts gX10_carry_X0_safeWays rfl rfl rfl (by decide +kernel) ⟨Nat.le_of_ble_eq_true rfl, Nat.le_of_ble_eq_true rfl⟩) (r_preV (k := 14) hA hW (ci := 0) (C := RX0) (T := TX0) (N := 10) rfl rfl (g_lt hG (by decide)) (g_kd hG (by decide) rfl) rfl rfl) rfl rfl hl.1 rfl (lv_room (Nat.le_of_ble_eq_true rfl)) dX10_carry_112 ⟨Nat.zero_le _, Nat.zero_le _⟩) (fun r112 S112 H locs hp112 hW => ?_)
                        obtain ⟨rfl, hs112⟩ := hp112
                        rw [hs112] at hW
                        refine lv_aload_n hx hb dX10_carry_115 rfl (lv_at hl 3 rfl) ?_
                        refine r_getr (ci := 9) (C := RX10) (T := TX10) (N := 10) hx hb hts iX10 hown hW rfl 0 4 rfl (g_lt hG (by decide)) (g_kd hG (by decide) rfl) (by decide) q4 (fun _ h9 => h9) (hP_S80 _ (List.mem_of_getElem? (i := 4) rfl)) rfl rfl dX10_carry_116 ?_
                        refine lv_iload_n hx hb dX10_carry_119 rfl (lv_at hl 5 rfl) ?_
                        refine lv_iload hx hb dX10_carry_120 (lv_at hl 0 rfl) ?_
                        refine lv_iadd hx hb dX10_carry_122 ?_
                        rw [show ((a2 + (nI k)) : Int32) = (nI (a2.toNatClampNeg + k)) from (congrArg (fun z => z + nI k) e_a2).trans (n_add _ _)]
                        refine r_calll hW hA (va_runV (As := [.int (nI (a2.toNatClampNeg + k))]) (rest := [.long (lN (fW B (B 2) a3.toNatClampNeg (a1.toNatClampNeg - 2 * k)))]) ⟨hx, hb, hml, hown, hts⟩ (t_X0_safeWays l D G S80 _ hG hP_S80 B c hB1 (B 2) a3.toNatClampNeg hlw hn1 hn8 hF hFr (a2.toNatClampNeg + k) (by omega)) (cwV 1 hts gX10_carry_X0_safeWays rfl rfl rfl (by decide +kernel) ⟨Nat.le_of_ble_eq_true rfl, Nat.le_of_ble_eq_true rfl⟩) (r_preV (k := 14) hA hW (ci := 0) (C := RX0) (T := TX0) (N := 10) rfl rfl (g_lt hG (by decide)) (g_kd hG (by decide) rfl) rfl rfl) rfl rfl hl.1 rfl (lv_room (Nat.le_of_ble_eq_true rfl)) dX10_carry_123 ⟨Nat.zero_le _, Nat.zero_le _⟩) (fun r123 S123 H locs hp123 hW => ?_)
                        obtain ⟨rfl, hs123⟩ := hp123
                        rw [hs123] at hW
                        refine lv_lmul hx hb dX10_carry_126 ?_
                        rw [show (((lN (fW B (B 2) a3.toNatClampNeg (a1.toNatClampNeg - 2 * k))) * (lN (fW B (B 2) a3.toNatClampNeg (a2.toNatClampNeg + k)))) : Int64) = (lN ((crF B a1.toNatClampNeg a2.toNatClampNeg a3.toNatClampNeg) k)) from lN_mul _ _]
                        refine lv_lstore (lv' := [(8, .long (lN ((crF B a1.toNatClampNeg a2.toNatClampNeg a3.toNatClampNeg) k))), (7, .int (nI k)), (4, .int (nI (amx (crF B a1.toNatClampNeg a2.toNatClampNeg a3.toNatClampNeg) k).1)), (5, .long (mI (amx (crF B a1.toNatClampNeg a2.toNatClampNeg a3.toNatClampNeg) k).2)), (0, .ref (gA G 0)), (1, .int a1), (2, .int a2)]) hx hb dX10_carry_127 hl (by decide) rfl (fun ls hl => ?_)
                        refine lv_lload hx hb dX10_carry_129 (lv_at hl 0 rfl) ?_
                        refine lv_lload hx hb dX10_carry_131 (lv_at hl 3 rfl) ?_
                        refine W.lcmp hx hb dX10_carry_133 ?_
                        refine lv_if_le (tgt := 145) hx hb dX10_carry_134 (by decide) (fun c134 => ?_) (fun c134 => ?_)
                        · skip
                          rw [lc_le] at c134
                          rw [lN_int (by omega), mI_int hax.1 (by omega)] at c134
                          have eM : amx (crF B a1.toNatClampNeg a2.toNatClampNeg a3.toNatClampNeg) (k + 1) = amx (crF B a1.toNatClampNeg a2.toNatClampNeg a3.toNatClampNeg) k := by show (if _ then _ else _) = _; rw [if_neg (by omega)]
                          have em : (mI (amx (crF B a1.toNatClampNeg a2.toNatClampNeg a3.toNatClampNeg) k).2) = mI (amx (crF B a1.toNatClampNeg a2.toNatClampNeg a3.toNatClampNeg) (k + 1)).2 := by rw [eM]
                          have eb : (nI (amx (crF B a1.toNatClampNeg a2.toNatClampNeg a3.toNatClampNeg) k).1) = nI (amx (crF B a1.toNatClampNeg a2.toNatClampNeg a3.toNatClampNeg) (k + 1)).1 := by rw [eM]
                          have hl : lv_has ls 10 [(8, .long (lN ((crF B a1.toNatClampNeg a2.toNatClampNeg a3.toNatClampNeg) k))), (7, .int (nI k)), (4, .int (nI (amx (crF B a1.toNatClampNeg a2.toNatClampNeg a3.toNatClampNeg) (k + 1)).1)), (5, .long (mI (amx (crF B a1.toNatClampNeg a2.toNatClampNeg a3.toNatClampNeg) (k + 1)).2)), (0, .ref (gA G 0)), (1, .int a1), (2, .int a2)] := by rw [← em, ← eb]; exact hl
                          refine lv_iinc (v := (nI (k + 1))) (lv' := [(7, .int (nI (k + 1))), (8, .long (lN ((crF B a1.toNatClampNeg a2.toNatClampNeg a3.toNatClampNeg) k))), (4, .int (nI (amx (crF B a1.toNatClampNeg a2.toNatClampNeg a3.toNatClampNeg) (k + 1)).1)), (5, .long (mI (amx (crF B a1.toNatClampNeg a2.toNatClampNeg a3.toNatClampNeg) (k + 1)).2)), (0, .ref (gA G 0)), (1, .int a1), (2, .int a2)]) hx hb dX10_carry_145 hl (k := 1) rfl (nI_1 k) (by decide) rfl (fun ls hl => ?_)
                          refine lv_goto (tgt := 94) hx hb dX10_carry_148 (by decide) ?_
                          exact ih94 (k + 1) _ _ ls (by omega) (by omega) hW (lv_sub hl [0, 2, 3, 4, 5, 6] rfl)
                        · skip
                          rw [lc_le] at c134
                          rw [lN_int (by omega), mI_int hax.1 (by omega)] at c134
                          refine lv_lload hx hb dX10_carry_137 (lv_at hl 0 rfl) ?_
                          refine lv_lstore (lv' := [(5, .long (lN ((crF B a1.toNatClampNeg a2.toNatClampNeg a3.toNatClampNeg) k))), (8, .long (lN ((crF B a1.toNatClampNeg a2.toNatClampNeg a3.toNatClampNeg) k))), (7, .int (nI k)), (4, .int (nI (amx (crF B a1.toNatClampNeg a2.toNatClampNeg a3.toNatClampNeg) k).1)), (0, .ref (gA G 0)), (1, .int a1), (2, .int a2)]) hx hb dX10_carry_139 hl (by decide) rfl (fun ls hl => ?_)
                          refine lv_iload hx hb dX10_carry_141 (lv_at hl 2 rfl) ?_
                          refine lv_istore (lv' := [(4, .int (nI k)), (5, .long (lN ((crF B a1.toNatClampNeg a2.toNatClampNeg a3.toNatClampNeg) k))), (8, .long (lN ((crF B a1.toNatClampNeg a2.toNatClampNeg a3.toNatClampNeg) k))), (7, .int (nI k)), (0, .ref (gA G 0)), (1, .int a1), (2, .int a2)]) hx hb dX10_carry_143 hl (by decide) rfl (fun ls hl => ?_)
                          have eM : amx (crF B a1.toNatClampNeg a2.toNatClampNeg a3.toNatClampNeg) (k + 1) = (k, ((crF B a1.toNatClampNeg a2.toNatClampNeg a3.toNatClampNeg) k : Int)) := by show (if _ then _ else _) = _; rw [if_pos (by omega)]
                          have em : (lN ((crF B a1.toNatClampNeg a2.toNatClampNeg a3.toNatClampNeg) k)) = mI (amx (crF B a1.toNatClampNeg a2.toNatClampNeg a3.toNatClampNeg) (k + 1)).2 := by rw [eM]; unfold mI; rw [if_neg (by dsimp only; omega)]; rfl
                          have eb : (nI k) = nI (amx (crF B a1.toNatClampNeg a2.toNatClampNeg a3.toNatClampNeg) (k + 1)).1 := by rw [eM]
                          have hl : lv_has ls 10 [(4, .int (nI (amx (crF B a1.toNatClampNeg a2.toNatClampNeg a3.toNatClampNeg) (k + 1)).1)), (5, .long (mI (amx (crF B a1.toNatClampNeg a2.toNatClampNeg a3.toNatClampNeg) (k + 1)).2)), (8, .long (lN ((crF B a1.toNatClampNeg a2.toNatClampNeg a3.toNatClampNeg) k))), (7, .int (nI k)), (0, .ref (gA G 0)), (1, .int a1), (2, .int a2)] := by rw [← em, ← eb]; exact hl
                          refine lv_iinc (v := (nI (k + 1))) (lv' := [(7, .int (nI (k + 1))), (4, .int (nI (amx (crF B a1.toNatClampNeg a2.toNatClampNeg a3.toNatClampNeg) (k + 1)).1)), (5, .long (mI (amx (crF B a1.toNatClampNeg a2.toNatClampNeg a3.toNatClampNeg) (k + 1)).2)), (8, .long (lN ((crF B a1.toNatClampNeg a2.toNatClampNeg a3.toNatClampNeg) k))), (0, .ref (gA G 0)), (1, .int a1), (2, .int a2)]) hx hb dX10_carry_145 hl (k := 3) rfl (nI_1 k) (by decide) rfl (fun ls hl => ?_)
                          refine lv_goto (tgt := 94) hx hb dX10_carry_148 (by decide) ?_
                          exact ih94 (k + 1) _ _ ls (by omega) (by omega) hW (lv_sub hl [0, 1, 2, 4, 5, 6] rfl)
                  exact L94 _ 0 _ _ ls (Nat.lt_succ_self _) (Nat.zero_le _) hW (lv_sub hl [0, 2, 1, 3, 4, 5] rfl)
                · skip
                  have hb4 : B 4 = 0 := (n_eq (a := B 4) (b := 0) (by omega) (by omega)).mp c57
                  refine lv_ldc2 (v := (-1000000)) hx hb hown q7 dX10_carry_60 ?_
                  rw [← hQ0]
                  refine r_lret hx hb hr hlocks hW ?_ dX10_carry_63
                  have e : fCarry B a1 a2 a3 = NONEL := by unfold fCarry; rw [if_neg (by omega), if_pos (by omega), if_pos hb4]
                  rw [e]
                  exact ⟨rfl, Ch.rf⟩
              · skip
                rw [t_le, show (4 : Int32).toInt = 4 from by decide] at c43
                refine lv_ldc2 (v := (-9000000000000000001)) hx hb hown q2 dX10_carry_46 ?_
                rw [← hQ0]
                refine r_lret hx hb hr hlocks hW ?_ dX10_carry_49
                have e : fCarry B a1 a2 a3 = BADL := by unfold fCarry; rw [if_neg (by omega), if_neg (by omega)]
                rw [e]
                exact ⟨rfl, Ch.rf⟩
  · skip
    have hs0 : B 132 = 0 := by
      rcases hB with z | z
      · exact z.1
      · rw [z.1] at c7; exact absurd c7 (by decide)
    refine lv_ldc2 (v := (-9000000000000000002)) hx hb hown q8 dX10_carry_10 ?_
    rw [← hQ0]
    refine r_lret hx hb hr hlocks hW ?_ dX10_carry_13
    have e : fCarry B a1 a2 a3 = STATEL := by unfold fCarry; rw [if_pos hs0]
    rw [e]
    exact ⟨rfl, Ch.rf⟩
