theorem kdF_5 {w m : Nat} : kdF w m = 1 ∨ kdF w m = 2 ∨ kdF w m = 3 ∨ kdF w m = 6 ∨ kdF w m = 8 := by
  unfold kdF
  split
  · split <;> simp
  · split
    · simp
    · split <;> simp
def rmX6_readParties : Jvm.Room := { frames := 6, cells := 16, slots := 48, locals := 128 }
set_option maxHeartbeats 4000000 in
set_option maxRecDepth 100000 in
theorem t_X6_readParties (l : Launch) (D : Dc) (G : Gg) (S : Sg) (z : Nat) (hG : GrG G) (hP : GrP G S) (T : Nat → Nat) (ts : Nat) (ht4 : ts ≤ 400) (hTB : ∀ i, i < ts → T i ≤ 255) (a0 : Nat) (hRd0 : RdX S T ts a0) (h : Nat) (hh : PassR h) (B0 : Nat → Nat) (hB0 : Tld B0) (h170 : B0 17 = 0) (hS0 : SpX G S h B0) : MIa l yX6_readParties wsX6_readParties rmX6_readParties D G S z [.ref (gA G 12), .ref (gA G h)] 16 48 (fun r U => XtP G U.1 ∧ ChR G h S U.2 ∧ TdOK U.1 U.2 h ∧ ((∃ B e, pPts T ts 17 B0 a0 = .inl (B, e) ∧ r = 1 ∧ RdX U.2 T ts e ∧ gi U.2 12 6 = gi S 12 6 ∧ gi U.2 12 7 = gi S 12 7 ∧ SpX U.1 U.2 h B) ∨ (∃ f p, pPts T ts 17 B0 a0 = .inr (f, p) ∧ r = 0 ∧ gi U.2 12 6 = nI f ∧ gi U.2 12 7 = nI p))) := by
  refine Met.ofW (cc := cX6_readParties) (maxL := 6) (ret := (some .boolean)) (by decide +kernel) rfl ?_
  intro pP eE s mM args bl mT cD s₁ bD hml hv
  obtain ⟨rfl, hv⟩ := hv
  have hz := hv.1
  subst hz
  have hx := bD.exec
  have hb := bD.bytes
  have hr := bD.returns
  have hts := atoms_spec (ws := wsX6_readParties) bD.pre
  have hown : s.vm.findClass RX6 = some mM.cls := findClass_of_methodNamed bD.named
  have hlocks := bD.notSynchronized
  have hW := Wd.start hv
  have hA : ∀ q, s.heap.size ≤ q → AW G s.heap.size q := fun q h => Or.inr h
  have hl := lv_entry ([.ref (gA G 12), .ref (gA G h)]) (n := 6) (Nat.le_of_ble_eq_true rfl)
  rw [lg_entry_eq]
  generalize (lg_sl ([.ref (gA G 12), .ref (gA G h)]) ++ List.replicate (6 - (lg_sl ([.ref (gA G 12), .ref (gA G h)])).length) Slot.unset).toArray = ls at hl ⊢
  have hl : lv_has ls 6 [(0, .ref (gA G 12)), (1, .ref (gA G h))] := hl
  have q0 := hts (.fieldLink RX6 94 "WoodForTwo$Pass" "parties" "I") (List.mem_of_getElem? (i := 1) rfl)
  have iX5 : ∀ w ∈ wsX50, w ∈ wsX6_readParties := fun _ h => List.mem_cons_of_mem _ (List.mem_append_left _ (List.mem_append_left _ (List.mem_append_left _ (List.mem_append_left _ (List.mem_append_left _ (List.mem_append_left _ (List.mem_append_right _ (h))))))))
  generalize hQ0 : MQ bl _ _ s _ _ _ = Q0
  refine lv_iconst (v := 0) hx hb dX6_readParties_0 (by decide) ?_
  refine lv_istore_n (lv' := [(2, .int 0), (0, .ref (gA G 12)), (1, .ref (gA G h))]) hx hb dX6_readParties_1 rfl hl (by decide) rfl (fun ls hl => ?_)
  have hl : lv_has ls 6 [(2, .int (nI (B0 17))), (0, .ref (gA G 12)), (1, .ref (gA G h))] := by rw [h170]; exact hl
  refine W.widen (k := B0 17) (n := 3 * B0 17) (Nat.zero_le _) (Nat.zero_le _) ?_
  have L2 : ∀ (n : Nat) (G0 : Gg) (T0 : Sg) (B : Nat → Nat) (a : Nat) (H : Heap) (locs : List Loc) (ls : Array Slot), (17 - B 17) < n → XtP G G0 → RdX T0 T ts a → gi T0 12 6 = gi S 12 6 → gi T0 12 7 = gi S 12 7 → SpX G0 T0 h B → Tld B → ChR G h S T0 → pPts T ts 17 B0 a0 = pPts T ts (17 - B 17) B a → Wd D (AW G s.heap.size) s G0 T0 H locs → lv_has ls 6 [(2, .int (nI (B 17))), (0, .ref (gA G0 12)), (1, .ref (gA G0 h))] → W pP l eE (headSpec wsX6_readParties rmX6_readParties).room s mM ([.ref (gA G 12), .ref (gA G h)] : List Value).toArray bl mT cD H locs (B 17) (3 * B 17) Q0 (F0 mM 2 ls []) := by
    intro n
    induction n with
    | zero => intro G0 T0 B a H locs ls hm; exact absurd hm (Nat.not_lt_zero _)
    | succ n ih2 =>
      intro G0 T0 B a H locs ls hm2 hX hRd hl6 hl7 hsp hB hC0 hR hW hl
      have hP_T0 : GrP G0 T0 := GrP.xt hG hP hh hX hC0
      have hG := GrG.xt hG hX
      have b46 := hB.1.2.2.2.2.2.2.1
      have b17 := hB.1.2.2.2.2.2.2.2.2.1
      have h75 := hG.1
      have hh7 : 13 < h ∧ h + 7 < 75 := by rcases hh with e | e | e | e <;> omega
      refine lv_iload_n hx hb dX6_readParties_2 rfl (lv_at hl 0 rfl) ?_
      refine lv_bipush (v := 16) hx hb dX6_readParties_3 (by decide) ?_
      refine lv_icmp_gt (tgt := 112) hx hb dX6_readParties_5 (by decide) (fun c5 => ?_) (fun c5 => ?_)
      · skip
        rw [t_lt, show (16 : Int32).toInt = 16 from by decide] at c5
        exfalso; rw [n_toInt (by omega)] at c5; omega --stop
      · skip
        rw [t_lt, show (16 : Int32).toInt = 16 from by decide] at c5
        refine lv_aload_n hx hb dX6_readParties_8 rfl (lv_at hl 1 rfl) ?_
        refine va_ldcS hx hb (own := RX6) hown (hW.2.2.2.2.2.1 2 (by decide)) dX6_readParties_9 ?_
        refine r_calli hW hA (va_runV (As := [.ref (D.2.2.1 2)]) (rest := []) ⟨hx, hb, hml, hown, hts⟩ (t_X6_isWord l D G0 T0 _ hG hP_T0 T ts ht4 hTB a hRd 2 (by decide)) (cwV 1 hts gX6_readParties_X6_isWord rfl rfl rfl (by decide +kernel) ⟨Nat.le_of_ble_eq_true rfl, Nat.le_of_ble_eq_true rfl⟩) (r_preV (k := 12) hA hW (ci := 5) (C := RX6) (T := TX6) (N := 8) rfl rfl (g_lt hG (by decide)) (g_kd hG (by decide) rfl) rfl rfl) rfl rfl hl.1 rfl (lv_room (Nat.le_of_ble_eq_true rfl)) dX6_readParties_11 ⟨(show B 17 + 0 ≤ 16 by omega), (show 3 * B 17 + 0 ≤ 48 by omega)⟩) (fun r11 S11 H locs hp11 hW => ?_)
        obtain ⟨hs11, hp11⟩ := hp11
        rw [hs11] at hW
        rcases hp11 with ⟨rfl, h11⟩ | ⟨rfl, h11⟩
        · skip
          refine lv_if_eq (tgt := 112) hx hb dX6_readParties_14 (by decide) (fun c14 => ?_) (fun c14 => ?_)
          · exact absurd c14 (by decide)
          · skip
            refine lv_iload_n hx hb dX6_readParties_17 rfl (lv_at hl 0 rfl) ?_
            refine lv_bipush (v := 16) hx hb dX6_readParties_18 (by decide) ?_
            refine lv_icmp_ne (tgt := 29) hx hb dX6_readParties_20 (by decide) (fun c20 => ?_) (fun c20 => ?_)
            · skip
              rw [t_eq, show (16 : Int32).toInt = 16 from by decide] at c20
              have hn6 : B 17 < 16 := by rw [n_toInt (by omega)] at c20; omega
              refine lv_aload_n hx hb dX6_readParties_29 rfl (lv_at hl 1 rfl) ?_
              have hRd30 := hRd
              have hle30 := tE_le (T := T) hRd30.2.2.2
              refine r_callv hW hA (va_runV (As := []) (rest := []) ⟨hx, hb, hml, hown, hts⟩ (t_X6_nextToken l D G0 T0 _ hG hP_T0 T ts ht4 hTB hRd30.2.1 hRd30.2.2.1 (tE T ts a) hle30.1 hRd30.1.2.1) (cwV 0 hts gX6_readParties_X6_nextToken rfl rfl rfl (by decide +kernel) ⟨Nat.le_of_ble_eq_true rfl, Nat.le_of_ble_eq_true rfl⟩) (r_preV (k := 12) hA hW (ci := 5) (C := RX6) (T := TX6) (N := 8) rfl rfl (g_lt hG (by decide)) (g_kd hG (by decide) rfl) rfl rfl) rfl rfl hl.1 rfl (lv_room (Nat.le_of_ble_eq_true rfl)) dX6_readParties_30 ⟨(show B 17 + 0 ≤ 16 by omega), (show 3 * B 17 + 0 ≤ 48 by omega)⟩) (fun S30 H locs hp30 hW => ?_)
              have hok30 := OkX.mk' hRd30.2.1 hRd30.2.2.1 hle30.1 hp30
              have hP_S30 : GrP G0 S30 := fun q hq => by rw [hok30.2.2.2.1]; exact hP_T0 q hq
              have hsp30 := SpX.ch hsp hh hok30.2.2.2
              refine lv_aload_n hx hb dX6_readParties_33 rfl (lv_at hl 1 rfl) ?_
              refine lv_iconst (v := 1) hx hb dX6_readParties_34 (by decide) ?_
              refine lv_bipush (v := 9) hx hb dX6_readParties_35 (by decide) ?_
              refine W.eq (g2 := F0 mM 37 ls [.int (nI 9), .int (nI 1), .ref (gA G0 12)]) rfl ?_
              refine r_calli hW hA (va_runV (As := [.int (nI 1), .int (nI 9)]) (rest := []) ⟨hx, hb, hml, hown, hts⟩ (t_X6_readNumber l D G0 S30 _ hG hP_S30 T ts ht4 hTB (tE T ts a) hok30.1 1 9 (by decide) (by decide)) (cwV 2 hts gX6_readParties_X6_readNumber rfl rfl rfl (by decide +kernel) ⟨Nat.le_of_ble_eq_true rfl, Nat.le_of_ble_eq_true rfl⟩) (r_preV (k := 12) hA hW (ci := 5) (C := RX6) (T := TX6) (N := 8) rfl rfl (g_lt hG (by decide)) (g_kd hG (by decide) rfl) rfl rfl) rfl rfl hl.1 rfl (lv_room (Nat.le_of_ble_eq_true rfl)) dX6_readParties_37 ⟨(show B 17 + 0 ≤ 16 by omega), (show 3 * B 17 + 0 ≤ 48 by omega)⟩) (fun r37 S37 H locs hp37 hW => ?_)
              rcases hp37 with ⟨v37, e37, hpn37, rfl, hok37⟩ | ⟨f37, p37, hpn37, rfl, hfl37⟩
              · skip
                have hP_S37 : GrP G0 S37 := fun q hq => by rw [hok37.2.2.2.1]; exact hP_S30 q hq
                have hsp37 := SpX.ch hsp30 hh hok37.2.2.2
                have hvb37 := pNum_b hpn37
                refine lv_istore_n (lv' := [(3, .int (nI v37)), (2, .int (nI (B 17))), (0, .ref (gA G0 12)), (1, .ref (gA G0 h))]) hx hb dX6_readParties_40 rfl hl (by decide) rfl (fun ls hl => ?_)
                refine lv_iload_n hx hb dX6_readParties_41 rfl (lv_at hl 0 rfl) ?_
                refine lv_iconst (v := (-1)) hx hb dX6_readParties_42 (by decide) ?_
                refine lv_icmp_ne (tgt := 50) hx hb dX6_readParties_43 (by decide) (fun c43 => ?_) (fun c43 => ?_)
                · skip
                  rw [t_eq, show ((-1) : Int32).toInt = -1 from by decide] at c43
                  refine lv_aload_n hx hb dX6_readParties_50 rfl (lv_at hl 2 rfl) ?_
                  refine r_calli hW hA (va_runV (As := []) (rest := []) ⟨hx, hb, hml, hown, hts⟩ (t_X6_readWay l D G0 S37 _ hG hP_S37 T ts ht4 hTB e37 hok37.1) (cwV 0 hts gX6_readParties_X6_readWay rfl rfl rfl (by decide +kernel) ⟨Nat.le_of_ble_eq_true rfl, Nat.le_of_ble_eq_true rfl⟩) (r_preV (k := 12) hA hW (ci := 5) (C := RX6) (T := TX6) (N := 8) rfl rfl (g_lt hG (by decide)) (g_kd hG (by decide) rfl) rfl rfl) rfl rfl hl.1 rfl (lv_room (Nat.le_of_ble_eq_true rfl)) dX6_readParties_51 ⟨(show B 17 + 0 ≤ 16 by omega), (show 3 * B 17 + 0 ≤ 48 by omega)⟩) (fun r51 S51 H locs hp51 hW => ?_)
                  rcases hp51 with ⟨v51, e51, hpn51, rfl, hok51⟩ | ⟨f51, p51, hpn51, rfl, hfl51⟩
                  · skip
                    have hP_S51 : GrP G0 S51 := fun q hq => by rw [hok51.2.2.2.1]; exact hP_S37 q hq
                    have hsp51 := SpX.ch hsp37 hh hok51.2.2.2
                    have hvb51 := pWay_b hpn51
                    refine lv_istore (lv' := [(4, .int (nI v51)), (3, .int (nI v37)), (2, .int (nI (B 17))), (0, .ref (gA G0 12)), (1, .ref (gA G0 h))]) hx hb dX6_readParties_54 hl (by decide) rfl (fun ls hl => ?_)
                    refine lv_iload hx hb dX6_readParties_56 (lv_at hl 0 rfl) ?_
                    refine lv_iconst (v := (-1)) hx hb dX6_readParties_58 (by decide) ?_
                    refine lv_icmp_ne (tgt := 66) hx hb dX6_readParties_59 (by decide) (fun c59 => ?_) (fun c59 => ?_)
                    · skip
                      rw [t_eq, show ((-1) : Int32).toInt = -1 from by decide] at c59
                      refine lv_aload_n hx hb dX6_readParties_66 rfl (lv_at hl 3 rfl) ?_
                      refine lv_iconst (v := 0) hx hb dX6_readParties_67 (by decide) ?_
                      refine lv_bipush (v := 99) hx hb dX6_readParties_68 (by decide) ?_
                      refine W.eq (g2 := F0 mM 70 ls [.int (nI 99), .int (nI 0), .ref (gA G0 12)]) rfl ?_
                      refine r_calli hW hA (va_runV (As := [.int (nI 0), .int (nI 99)]) (rest := []) ⟨hx, hb, hml, hown, hts⟩ (t_X6_readNumber l D G0 S51 _ hG hP_S51 T ts ht4 hTB e51 hok51.1 0 99 (by decide) (by decide)) (cwV 2 hts gX6_readParties_X6_readNumber rfl rfl rfl (by decide +kernel) ⟨Nat.le_of_ble_eq_true rfl, Nat.le_of_ble_eq_true rfl⟩) (r_preV (k := 12) hA hW (ci := 5) (C := RX6) (T := TX6) (N := 8) rfl rfl (g_lt hG (by decide)) (g_kd hG (by decide) rfl) rfl rfl) rfl rfl hl.1 rfl (lv_room (Nat.le_of_ble_eq_true rfl)) dX6_readParties_70 ⟨(show B 17 + 0 ≤ 16 by omega), (show 3 * B 17 + 0 ≤ 48 by omega)⟩) (fun r70 S70 H locs hp70 hW => ?_)
                      rcases hp70 with ⟨v70, e70, hpn70, rfl, hok70⟩ | ⟨f70, p70, hpn70, rfl, hfl70⟩
                      · skip
                        have hP_S70 : GrP G0 S70 := fun q hq => by rw [hok70.2.2.2.1]; exact hP_S51 q hq
                        have hsp70 := SpX.ch hsp51 hh hok70.2.2.2
                        have hvb70 := pNum_b hpn70
                        refine lv_istore (lv' := [(5, .int (nI v70)), (4, .int (nI v51)), (3, .int (nI v37)), (2, .int (nI (B 17))), (0, .ref (gA G0 12)), (1, .ref (gA G0 h))]) hx hb dX6_readParties_73 hl (by decide) rfl (fun ls hl => ?_)
                        refine lv_iload hx hb dX6_readParties_75 (lv_at hl 0 rfl) ?_
                        refine lv_iconst (v := (-1)) hx hb dX6_readParties_77 (by decide) ?_
                        refine lv_icmp_eq (tgt := 88) hx hb dX6_readParties_78 (by decide) (fun c78 => ?_) (fun c78 => ?_)
                        · skip
                          rw [t_eq, show ((-1) : Int32).toInt = -1 from by decide] at c78
                          exfalso; rw [n_toInt (by omega)] at c78; omega --stop
                        · skip
                          rw [t_eq, show ((-1) : Int32).toInt = -1 from by decide] at c78
                          refine lv_aload_n hx hb dX6_readParties_81 rfl (lv_at hl 4 rfl) ?_
                          refine r_calli hW hA (va_runV (As := []) (rest := []) ⟨hx, hb, hml, hown, hts⟩ (t_X6_readSign l D G0 S70 _ hG hP_S70 T ts ht4 hTB e70 hok70.1) (cwV 0 hts gX6_readParties_X6_readSign rfl rfl rfl (by decide +kernel) ⟨Nat.le_of_ble_eq_true rfl, Nat.le_of_ble_eq_true rfl⟩) (r_preV (k := 12) hA hW (ci := 5) (C := RX6) (T := TX6) (N := 8) rfl rfl (g_lt hG (by decide)) (g_kd hG (by decide) rfl) rfl rfl) rfl rfl hl.1 rfl (lv_room (Nat.le_of_ble_eq_true rfl)) dX6_readParties_82 ⟨(show B 17 + 0 ≤ 16 by omega), (show 3 * B 17 + 0 ≤ 48 by omega)⟩) (fun r82 S82 H locs hp82 hW => ?_)
                          rcases hp82 with ⟨v82, e82, hpn82, rfl, hok82⟩ | ⟨f82, p82, hpn82, rfl, hfl82⟩
                          · skip
                            have hP_S82 : GrP G0 S82 := fun q hq => by rw [hok82.2.2.2.1]; exact hP_S70 q hq
                            have hsp82 := SpX.ch hsp70 hh hok82.2.2.2
                            refine lv_if_ne (tgt := 90) hx hb dX6_readParties_85 (by decide) (fun c85 => ?_) (fun c85 => ?_)
                            · skip
                              refine lv_aload_n hx hb dX6_readParties_90 rfl (lv_at hl 5 rfl) ?_
                              refine lv_aload_n hx hb dX6_readParties_91 rfl (lv_at hl 5 rfl) ?_
                              refine r_geti (ci := 4) (C := RX5) (T := TX5) (N := 16) hx hb hts iX5 hown hW rfl h 6 rfl (p_lt hG hh (i := 0) (by decide)) (p_kd hG hh) (by decide) q0 (fun _ h9 => h9) (nI (B 17)) hsp82.2.1.2.2.2.2.2.1 rfl rfl dX6_readParties_92 ?_
                              refine lv_iload_n hx hb dX6_readParties_95 rfl (lv_at hl 2 rfl) ?_
                              refine lv_iload hx hb dX6_readParties_96 (lv_at hl 1 rfl) ?_
                              refine lv_iload hx hb dX6_readParties_98 (lv_at hl 0 rfl) ?_
                              refine r_callqa hW hA (va_runS (As := [.int (nI (B 17)), .int (nI v37), .int (nI v51), .int (nI v70)]) (rest := [.ref (gA G0 h)]) ⟨hx, hb, hml, hown, hts⟩ (t_X6_partyOf l D G0 S82 _ (B 17) v37 v51 v70 hvb51 hvb37.1 hvb37.2) (va_cwS 4 hts gX6_readParties_X6_partyOf rfl rfl rfl (by decide +kernel) ⟨Nat.le_of_ble_eq_true rfl, Nat.le_of_ble_eq_true rfl⟩) (r_preS hA hW) rfl rfl hl.1 rfl (lv_room (Nat.le_of_ble_eq_true rfl)) dX6_readParties_100 ⟨(show B 17 + 1 ≤ 16 by omega), (show 3 * B 17 + 3 ≤ 48 by omega)⟩) (fun r100 G1 S100 H locs hp100 hW => ?_)
                              obtain ⟨q, kd, row, hG1, hS1, rfl, hkd, hr0, hr1, hr2⟩ := hp100
                              have hG1 : G1 = gAdd G0 q kd 0 := hG1
                              have hS1 : S100 = ri (sAdd G0 S82) (gN G0) row := hS1
                              subst hG1
                              subst hS1
                              have hGo := hG
                              have hk5 : kd = 1 ∨ kd = 2 ∨ kd = 3 ∨ kd = 6 ∨ kd = 8 := by rw [hkd]; exact kdF_5
                              have hcr : ChR G0 h S82 (ri (sAdd G0 S82) (gN G0) row) := fun k hk => ⟨fun _ _ _ _ => ⟨e_in (by omega) (sAdd_i (by omega)), sAdd_j (by omega)⟩, fun _ => sAdd_p (by omega)⟩
                              have hPn : GrP (gAdd G0 q kd 0) (ri (sAdd G0 S82) (gN G0) row) := GrP.xt hG hP_S82 hh (XtP.add hk5) hcr
                              have hG := GrG.xt hG (XtP.add (q := q) hk5)
                              have eA : gA (gAdd G0 q kd 0) (gN G0) = q := gAdd_As
                              have eh : gA (gAdd G0 q kd 0) h = gA G0 h := gAdd_A (by omega)
                              have e12 : gA (gAdd G0 q kd 0) 12 = gA G0 12 := gAdd_A (by omega)
                              have h6n : gi (ri (sAdd G0 S82) (gN G0) row) h 6 = nI (B 17) := (congrFun (e_in (by omega) (sAdd_i (by omega))) 6).trans hsp82.2.1.2.2.2.2.2.1
                              refine W.eq (g2 := F0 mM 103 ls [.ref q, .ref (gA G0 h)]) rfl ?_
                              refine W.eq (g2 := F0 mM 103 ls [.ref (gA (gAdd G0 q kd 0) (gN G0)), .ref (gA (gAdd G0 q kd 0) h)]) (by rw [eA, eh]) ?_
                              refine r_callv hW hA (va_runV (As := [.ref (gA (gAdd G0 q kd 0) (gN G0))]) (rest := []) ⟨hx, hb, hml, hown, hts⟩ (t_X5_addParty l D (gAdd G0 q kd 0) (ri (sAdd G0 S82) (gN G0) row) _ hG hPn h hh (B 17) hn6 h6n (gN G0) h75 (Nat.lt_succ_self _)) (cwV 1 hts gX6_readParties_X5_addParty rfl rfl rfl (by decide +kernel) ⟨Nat.le_of_ble_eq_true rfl, Nat.le_of_ble_eq_true rfl⟩) (r_preV (k := h) hA hW (ci := 4) (C := RX5) (T := TX5) (N := 16) rfl rfl (p_lt hG hh (i := 0) (by decide)) (p_kd hG hh) rfl rfl) rfl rfl hl.1 rfl (lv_room (Nat.le_of_ble_eq_true rfl)) dX6_readParties_103 ⟨(show (B 17 + 1) + 0 ≤ 16 by omega), (show (3 * B 17 + 3) + 0 ≤ 48 by omega)⟩) (fun S103 H locs hp103 hW => ?_)
                              rw [eA] at hp103
                              obtain ⟨hspn, hcn, ez12, ez13⟩ := SpX.party hsp82 hGo hh hn6 b46 hkd hr0 hr1 hr2 hp103
                              have hrdn : RdX S103 T ts e82 := RdX.mv hok82.1 ez12 ez13
                              have hl6n : gi S103 12 6 = gi S 12 6 := (congrFun ez12 6).trans (hok82.2.1.trans (hok70.2.1.trans (hok51.2.1.trans (hok37.2.1.trans (hok30.2.1.trans hl6)))))
                              have hl7n : gi S103 12 7 = gi S 12 7 := (congrFun ez12 7).trans (hok82.2.2.1.trans (hok70.2.2.1.trans (hok51.2.2.1.trans (hok37.2.2.1.trans (hok30.2.2.1.trans hl7)))))
                              have hpp : pParty T ts B a = .inl (ptB B v37 v51 v70, e82) := by unfold pParty; rw [if_neg (by omega), PB_l hpn37, PB_l hpn51, PB_l hpn70, PB_l hpn82]
                              have hRn : pPts T ts 17 B0 a0 = pPts T ts (17 - ptB B v37 v51 v70 17) (ptB B v37 v51 v70) e82 := by rw [hR, pPts_s b17 h11, PB_l hpp, ptB_17, show 17 - (B 17 + 1) = 16 - B 17 by omega]
                              have hXn : XtP G (gAdd G0 q kd 0) := XtP.tr hX (XtP.add hk5)
                              have hCn : ChR G h S S103 := ChR.tr (ChR.tr (ChR.tr (ChR.tr (ChR.tr (ChR.tr hC0 (ChR.ch hok30.2.2.2 (fun _ z => Or.inl z))) (ChR.ch hok37.2.2.2 (fun _ z => Or.inl z))) (ChR.ch hok51.2.2.2 (fun _ z => Or.inl z))) (ChR.ch hok70.2.2.2 (fun _ z => Or.inl z))) (ChR.ch hok82.2.2.2 (fun _ z => Or.inl z))) (ChR.narrow hX.1 hcn)
                              have hl : lv_has ls 6 [(5, .int (nI v70)), (4, .int (nI v51)), (3, .int (nI v37)), (2, .int (nI (B 17))), (0, .ref (gA (gAdd G0 q kd 0) 12)), (1, .ref (gA (gAdd G0 q kd 0) h))] := by rw [e12, eh]; exact hl
                              refine lv_iinc (v := (nI (ptB B v37 v51 v70 17))) (lv' := [(2, .int (nI (ptB B v37 v51 v70 17))), (5, .int (nI v70)), (4, .int (nI v51)), (3, .int (nI v37)), (0, .ref (gA (gAdd G0 q kd 0) 12)), (1, .ref (gA (gAdd G0 q kd 0) h))]) hx hb dX6_readParties_106 hl (k := 3) rfl (by rw [ptB_17]; exact nI_1 _) (by decide) rfl (fun ls hl => ?_)
                              refine W.widen (k := ptB B v37 v51 v70 17) (n := 3 * ptB B v37 v51 v70 17) (by rw [ptB_17]; omega) (by rw [ptB_17]; omega) ?_
                              refine lv_goto (tgt := 2) hx hb dX6_readParties_109 (by decide) ?_
                              exact ih2 (gAdd G0 q kd 0) S103 (ptB B v37 v51 v70) e82 _ _ ls (by rw [ptB_17]; omega) hXn hrdn hl6n hl7n hspn (pParty_ok hpp hB).1 hCn hRn hW (lv_sub hl [0, 4, 5] rfl)
                            · exact absurd c85 (by decide)
                          · skip
                            have hsf := SpX.ch hsp70 hh hfl82.2.2.2
                            refine lv_if_ne (tgt := 90) hx hb dX6_readParties_85 (by decide) (fun c85 => ?_) (fun c85 => ?_)
                            · exact absurd (by decide) c85
                            · skip
                              refine lv_iconst (v := 0) hx hb dX6_readParties_88 (by decide) ?_
                              refine W.widen (k := 16) (n := 48) (by omega) (by omega) ?_
                              rw [← hQ0]
                              refine r_zreta hx hb hr hlocks hW (Or.inl rfl) ?_ dX6_readParties_89
                              refine ⟨hX, (ChR.tr (ChR.tr (ChR.tr (ChR.tr (ChR.tr hC0 (ChR.ch hok30.2.2.2 (fun _ z => Or.inl z))) (ChR.ch hok37.2.2.2 (fun _ z => Or.inl z))) (ChR.ch hok51.2.2.2 (fun _ z => Or.inl z))) (ChR.ch hok70.2.2.2 (fun _ z => Or.inl z))) (ChR.ch hfl82.2.2.2 (fun _ z => Or.inl z))), hsf.2.2.2.2.2, Or.inr ⟨f82, p82, hR.trans ((pPts_s b17 h11).trans (PB_r ?_)), rfl, hfl82.1, hfl82.2.1⟩⟩
                              unfold pParty; rw [if_neg (by omega), PB_l hpn37, PB_l hpn51, PB_l hpn70, PB_r hpn82]
                      · skip
                        have hsf := SpX.ch hsp51 hh hfl70.2.2.2
                        refine lv_istore (lv' := [(5, .int (-1)), (4, .int (nI v51)), (3, .int (nI v37)), (2, .int (nI (B 17))), (0, .ref (gA G0 12)), (1, .ref (gA G0 h))]) hx hb dX6_readParties_73 hl (by decide) rfl (fun ls hl => ?_)
                        refine lv_iload hx hb dX6_readParties_75 (lv_at hl 0 rfl) ?_
                        refine lv_iconst (v := (-1)) hx hb dX6_readParties_77 (by decide) ?_
                        refine lv_icmp_eq (tgt := 88) hx hb dX6_readParties_78 (by decide) (fun c78 => ?_) (fun c78 => ?_)
                        · skip
                          refine lv_iconst (v := 0) hx hb dX6_readParties_88 (by decide) ?_
                          refine W.widen (k := 16) (n := 48) (by omega) (by omega) ?_
                          rw [← hQ0]
                          refine r_zreta hx hb hr hlocks hW (Or.inl rfl) ?_ dX6_readParties_89
                          refine ⟨hX, (ChR.tr (ChR.tr (ChR.tr (ChR.tr hC0 (ChR.ch hok30.2.2.2 (fun _ z => Or.inl z))) (ChR.ch hok37.2.2.2 (fun _ z => Or.inl z))) (ChR.ch hok51.2.2.2 (fun _ z => Or.inl z))) (ChR.ch hfl70.2.2.2 (fun _ z => Or.inl z))), hsf.2.2.2.2.2, Or.inr ⟨f70, p70, hR.trans ((pPts_s b17 h11).trans (PB_r ?_)), rfl, hfl70.1, hfl70.2.1⟩⟩
                          unfold pParty; rw [if_neg (by omega), PB_l hpn37, PB_l hpn51, PB_r hpn70]
                        · exact absurd (by decide) c78
                    · skip
                      rw [t_eq, show ((-1) : Int32).toInt = -1 from by decide] at c59
                      exfalso; rw [n_toInt (by omega)] at c59; omega --stop
                  · skip
                    have hsf := SpX.ch hsp37 hh hfl51.2.2.2
                    refine lv_istore (lv' := [(4, .int (-1)), (3, .int (nI v37)), (2, .int (nI (B 17))), (0, .ref (gA G0 12)), (1, .ref (gA G0 h))]) hx hb dX6_readParties_54 hl (by decide) rfl (fun ls hl => ?_)
                    refine lv_iload hx hb dX6_readParties_56 (lv_at hl 0 rfl) ?_
                    refine lv_iconst (v := (-1)) hx hb dX6_readParties_58 (by decide) ?_
                    refine lv_icmp_ne (tgt := 66) hx hb dX6_readParties_59 (by decide) (fun c59 => ?_) (fun c59 => ?_)
                    · exact absurd (by decide) c59
                    · skip
                      refine lv_iconst (v := (-1)) hx hb dX6_readParties_62 (by decide) ?_
                      refine lv_goto (tgt := 73) hx hb dX6_readParties_63 (by decide) ?_
                      refine lv_istore (lv' := [(5, .int (-1)), (4, .int (-1)), (3, .int (nI v37)), (2, .int (nI (B 17))), (0, .ref (gA G0 12)), (1, .ref (gA G0 h))]) hx hb dX6_readParties_73 hl (by decide) rfl (fun ls hl => ?_)
                      refine lv_iload hx hb dX6_readParties_75 (lv_at hl 0 rfl) ?_
                      refine lv_iconst (v := (-1)) hx hb dX6_readParties_77 (by decide) ?_
                      refine lv_icmp_eq (tgt := 88) hx hb dX6_readParties_78 (by decide) (fun c78 => ?_) (fun c78 => ?_)
                      · skip
                        refine lv_iconst (v := 0) hx hb dX6_readParties_88 (by decide) ?_
                        refine W.widen (k := 16) (n := 48) (by omega) (by omega) ?_
                        rw [← hQ0]
                        refine r_zreta hx hb hr hlocks hW (Or.inl rfl) ?_ dX6_readParties_89
                        refine ⟨hX, (ChR.tr (ChR.tr (ChR.tr hC0 (ChR.ch hok30.2.2.2 (fun _ z => Or.inl z))) (ChR.ch hok37.2.2.2 (fun _ z => Or.inl z))) (ChR.ch hfl51.2.2.2 (fun _ z => Or.inl z))), hsf.2.2.2.2.2, Or.inr ⟨f51, p51, hR.trans ((pPts_s b17 h11).trans (PB_r ?_)), rfl, hfl51.1, hfl51.2.1⟩⟩
                        unfold pParty; rw [if_neg (by omega), PB_l hpn37, PB_r hpn51]
                      · exact absurd (by decide) c78
                · skip
                  rw [t_eq, show ((-1) : Int32).toInt = -1 from by decide] at c43
                  exfalso; rw [n_toInt (by omega)] at c43; omega --stop
              · skip
                have hsf := SpX.ch hsp30 hh hfl37.2.2.2
                refine lv_istore_n (lv' := [(3, .int (-1)), (2, .int (nI (B 17))), (0, .ref (gA G0 12)), (1, .ref (gA G0 h))]) hx hb dX6_readParties_40 rfl hl (by decide) rfl (fun ls hl => ?_)
                refine lv_iload_n hx hb dX6_readParties_41 rfl (lv_at hl 0 rfl) ?_
                refine lv_iconst (v := (-1)) hx hb dX6_readParties_42 (by decide) ?_
                refine lv_icmp_ne (tgt := 50) hx hb dX6_readParties_43 (by decide) (fun c43 => ?_) (fun c43 => ?_)
                · exact absurd (by decide) c43
                · skip
                  refine lv_iconst (v := (-1)) hx hb dX6_readParties_46 (by decide) ?_
                  refine lv_goto (tgt := 54) hx hb dX6_readParties_47 (by decide) ?_
                  refine lv_istore (lv' := [(4, .int (-1)), (3, .int (-1)), (2, .int (nI (B 17))), (0, .ref (gA G0 12)), (1, .ref (gA G0 h))]) hx hb dX6_readParties_54 hl (by decide) rfl (fun ls hl => ?_)
                  refine lv_iload hx hb dX6_readParties_56 (lv_at hl 0 rfl) ?_
                  refine lv_iconst (v := (-1)) hx hb dX6_readParties_58 (by decide) ?_
                  refine lv_icmp_ne (tgt := 66) hx hb dX6_readParties_59 (by decide) (fun c59 => ?_) (fun c59 => ?_)
                  · exact absurd (by decide) c59
                  · skip
                    refine lv_iconst (v := (-1)) hx hb dX6_readParties_62 (by decide) ?_
                    refine lv_goto (tgt := 73) hx hb dX6_readParties_63 (by decide) ?_
                    refine lv_istore (lv' := [(5, .int (-1)), (4, .int (-1)), (3, .int (-1)), (2, .int (nI (B 17))), (0, .ref (gA G0 12)), (1, .ref (gA G0 h))]) hx hb dX6_readParties_73 hl (by decide) rfl (fun ls hl => ?_)
                    refine lv_iload hx hb dX6_readParties_75 (lv_at hl 0 rfl) ?_
                    refine lv_iconst (v := (-1)) hx hb dX6_readParties_77 (by decide) ?_
                    refine lv_icmp_eq (tgt := 88) hx hb dX6_readParties_78 (by decide) (fun c78 => ?_) (fun c78 => ?_)
                    · skip
                      refine lv_iconst (v := 0) hx hb dX6_readParties_88 (by decide) ?_
                      refine W.widen (k := 16) (n := 48) (by omega) (by omega) ?_
                      rw [← hQ0]
                      refine r_zreta hx hb hr hlocks hW (Or.inl rfl) ?_ dX6_readParties_89
                      refine ⟨hX, (ChR.tr (ChR.tr hC0 (ChR.ch hok30.2.2.2 (fun _ z => Or.inl z))) (ChR.ch hfl37.2.2.2 (fun _ z => Or.inl z))), hsf.2.2.2.2.2, Or.inr ⟨f37, p37, hR.trans ((pPts_s b17 h11).trans (PB_r ?_)), rfl, hfl37.1, hfl37.2.1⟩⟩
                      unfold pParty; rw [if_neg (by omega), PB_r hpn37]
                    · exact absurd (by decide) c78
            · skip
              rw [t_eq, show (16 : Int32).toInt = 16 from by decide] at c20
              have hn6 : B 17 = 16 := by rw [n_toInt (by omega)] at c20; omega
              refine lv_aload_n hx hb dX6_readParties_23 rfl (lv_at hl 1 rfl) ?_
              refine lv_iconst (v := 3) hx hb dX6_readParties_24 (by decide) ?_
              refine W.eq (g2 := F0 mM 25 ls [.int (nI 3), .ref (gA G0 12)]) rfl ?_
              refine r_calli hW hA (va_runV (As := [.int (nI 3)]) (rest := []) ⟨hx, hb, hml, hown, hts⟩ (t_X6_fail l D G0 T0 _ hG hP_T0 3 (SK T ts a) hRd.1.1) (cwV 1 hts gX6_readParties_X6_fail rfl rfl rfl (by decide +kernel) ⟨Nat.le_of_ble_eq_true rfl, Nat.le_of_ble_eq_true rfl⟩) (r_preV (k := 12) hA hW (ci := 5) (C := RX6) (T := TX6) (N := 8) rfl rfl (g_lt hG (by decide)) (g_kd hG (by decide) rfl) rfl rfl) rfl rfl hl.1 rfl (lv_room (Nat.le_of_ble_eq_true rfl)) dX6_readParties_25 ⟨(show B 17 + 0 ≤ 16 by omega), (show 3 * B 17 + 0 ≤ 48 by omega)⟩) (fun r25 S25 H locs hp25 hW => ?_)
              obtain ⟨rfl, hfl25⟩ := hp25
              have hsf := SpX.ch hsp hh hfl25.2.2.2
              refine W.widen (k := 16) (n := 48) (by omega) (by omega) ?_
              rw [← hQ0]
              refine r_zreta hx hb hr hlocks hW (Or.inl rfl) ?_ dX6_readParties_28
              refine ⟨hX, (ChR.tr hC0 (ChR.ch hfl25.2.2.2 (fun _ z => Or.inl z))), hsf.2.2.2.2.2, Or.inr ⟨3, (SK T ts a), hR.trans ((pPts_s b17 h11).trans (PB_r ?_)), rfl, hfl25.1, hfl25.2.1⟩⟩
              unfold pParty; rw [if_pos (by omega)]
        · skip
          refine lv_if_eq (tgt := 112) hx hb dX6_readParties_14 (by decide) (fun c14 => ?_) (fun c14 => ?_)
          · skip
            refine lv_iconst (v := 1) hx hb dX6_readParties_112 (by decide) ?_
            refine W.widen (k := 16) (n := 48) (by omega) (by omega) ?_
            rw [← hQ0]
            refine r_zreta hx hb hr hlocks hW (Or.inr rfl) ?_ dX6_readParties_113
            exact ⟨hX, hC0, hsp.2.2.2.2.2, Or.inl ⟨B, a, hR.trans (pPts_e b17 h11), rfl, hRd, hl6, hl7, hsp⟩⟩
          · exact absurd (by decide) c14
  exact L2 _ G S B0 a0 _ _ ls (Nat.lt_succ_self _) XtP.rf hRd0 rfl rfl hS0 hB0 ChR.rf (by rw [h170]) hW (lv_sub hl [0, 1, 2] rfl)
