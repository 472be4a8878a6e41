def rmX11_broke : Jvm.Room := { frames := 2, cells := 0, slots := 0, locals := 52 }
set_option maxHeartbeats 4000000 in
set_option maxRecDepth 100000 in
theorem t_X11_broke (l : Launch) (D : Dc) (G : Gg) (S : Sg) (z : Nat) (hG : GrG G) (hP : GrP G S) (B : Nat → Nat) (c : Nat) (hB : BP B c) (hc : c < 100000) (hM : ∀ k, k < 140 → gj S 66 k = lN (B k)) (it : Nat → Nat → Int32) (la le : Nat → Int32) (hRX : RowsM S it la le) (hL : LeOK le) (st : Int32) (hst : gi S 65 4 = st) (a1 a2 a3 : Int32) : ML l yX11_broke wsX11_broke rmX11_broke D G S z [.ref (gA G 65), .int a1, .int a2, .int a3] (fun r S' => r = (fBroke B it le st a1 a2 a3).1 ∧ gi S' 65 4 = (fBroke B it le st a1 a2 a3).2 ∧ Ch (fun k => k = 65) S S') := by
  refine Met.ofW (cc := cX11_broke) (maxL := 13) (ret := (some .long)) (by decide +kernel) rfl ?_
  intro pP eE s mM args bl mT cD s₁ bD hml hv
  obtain ⟨rfl, hv⟩ := hv
  have hz := hv.1
  subst hz
  have hx := bD.exec
  have hb := bD.bytes
  have hr := bD.returns
  have hts := atoms_spec (ws := wsX11_broke) bD.pre
  have hown : s.vm.findClass RX11 = some mM.cls := findClass_of_methodNamed bD.named
  have hlocks := bD.notSynchronized
  have hW := Wd.start hv
  have hA : ∀ q, s.heap.size ≤ q → AW G s.heap.size q := fun q h => Or.inr h
  have hl := lv_entry ([.ref (gA G 65), .int a1, .int a2, .int a3]) (n := 13) (Nat.le_of_ble_eq_true rfl)
  rw [lg_entry_eq]
  generalize (lg_sl ([.ref (gA G 65), .int a1, .int a2, .int a3]) ++ List.replicate (13 - (lg_sl ([.ref (gA G 65), .int a1, .int a2, .int a3])).length) Slot.unset).toArray = ls at hl ⊢
  have hl : lv_has ls 13 [(0, .ref (gA G 65)), (1, .int a1), (2, .int a2), (3, .int a3)] := hl
  have q0 := hts (.constantLong RX11 178 (-9000000000000000002)) (List.mem_of_getElem? (i := 1) rfl)
  have q1 := hts (.constantLong RX11 212 (13)) (List.mem_of_getElem? (i := 2) rfl)
  have q2 := hts (.fieldLink RX11 20 "WoodForTwoModel" "length" "[I") (List.mem_of_getElem? (i := 4) rfl)
  have q3 := hts (.fieldLink RX11 13 "WoodForTwoModel" "items" "[I") (List.mem_of_getElem? (i := 5) rfl)
  have q4 := hts (.fieldLink RX11 7 "WoodForTwoModel" "w" "[J") (List.mem_of_getElem? (i := 6) rfl)
  have q5 := hts (.constantLong RX11 56 (-9000000000000000001)) (List.mem_of_getElem? (i := 3) rfl)
  have iX11 : ∀ w ∈ wsX110, w ∈ wsX11_broke := fun _ h => List.mem_cons_of_mem _ (List.mem_append_right _ (h))
  generalize hQ0 : MQ bl _ _ s _ _ _ = Q0
  have hbp := BP_b hB
  refine lv_aload_n hx hb dX11_broke_0 rfl (lv_at hl 0 rfl) ?_
  refine r_calli hW hA (va_runV (As := []) (rest := []) ⟨hx, hb, hml, hown, hts⟩ (t_X11_isNone l D G S _ hG hP B c hB hc hM) (cwV 0 hts gX11_broke_X11_isNone rfl rfl rfl (by decide +kernel) ⟨Nat.le_of_ble_eq_true rfl, Nat.le_of_ble_eq_true rfl⟩) (r_preV (k := 65) hA hW (ci := 10) (C := RX11) (T := TX11) (N := 20) rfl rfl (g_lt hG (by decide)) (g_kd hG (by decide) rfl) rfl rfl) rfl rfl hl.1 rfl (lv_room (Nat.le_of_ble_eq_true rfl)) dX11_broke_1 ⟨Nat.zero_le _, Nat.zero_le _⟩) (fun r1 S1 H locs hp1 hW => ?_)
  obtain ⟨hs1, hp1⟩ := hp1
  rw [hs1] at hW
  rcases hp1 with ⟨rfl, h1⟩ | ⟨rfl, h1⟩
  · skip
    refine lv_if_eq (tgt := 11) hx hb dX11_broke_4 (by decide) (fun c4 => ?_) (fun c4 => ?_)
    · exact absurd c4 (by decide)
    · skip
      refine lv_ldc2 (v := (-9000000000000000002)) hx hb hown q0 dX11_broke_7 ?_
      rw [← hQ0]
      refine r_lret hx hb hr hlocks hW ?_ dX11_broke_10
      have e : fBroke B it le st a1 a2 a3 = (STATEL, st) := by unfold fBroke; rw [if_pos h1]
      rw [e]
      exact ⟨rfl, hst, Ch.rf⟩
  · skip
    refine lv_if_eq (tgt := 11) hx hb dX11_broke_4 (by decide) (fun c4 => ?_) (fun c4 => ?_)
    · skip
      refine lv_aload_n hx hb dX11_broke_11 rfl (lv_at hl 0 rfl) ?_
      refine lv_iload_n hx hb dX11_broke_12 rfl (lv_at hl 1 rfl) ?_
      refine r_calli hW hA (va_runV (As := [.int a1]) (rest := []) ⟨hx, hb, hml, hown, hts⟩ (t_X11_isRow l D G S _ hG hP a1) (cwV 1 hts gX11_broke_X11_isRow rfl rfl rfl (by decide +kernel) ⟨Nat.le_of_ble_eq_true rfl, Nat.le_of_ble_eq_true rfl⟩) (r_preV (k := 65) hA hW (ci := 10) (C := RX11) (T := TX11) (N := 20) rfl rfl (g_lt hG (by decide)) (g_kd hG (by decide) rfl) rfl rfl) rfl rfl hl.1 rfl (lv_room (Nat.le_of_ble_eq_true rfl)) dX11_broke_13 ⟨Nat.zero_le _, Nat.zero_le _⟩) (fun r13 S13 H locs hp13 hW => ?_)
      obtain ⟨hs13, hp13⟩ := hp13
      rw [hs13] at hW
      rcases hp13 with ⟨rfl, h13⟩ | ⟨rfl, h13⟩
      · skip
        refine lv_if_eq (tgt := 41) hx hb dX11_broke_16 (by decide) (fun c16 => ?_) (fun c16 => ?_)
        · exact absurd c16 (by decide)
        · skip
          refine lv_iload_n hx hb dX11_broke_19 rfl (lv_at hl 2 rfl) ?_
          refine lv_i2l hx hb dX11_broke_20 rfl ?_
          refine lv_lconst (v := 1) hx hb dX11_broke_21 (by decide) ?_
          refine lv_ldc2 (v := (13)) hx hb hown q1 dX11_broke_22 ?_
          refine r_calli hW hA (va_runS (As := [.long (Int32.toInt64 a2), .long 1, .long (13)]) (rest := []) ⟨hx, hb, hml, hown, hts⟩ (t_X11_in l D G S _ (Int32.toInt64 a2) 1 (13) (a2).toInt 1 13 (Int32.toInt_toInt64 _) (by decide) (by decide)) (va_cwS 3 hts gX11_broke_X11_in rfl rfl rfl (by decide +kernel) ⟨Nat.le_of_ble_eq_true rfl, Nat.le_of_ble_eq_true rfl⟩) (r_preS hA hW) rfl rfl hl.1 rfl (lv_room (Nat.le_of_ble_eq_true rfl)) dX11_broke_25 ⟨Nat.zero_le _, Nat.zero_le _⟩) (fun r25 S25 H locs hp25 hW => ?_)
          obtain ⟨hs25, hp25⟩ := hp25
          rw [hs25] at hW
          rcases hp25 with ⟨rfl, h25⟩ | ⟨rfl, h25⟩
          · skip
            refine lv_if_eq (tgt := 41) hx hb dX11_broke_28 (by decide) (fun c28 => ?_) (fun c28 => ?_)
            · exact absurd c28 (by decide)
            · skip
              refine lv_iload_n hx hb dX11_broke_31 rfl (lv_at hl 3 rfl) ?_
              refine lv_i2l hx hb dX11_broke_32 rfl ?_
              refine lv_lconst (v := 0) hx hb dX11_broke_33 (by decide) ?_
              refine lv_lconst (v := 1) hx hb dX11_broke_34 (by decide) ?_
              refine r_calli hW hA (va_runS (As := [.long (Int32.toInt64 a3), .long 0, .long 1]) (rest := []) ⟨hx, hb, hml, hown, hts⟩ (t_X11_in l D G S _ (Int32.toInt64 a3) 0 1 (a3).toInt 0 1 (Int32.toInt_toInt64 _) (by decide) (by decide)) (va_cwS 3 hts gX11_broke_X11_in rfl rfl rfl (by decide +kernel) ⟨Nat.le_of_ble_eq_true rfl, Nat.le_of_ble_eq_true rfl⟩) (r_preS hA hW) rfl rfl hl.1 rfl (lv_room (Nat.le_of_ble_eq_true rfl)) dX11_broke_35 ⟨Nat.zero_le _, Nat.zero_le _⟩) (fun r35 S35 H locs hp35 hW => ?_)
              obtain ⟨hs35, hp35⟩ := hp35
              rw [hs35] at hW
              rcases hp35 with ⟨rfl, h35⟩ | ⟨rfl, h35⟩
              · skip
                refine lv_if_ne (tgt := 45) hx hb dX11_broke_38 (by decide) (fun c38 => ?_) (fun c38 => ?_)
                · skip
                  have hn_a1 := n_nat (x := a1) (by omega)
                  have e_a1 := n_nI (x := a1) (by omega)
                  have hn_a2 := n_nat (x := a2) (by omega)
                  have e_a2 := n_nI (x := a2) (by omega)
                  have hle_a1 := hL a1.toNatClampNeg (by omega)
                  refine lv_aload_n hx hb dX11_broke_45 rfl (lv_at hl 0 rfl) ?_
                  refine r_getr (ci := 10) (C := RX11) (T := TX11) (N := 20) hx hb hts iX11 hown hW rfl 65 3 rfl (g_lt hG (by decide)) (g_kd hG (by decide) rfl) (by decide) q2 (fun _ h9 => h9) (hP _ (List.mem_of_getElem? (i := 63) rfl)) rfl rfl dX11_broke_46 ?_
                  refine lv_iload_n hx hb dX11_broke_49 rfl (lv_at hl 1 rfl) ?_
                  refine r_iald hx hb hW 69 rfl (g_lt hG (by decide)) (g_kd hG (by decide) rfl) (g_ix hG (c := 8) (by decide) rfl (t_in (by omega) (by omega))) (le a1.toNatClampNeg) (hRX a1.toNatClampNeg (by omega)).2.1 dX11_broke_50 ?_
                  refine lv_if_ge (tgt := 60) hx hb dX11_broke_51 (by decide) (fun c51 => ?_) (fun c51 => ?_)
                  · skip
                    rw [t_le, show (0 : Int32).toInt = 0 from by decide] at c51
                    refine lv_iconst (v := 3) hx hb dX11_broke_60 (by decide) ?_
                    refine lv_iload_n hx hb dX11_broke_61 rfl (lv_at hl 2 rfl) ?_
                    refine lv_imul hx hb dX11_broke_62 ?_
                    rw [show ((3 * a2) : Int32) = (nI (3 * a2.toNatClampNeg)) from (congrArg (fun z => (3 : Int32) * z) e_a2).trans (n_mul 3 _)]
                    refine lv_aload_n hx hb dX11_broke_63 rfl (lv_at hl 0 rfl) ?_
                    refine r_getr (ci := 10) (C := RX11) (T := TX11) (N := 20) hx hb hts iX11 hown hW rfl 65 3 rfl (g_lt hG (by decide)) (g_kd hG (by decide) rfl) (by decide) q2 (fun _ h9 => h9) (hP _ (List.mem_of_getElem? (i := 63) rfl)) rfl rfl dX11_broke_64 ?_
                    refine lv_iload_n hx hb dX11_broke_67 rfl (lv_at hl 1 rfl) ?_
                    refine r_iald hx hb hW 69 rfl (g_lt hG (by decide)) (g_kd hG (by decide) rfl) (g_ix hG (c := 8) (by decide) rfl (t_in (by omega) (by omega))) (le a1.toNatClampNeg) (hRX a1.toNatClampNeg (by omega)).2.1 dX11_broke_68 ?_
                    refine lv_icmp_le (tgt := 78) hx hb dX11_broke_69 (by decide) (fun c69 => ?_) (fun c69 => ?_)
                    · skip
                      rw [t_le] at c69
                      rw [n_toInt (by omega)] at c69
                      have hf0 : fos (le a1.toNatClampNeg) 0 (nI (3 * a2.toNatClampNeg)) = 0 := by unfold fos; rw [if_neg (by omega), if_pos ⟨by decide, by rw [n_toInt (by omega)]; omega, by rw [n_toInt (by omega), show (0 : Int32).toInt = 0 from by decide]; omega⟩]
                      refine lv_aload_n hx hb dX11_broke_78 rfl (lv_at hl 0 rfl) ?_
                      refine lv_iload_n hx hb dX11_broke_79 rfl (lv_at hl 1 rfl) ?_
                      refine lv_iconst (v := 3) hx hb dX11_broke_80 (by decide) ?_
                      refine lv_iload_n hx hb dX11_broke_81 rfl (lv_at hl 2 rfl) ?_
                      refine lv_imul hx hb dX11_broke_82 ?_
                      rw [show ((3 * a2) : Int32) = (nI (3 * a2.toNatClampNeg)) from (congrArg (fun z => (3 : Int32) * z) e_a2).trans (n_mul 3 _)]
                      refine lv_iconst (v := 0) hx hb dX11_broke_83 (by decide) ?_
                      refine lv_sipush (v := 999) hx hb dX11_broke_84 (by decide) ?_
                      refine lv_iconst (v := 3) hx hb dX11_broke_87 (by decide) ?_
                      refine W.eq (g2 := F0 mM 88 ls [.int 3, .int 999, .int 0, .int (nI (3 * a2.toNatClampNeg)), .int (nI a1.toNatClampNeg), .ref (gA G 65)]) (by rw [← e_a1]) ?_
                      refine r_calli hW hA (va_runV (As := [.int (nI a1.toNatClampNeg), .int (nI (3 * a2.toNatClampNeg)), .int 0, .int 999, .int 3]) (rest := []) ⟨hx, hb, hml, hown, hts⟩ (t_X11_areWithin_3 l D G S _ hG hP it la le hRX a1.toNatClampNeg (3 * a2.toNatClampNeg) (by omega) (by omega)) (cwV 5 hts gX11_broke_X11_areWithin rfl rfl rfl (by decide +kernel) ⟨Nat.le_of_ble_eq_true rfl, Nat.le_of_ble_eq_true rfl⟩) (r_preV (k := 65) hA hW (ci := 10) (C := RX11) (T := TX11) (N := 20) rfl rfl (g_lt hG (by decide)) (g_kd hG (by decide) rfl) rfl rfl) rfl rfl hl.1 rfl (lv_room (Nat.le_of_ble_eq_true rfl)) dX11_broke_88 ⟨Nat.zero_le _, Nat.zero_le _⟩) (fun r88 S88 H locs hp88 hW => ?_)
                      obtain ⟨hs88, hp88⟩ := hp88
                      rw [hs88] at hW
                      rcases hp88 with ⟨rfl, h88⟩ | ⟨rfl, h88⟩
                      · skip
                        refine lv_if_ne (tgt := 98) hx hb dX11_broke_91 (by decide) (fun c91 => ?_) (fun c91 => ?_)
                        · skip
                          have hall := wOK3_nt.mp h88
                          have hB1 : BP1 B c := hB.resolve_left (fun z => by have z9 := z.2 132; omega)
                          obtain ⟨b0, b1, b2, b3, b4, b5, b6, b7, b8, b9, b10, b11, b12⟩ := id hB1
                          refine lv_lconst (v := 0) hx hb dX11_broke_98 (by decide) ?_
                          refine lv_lstore (lv' := [(4, .long 0), (0, .ref (gA G 65)), (1, .int a1), (2, .int a2), (3, .int a3)]) hx hb dX11_broke_99 hl (by decide) rfl (fun ls hl => ?_)
                          refine lv_lconst (v := 0) hx hb dX11_broke_101 (by decide) ?_
                          refine lv_lstore (lv' := [(6, .long 0), (4, .long 0), (0, .ref (gA G 65)), (1, .int a1), (2, .int a2), (3, .int a3)]) hx hb dX11_broke_102 hl (by decide) rfl (fun ls hl => ?_)
                          refine lv_iconst (v := 0) hx hb dX11_broke_104 (by decide) ?_
                          refine lv_istore (lv' := [(8, .int 0), (6, .long 0), (4, .long 0), (0, .ref (gA G 65)), (1, .int a1), (2, .int a2), (3, .int a3)]) hx hb dX11_broke_105 hl (by decide) rfl (fun ls hl => ?_)
                          have L107 : ∀ (n : Nat) (k : Nat) (H : Heap) (locs : List Loc) (ls : Array Slot), (a2.toNatClampNeg - k) < n → k ≤ a2.toNatClampNeg → Wd D (AW G s.heap.size) s G S H locs → lv_has ls 13 [(8, .int (nI k)), (4, .long (whoF (fun k => 0 < lkN B (it a1.toNatClampNeg) k) k)), (6, .long (lN (lkS B (it a1.toNatClampNeg) k))), (0, .ref (gA G 65)), (1, .int a1), (2, .int a2), (3, .int a3)] → W pP l eE (headSpec wsX11_broke rmX11_broke).room s mM ([.ref (gA G 65), .int a1, .int a2, .int a3] : List Value).toArray bl mT cD H locs 0 0 Q0 (F0 mM 107 ls []) := by
                            intro n
                            induction n with
                            | zero => intro k H locs ls hm; exact absurd hm (Nat.not_lt_zero _)
                            | succ n ih107 =>
                              intro k H locs ls hm107 hk hW hl
                              refine lv_iload hx hb dX11_broke_107 (lv_at hl 0 rfl) ?_
                              refine lv_iload_n hx hb dX11_broke_109 rfl (lv_at hl 5 rfl) ?_
                              refine lv_icmp_ge (tgt := 255) hx hb dX11_broke_110 (by decide) (fun c110 => ?_) (fun c110 => ?_)
                              · skip
                                rw [t_le] at c110
                                have hka : k = a2.toNatClampNeg := by rw [n_toInt (by omega)] at c110; omega
                                refine lv_aload_n hx hb dX11_broke_255 rfl (lv_at hl 3 rfl) ?_
                                refine lv_iload_n hx hb dX11_broke_256 rfl (lv_at hl 6 rfl) ?_
                                refine lv_if_ne (tgt := 265) hx hb dX11_broke_257 (by decide) (fun c257 => ?_) (fun c257 => ?_)
                                · skip
                                  rw [t_eq, show (0 : Int32).toInt = 0 from by decide] at c257
                                  refine lv_lload hx hb dX11_broke_265 (lv_at hl 2 rfl) ?_
                                  refine r_calll hW hA (va_runV (As := [.long (lN (lkS B (it a1.toNatClampNeg) k))]) (rest := []) ⟨hx, hb, hml, hown, hts⟩ (t_X11_good l D G S _ hG hP (lN (lkS B (it a1.toNatClampNeg) k))) (cwV 1 hts gX11_broke_X11_good rfl rfl rfl (by decide +kernel) ⟨Nat.le_of_ble_eq_true rfl, Nat.le_of_ble_eq_true rfl⟩) (r_preV (k := 65) hA hW (ci := 10) (C := RX11) (T := TX11) (N := 20) rfl rfl (g_lt hG (by decide)) (g_kd hG (by decide) rfl) rfl rfl) rfl rfl hl.1 rfl (lv_room (Nat.le_of_ble_eq_true rfl)) dX11_broke_267 ⟨Nat.zero_le _, Nat.zero_le _⟩) (fun r267 S267 H locs hp267 hW => ?_)
                                  obtain ⟨hs267, rfl⟩ := hp267
                                  rw [hs267] at hW
                                  rw [← hQ0]
                                  refine r_lret hx hb hr hlocks hW ?_ dX11_broke_270
                                  subst hka
                                  have e : fBroke B it le st a1 a2 a3 = (lN (lkS B (it a1.toNatClampNeg) a2.toNatClampNeg), 0) := by unfold fBroke; rw [if_neg h1, if_pos (by omega), if_pos hf0, if_pos hall, if_neg c257]
                                  rw [e]
                                  exact ⟨rfl, congrFun (e_is _ _ _) 4, (Ch.ri Ch.rf (by omega))⟩
                                · skip
                                  rw [t_eq, show (0 : Int32).toInt = 0 from by decide] at c257
                                  refine lv_lload hx hb dX11_broke_260 (lv_at hl 1 rfl) ?_
                                  refine lv_goto (tgt := 267) hx hb dX11_broke_262 (by decide) ?_
                                  refine r_calll hW hA (va_runV (As := [.long (whoF (fun k => 0 < lkN B (it a1.toNatClampNeg) k) k)]) (rest := []) ⟨hx, hb, hml, hown, hts⟩ (t_X11_good l D G S _ hG hP (whoF (fun k => 0 < lkN B (it a1.toNatClampNeg) k) k)) (cwV 1 hts gX11_broke_X11_good rfl rfl rfl (by decide +kernel) ⟨Nat.le_of_ble_eq_true rfl, Nat.le_of_ble_eq_true rfl⟩) (r_preV (k := 65) hA hW (ci := 10) (C := RX11) (T := TX11) (N := 20) rfl rfl (g_lt hG (by decide)) (g_kd hG (by decide) rfl) rfl rfl) rfl rfl hl.1 rfl (lv_room (Nat.le_of_ble_eq_true rfl)) dX11_broke_267 ⟨Nat.zero_le _, Nat.zero_le _⟩) (fun r267 S267 H locs hp267 hW => ?_)
                                  obtain ⟨hs267, rfl⟩ := hp267
                                  rw [hs267] at hW
                                  rw [← hQ0]
                                  refine r_lret hx hb hr hlocks hW ?_ dX11_broke_270
                                  subst hka
                                  have e : fBroke B it le st a1 a2 a3 = (whoF (fun k => 0 < lkN B (it a1.toNatClampNeg) k) a2.toNatClampNeg, 0) := by unfold fBroke; rw [if_neg h1, if_pos (by omega), if_pos hf0, if_pos hall, if_pos c257]
                                  rw [e]
                                  exact ⟨rfl, congrFun (e_is _ _ _) 4, (Ch.ri Ch.rf (by omega))⟩
                              · skip
                                rw [t_le] at c110
                                have hkl : k < a2.toNatClampNeg := by rw [n_toInt (by omega)] at c110; omega
                                refine lv_aload_n hx hb dX11_broke_113 rfl (lv_at hl 3 rfl) ?_
                                refine r_getr (ci := 10) (C := RX11) (T := TX11) (N := 20) hx hb hts iX11 hown hW rfl 65 1 rfl (g_lt hG (by decide)) (g_kd hG (by decide) rfl) (by decide) q3 (fun _ h9 => h9) (hP _ (List.mem_of_getElem? (i := 61) rfl)) rfl rfl dX11_broke_114 ?_
                                refine lv_bipush (v := 40) hx hb dX11_broke_117 (by decide) ?_
                                refine lv_iload_n hx hb dX11_broke_119 rfl (lv_at hl 4 rfl) ?_
                                refine lv_imul hx hb dX11_broke_120 ?_
                                rw [show ((40 * a1) : Int32) = (nI (40 * a1.toNatClampNeg)) from (congrArg (fun z => (40 : Int32) * z) e_a1).trans (n_mul 40 _)]
                                refine lv_iconst (v := 3) hx hb dX11_broke_121 (by decide) ?_
                                refine lv_iload hx hb dX11_broke_122 (lv_at hl 0 rfl) ?_
                                refine lv_imul hx hb dX11_broke_124 ?_
                                rw [show ((3 * (nI k)) : Int32) = (nI (3 * k)) from n_mul 3 k]
                                refine lv_iadd hx hb dX11_broke_125 ?_
                                rw [show (((nI (40 * a1.toNatClampNeg)) + (nI (3 * k))) : Int32) = (nI ((40 * a1.toNatClampNeg) + (3 * k))) from n_add (40 * a1.toNatClampNeg) (3 * k)]
                                refine r_iald hx hb hW 67 rfl (g_lt hG (by decide)) (g_kd hG (by decide) rfl) (g_ix hG (c := 320) (by decide) rfl (n_inI (by omega) (by decide))) (it a1.toNatClampNeg (3 * k)) (by rw [n_clamp (by omega)]; exact (hRX a1.toNatClampNeg (by omega)).2.2 (3 * k) (by omega)) dX11_broke_126 ?_
                                have hok := hall k hkl
                                obtain ⟨⟨g1, g2⟩, ⟨g3, g4⟩, g5, g6⟩ := id hok
                                have e0 : (it a1.toNatClampNeg (3 * k)) = nI (it a1.toNatClampNeg (3 * k)).toNatClampNeg := n_nI (by omega)
                                have e1 : (it a1.toNatClampNeg (3 * k + 1)) = nI (it a1.toNatClampNeg (3 * k + 1)).toNatClampNeg := n_nI (by omega)
                                have e2 : (it a1.toNatClampNeg (3 * k + 2)) = nI (it a1.toNatClampNeg (3 * k + 2)).toNatClampNeg := n_nI (by omega)
                                have f0 := n_nat (x := (it a1.toNatClampNeg (3 * k))) (by omega)
                                have f1 := n_nat (x := (it a1.toNatClampNeg (3 * k + 1))) (by omega)
                                have f2 := n_nat (x := (it a1.toNatClampNeg (3 * k + 2))) (by omega)
                                have hmb : (it a1.toNatClampNeg (3 * k)).toNatClampNeg * B 1 ≤ 9 * 9 := Nat.mul_le_mul (by omega) b3
                                have ez : ((it a1.toNatClampNeg (3 * k)) : Int32) = (nI (it a1.toNatClampNeg (3 * k)).toNatClampNeg) := e0
                                refine W.eq (g2 := F0 mM 127 ls [.int (nI (it a1.toNatClampNeg (3 * k)).toNatClampNeg)]) (by rw [← ez]) ?_
                                refine lv_istore (lv' := [(9, .int (nI (it a1.toNatClampNeg (3 * k)).toNatClampNeg)), (8, .int (nI k)), (4, .long (whoF (fun k => 0 < lkN B (it a1.toNatClampNeg) k) k)), (6, .long (lN (lkS B (it a1.toNatClampNeg) k))), (0, .ref (gA G 65)), (1, .int a1), (2, .int a2), (3, .int a3)]) hx hb dX11_broke_127 hl (by decide) rfl (fun ls hl => ?_)
                                refine lv_aload_n hx hb dX11_broke_129 rfl (lv_at hl 4 rfl) ?_
                                refine r_getr (ci := 10) (C := RX11) (T := TX11) (N := 20) hx hb hts iX11 hown hW rfl 65 1 rfl (g_lt hG (by decide)) (g_kd hG (by decide) rfl) (by decide) q3 (fun _ h9 => h9) (hP _ (List.mem_of_getElem? (i := 61) rfl)) rfl rfl dX11_broke_130 ?_
                                refine lv_bipush (v := 40) hx hb dX11_broke_133 (by decide) ?_
                                refine lv_iload_n hx hb dX11_broke_135 rfl (lv_at hl 5 rfl) ?_
                                refine lv_imul hx hb dX11_broke_136 ?_
                                rw [show ((40 * a1) : Int32) = (nI (40 * a1.toNatClampNeg)) from (congrArg (fun z => (40 : Int32) * z) e_a1).trans (n_mul 40 _)]
                                refine lv_iconst (v := 3) hx hb dX11_broke_137 (by decide) ?_
                                refine lv_iload hx hb dX11_broke_138 (lv_at hl 1 rfl) ?_
                                refine lv_imul hx hb dX11_broke_140 ?_
                                rw [show ((3 * (nI k)) : Int32) = (nI (3 * k)) from n_mul 3 k]
                                refine lv_iadd hx hb dX11_broke_141 ?_
                                rw [show (((nI (40 * a1.toNatClampNeg)) + (nI (3 * k))) : Int32) = (nI ((40 * a1.toNatClampNeg) + (3 * k))) from n_add (40 * a1.toNatClampNeg) (3 * k)]
                                refine lv_iconst (v := 1) hx hb dX11_broke_142 (by decide) ?_
                                refine lv_iadd hx hb dX11_broke_143 ?_
                                rw [show (((nI ((40 * a1.toNatClampNeg) + (3 * k))) + 1) : Int32) = (nI (((40 * a1.toNatClampNeg) + (3 * k)) + 1)) from n_add ((40 * a1.toNatClampNeg) + (3 * k)) 1]
                                refine r_iald hx hb hW 67 rfl (g_lt hG (by decide)) (g_kd hG (by decide) rfl) (g_ix hG (c := 320) (by decide) rfl (n_inI (by omega) (by decide))) (it a1.toNatClampNeg (3 * k + 1)) (by rw [n_clamp (by omega), Nat.add_assoc]; exact (hRX a1.toNatClampNeg (by omega)).2.2 (3 * k + 1) (by omega)) dX11_broke_144 ?_
                                have ez : ((it a1.toNatClampNeg (3 * k + 1)) : Int32) = (nI (it a1.toNatClampNeg (3 * k + 1)).toNatClampNeg) := e1
                                refine W.eq (g2 := F0 mM 145 ls [.int (nI (it a1.toNatClampNeg (3 * k + 1)).toNatClampNeg)]) (by rw [← ez]) ?_
                                refine lv_iload hx hb dX11_broke_145 (lv_at hl 0 rfl) ?_
                                refine lv_aload_n hx hb dX11_broke_147 rfl (lv_at hl 4 rfl) ?_
                                refine r_getr (ci := 10) (C := RX11) (T := TX11) (N := 20) hx hb hts iX11 hown hW rfl 65 0 rfl (g_lt hG (by decide)) (g_kd hG (by decide) rfl) (by decide) q4 (fun _ h9 => h9) (hP _ (List.mem_of_getElem? (i := 60) rfl)) rfl rfl dX11_broke_148 ?_
                                refine lv_iconst (v := 1) hx hb dX11_broke_151 (by decide) ?_
                                refine W.eq (g2 := F0 mM 152 ls [.int (nI 1), .ref (gA G 66), .int (nI (it a1.toNatClampNeg (3 * k)).toNatClampNeg), .int (nI (it a1.toNatClampNeg (3 * k + 1)).toNatClampNeg)]) rfl ?_
                                refine r_lald hx hb hW 66 rfl (g_lt hG (by decide)) (g_kd hG (by decide) rfl) (g_ix hG (c := 560) (by decide) rfl (n_inI (by omega) (by decide))) (lN (B 1)) (by rw [n_clamp (by omega)]; exact (hM 1 (by omega))) dX11_broke_152 ?_
                                refine lv_l2i hx hb dX11_broke_153 rfl ?_
                                rw [show (Int64.toInt32 (lN (B 1)) : Int32) = nI (B 1) from lN_i _]
                                refine lv_imul hx hb dX11_broke_154 ?_
                                rw [show (((nI (it a1.toNatClampNeg (3 * k)).toNatClampNeg) * (nI (B 1))) : Int32) = (nI (((it a1.toNatClampNeg (3 * k)).toNatClampNeg) * (B 1))) from n_mul ((it a1.toNatClampNeg (3 * k)).toNatClampNeg) (B 1)]
                                refine lv_isub hx hb dX11_broke_155 ?_
                                refine lv_istore (lv' := [(10, .int ((nI (it a1.toNatClampNeg (3 * k + 1)).toNatClampNeg) - (nI (((it a1.toNatClampNeg (3 * k)).toNatClampNeg) * (B 1))))), (9, .int (nI (it a1.toNatClampNeg (3 * k)).toNatClampNeg)), (8, .int (nI k)), (4, .long (whoF (fun k => 0 < lkN B (it a1.toNatClampNeg) k) k)), (6, .long (lN (lkS B (it a1.toNatClampNeg) k))), (0, .ref (gA G 65)), (1, .int a1), (2, .int a2), (3, .int a3)]) hx hb dX11_broke_156 hl (by decide) rfl (fun ls hl => ?_)
                                refine lv_aload_n hx hb dX11_broke_158 rfl (lv_at hl 5 rfl) ?_
                                refine r_getr (ci := 10) (C := RX11) (T := TX11) (N := 20) hx hb hts iX11 hown hW rfl 65 1 rfl (g_lt hG (by decide)) (g_kd hG (by decide) rfl) (by decide) q3 (fun _ h9 => h9) (hP _ (List.mem_of_getElem? (i := 61) rfl)) rfl rfl dX11_broke_159 ?_
                                refine lv_bipush (v := 40) hx hb dX11_broke_162 (by decide) ?_
                                refine lv_iload_n hx hb dX11_broke_164 rfl (lv_at hl 6 rfl) ?_
                                refine lv_imul hx hb dX11_broke_165 ?_
                                rw [show ((40 * a1) : Int32) = (nI (40 * a1.toNatClampNeg)) from (congrArg (fun z => (40 : Int32) * z) e_a1).trans (n_mul 40 _)]
                                refine lv_iconst (v := 3) hx hb dX11_broke_166 (by decide) ?_
                                refine lv_iload hx hb dX11_broke_167 (lv_at hl 2 rfl) ?_
                                refine lv_imul hx hb dX11_broke_169 ?_
                                rw [show ((3 * (nI k)) : Int32) = (nI (3 * k)) from n_mul 3 k]
                                refine lv_iadd hx hb dX11_broke_170 ?_
                                rw [show (((nI (40 * a1.toNatClampNeg)) + (nI (3 * k))) : Int32) = (nI ((40 * a1.toNatClampNeg) + (3 * k))) from n_add (40 * a1.toNatClampNeg) (3 * k)]
                                refine lv_iconst (v := 2) hx hb dX11_broke_171 (by decide) ?_
                                refine lv_iadd hx hb dX11_broke_172 ?_
                                rw [show (((nI ((40 * a1.toNatClampNeg) + (3 * k))) + 2) : Int32) = (nI (((40 * a1.toNatClampNeg) + (3 * k)) + 2)) from n_add ((40 * a1.toNatClampNeg) + (3 * k)) 2]
                                refine r_iald hx hb hW 67 rfl (g_lt hG (by decide)) (g_kd hG (by decide) rfl) (g_ix hG (c := 320) (by decide) rfl (n_inI (by omega) (by decide))) (it a1.toNatClampNeg (3 * k + 2)) (by rw [n_clamp (by omega), Nat.add_assoc]; exact (hRX a1.toNatClampNeg (by omega)).2.2 (3 * k + 2) (by omega)) dX11_broke_173 ?_
                                have ez : ((it a1.toNatClampNeg (3 * k + 2)) : Int32) = (nI (it a1.toNatClampNeg (3 * k + 2)).toNatClampNeg) := e2
                                refine W.eq (g2 := F0 mM 174 ls [.int (nI (it a1.toNatClampNeg (3 * k + 2)).toNatClampNeg)]) (by rw [← ez]) ?_
                                refine lv_iload hx hb dX11_broke_174 (lv_at hl 0 rfl) ?_
                                refine lv_if_le (tgt := 184) hx hb dX11_broke_176 (by decide) (fun c176 => ?_) (fun c176 => ?_)
                                · skip
                                  rw [t_le, show (0 : Int32).toInt = 0 from by decide] at c176
                                  rw [t_sub (by rw [n_toInt (by omega), n_toInt (by omega)]; omega) (by rw [n_toInt (by omega), n_toInt (by omega)]; omega), n_toInt (by omega), n_toInt (by omega)] at c176
                                  refine lv_iconst (v := 0) hx hb dX11_broke_184 (by decide) ?_
                                  have ez : (0 : Int32) = (nI ((it a1.toNatClampNeg (3 * k + 1)).toNatClampNeg - (it a1.toNatClampNeg (3 * k)).toNatClampNeg * B 1)) := by rw [show (it a1.toNatClampNeg (3 * k + 1)).toNatClampNeg - (it a1.toNatClampNeg (3 * k)).toNatClampNeg * B 1 = 0 by omega]; rfl
                                  refine W.eq (g2 := F0 mM 185 ls [.int (nI ((it a1.toNatClampNeg (3 * k + 1)).toNatClampNeg - (it a1.toNatClampNeg (3 * k)).toNatClampNeg * B 1)), .int (nI (it a1.toNatClampNeg (3 * k + 2)).toNatClampNeg)]) (by rw [← ez]) ?_
                                  refine lv_isub hx hb dX11_broke_185 ?_
                                  refine lv_istore (lv' := [(11, .int ((nI (it a1.toNatClampNeg (3 * k + 2)).toNatClampNeg) - (nI ((it a1.toNatClampNeg (3 * k + 1)).toNatClampNeg - (it a1.toNatClampNeg (3 * k)).toNatClampNeg * B 1)))), (10, .int ((nI (it a1.toNatClampNeg (3 * k + 1)).toNatClampNeg) - (nI (((it a1.toNatClampNeg (3 * k)).toNatClampNeg) * (B 1))))), (9, .int (nI (it a1.toNatClampNeg (3 * k)).toNatClampNeg)), (8, .int (nI k)), (4, .long (whoF (fun k => 0 < lkN B (it a1.toNatClampNeg) k) k)), (6, .long (lN (lkS B (it a1.toNatClampNeg) k))), (0, .ref (gA G 65)), (1, .int a1), (2, .int a2), (3, .int a3)]) hx hb dX11_broke_186 hl (by decide) rfl (fun ls hl => ?_)
                                  refine lv_aload_n hx hb dX11_broke_188 rfl (lv_at hl 6 rfl) ?_
                                  refine lv_aload_n hx hb dX11_broke_189 rfl (lv_at hl 6 rfl) ?_
                                  refine r_getr (ci := 10) (C := RX11) (T := TX11) (N := 20) hx hb hts iX11 hown hW rfl 65 0 rfl (g_lt hG (by decide)) (g_kd hG (by decide) rfl) (by decide) q4 (fun _ h9 => h9) (hP _ (List.mem_of_getElem? (i := 60) rfl)) rfl rfl dX11_broke_190 ?_
                                  refine lv_iconst (v := 2) hx hb dX11_broke_193 (by decide) ?_
                                  refine W.eq (g2 := F0 mM 194 ls [.int (nI 2), .ref (gA G 66), .ref (gA G 65)]) rfl ?_
                                  refine r_lald hx hb hW 66 rfl (g_lt hG (by decide)) (g_kd hG (by decide) rfl) (g_ix hG (c := 560) (by decide) rfl (n_inI (by omega) (by decide))) (lN (B 2)) (by rw [n_clamp (by omega)]; exact (hM 2 (by omega))) dX11_broke_194 ?_
                                  refine lv_l2i hx hb dX11_broke_195 rfl ?_
                                  rw [show (Int64.toInt32 (lN (B 2)) : Int32) = nI (B 2) from lN_i _]
                                  refine lv_iload hx hb dX11_broke_196 (lv_at hl 2 rfl) ?_
                                  refine r_calli hW hA (va_runV (As := [.int (nI (B 2)), .int (nI (it a1.toNatClampNeg (3 * k)).toNatClampNeg)]) (rest := []) ⟨hx, hb, hml, hown, hts⟩ (t_X11_dueOf l D G S _ hG hP (B 3) (B 1) (B 2) (it a1.toNatClampNeg (3 * k)).toNatClampNeg (hM 3 (by omega)) (hM 1 (by omega)) b4 (by omega) (by omega) b5 b3) (cwV 2 hts gX11_broke_X11_dueOf rfl rfl rfl (by decide +kernel) ⟨Nat.le_of_ble_eq_true rfl, Nat.le_of_ble_eq_true rfl⟩) (r_preV (k := 65) hA hW (ci := 10) (C := RX11) (T := TX11) (N := 20) rfl rfl (g_lt hG (by decide)) (g_kd hG (by decide) rfl) rfl rfl) rfl rfl hl.1 rfl (lv_room (Nat.le_of_ble_eq_true rfl)) dX11_broke_198 ⟨Nat.zero_le _, Nat.zero_le _⟩) (fun r198 S198 H locs hp198 hW => ?_)
                                  obtain ⟨hs198, rfl⟩ := hp198
                                  rw [hs198] at hW
                                  have hd : dueN (B 3) (B 1) (B 2) (it a1.toNatClampNeg (3 * k)).toNatClampNeg ≤ 729 := due_le b5 b3 (by omega)
                                  have hleft : ((nI (it a1.toNatClampNeg (3 * k + 2)).toNatClampNeg - (nI ((it a1.toNatClampNeg (3 * k + 1)).toNatClampNeg - (it a1.toNatClampNeg (3 * k)).toNatClampNeg * B 1)))).toInt = ((it a1.toNatClampNeg (3 * k + 2)).toNatClampNeg : Int) - ((it a1.toNatClampNeg (3 * k + 1)).toNatClampNeg - (it a1.toNatClampNeg (3 * k)).toNatClampNeg * B 1 : Nat) := by rw [t_sub, n_toInt, n_toInt] <;> (try rw [n_toInt]) <;> (try rw [n_toInt]) <;> omega
                                  have hdt : (nI (dueN (B 3) (B 1) (B 2) (it a1.toNatClampNeg (3 * k)).toNatClampNeg)).toInt = (dueN (B 3) (B 1) (B 2) (it a1.toNatClampNeg (3 * k)).toNatClampNeg : Int) := n_toInt (by omega)
                                  have hlk : (lkI B (it a1.toNatClampNeg) k).toInt = (dueN (B 3) (B 1) (B 2) (it a1.toNatClampNeg (3 * k)).toNatClampNeg : Int) - ((it a1.toNatClampNeg (3 * k + 2)).toNatClampNeg - ((it a1.toNatClampNeg (3 * k + 1)).toNatClampNeg - (it a1.toNatClampNeg (3 * k)).toNatClampNeg * B 1 : Nat)) := by unfold lkI; rw [t_sub] <;> omega
                                  have hlkN : lkN B (it a1.toNatClampNeg) k = ((lkI B (it a1.toNatClampNeg) k).toInt).toNat := by unfold lkN; omega
                                  refine lv_istore (lv' := [(12, .int (nI (dueN (B 3) (B 1) (B 2) (it a1.toNatClampNeg (3 * k)).toNatClampNeg))), (11, .int ((nI (it a1.toNatClampNeg (3 * k + 2)).toNatClampNeg) - (nI ((it a1.toNatClampNeg (3 * k + 1)).toNatClampNeg - (it a1.toNatClampNeg (3 * k)).toNatClampNeg * B 1)))), (10, .int ((nI (it a1.toNatClampNeg (3 * k + 1)).toNatClampNeg) - (nI (((it a1.toNatClampNeg (3 * k)).toNatClampNeg) * (B 1))))), (9, .int (nI (it a1.toNatClampNeg (3 * k)).toNatClampNeg)), (8, .int (nI k)), (4, .long (whoF (fun k => 0 < lkN B (it a1.toNatClampNeg) k) k)), (6, .long (lN (lkS B (it a1.toNatClampNeg) k))), (0, .ref (gA G 65)), (1, .int a1), (2, .int a2), (3, .int a3)]) hx hb dX11_broke_201 hl (by decide) rfl (fun ls hl => ?_)
                                  refine lv_lload hx hb dX11_broke_203 (lv_at hl 5 rfl) ?_
                                  refine lv_iload hx hb dX11_broke_205 (lv_at hl 1 rfl) ?_
                                  refine lv_iload hx hb dX11_broke_207 (lv_at hl 0 rfl) ?_
                                  refine lv_icmp_ge (tgt := 216) hx hb dX11_broke_209 (by decide) (fun c209 => ?_) (fun c209 => ?_)
                                  · skip
                                    have d209 := (t_le _ _).mp c209
                                    refine lv_iconst (v := 0) hx hb dX11_broke_216 (by decide) ?_
                                    refine r_calli hW hA (va_runS (As := [.int 0]) (rest := [.long (whoF (fun k => 0 < lkN B (it a1.toNatClampNeg) k) k)]) ⟨hx, hb, hml, hown, hts⟩ (t_X11_one l D G S _ 0 (by decide)) (va_cwS 1 hts gX11_broke_X11_one rfl rfl rfl (by decide +kernel) ⟨Nat.le_of_ble_eq_true rfl, Nat.le_of_ble_eq_true rfl⟩) (r_preS hA hW) rfl rfl hl.1 rfl (lv_room (Nat.le_of_ble_eq_true rfl)) dX11_broke_217 ⟨Nat.zero_le _, Nat.zero_le _⟩) (fun r217 S217 H locs hp217 hW => ?_)
                                    obtain ⟨hs217, rfl⟩ := hp217
                                    rw [hs217] at hW
                                    refine lv_i2l hx hb dX11_broke_220 rfl ?_
                                    have ez : ((Int32.toInt64 0) : Int64) = 0 := by decide
                                    refine W.eq (g2 := F0 mM 221 ls [.long 0, .long (whoF (fun k => 0 < lkN B (it a1.toNatClampNeg) k) k)]) (by rw [← ez]) ?_
                                    refine lv_iload hx hb dX11_broke_221 (lv_at hl 4 rfl) ?_
                                    refine lv_lshl hx hb dX11_broke_223 rfl ?_
                                    refine lv_lor hx hb dX11_broke_224 ?_
                                    refine lv_lstore (lv' := [(4, .long ((whoF (fun k => 0 < lkN B (it a1.toNatClampNeg) k) k) ||| (0 <<< (Int32.toInt64 (nI k) &&& 63)))), (12, .int (nI (dueN (B 3) (B 1) (B 2) (it a1.toNatClampNeg (3 * k)).toNatClampNeg))), (11, .int ((nI (it a1.toNatClampNeg (3 * k + 2)).toNatClampNeg) - (nI ((it a1.toNatClampNeg (3 * k + 1)).toNatClampNeg - (it a1.toNatClampNeg (3 * k)).toNatClampNeg * B 1)))), (10, .int ((nI (it a1.toNatClampNeg (3 * k + 1)).toNatClampNeg) - (nI (((it a1.toNatClampNeg (3 * k)).toNatClampNeg) * (B 1))))), (9, .int (nI (it a1.toNatClampNeg (3 * k)).toNatClampNeg)), (8, .int (nI k)), (6, .long (lN (lkS B (it a1.toNatClampNeg) k))), (0, .ref (gA G 65)), (1, .int a1), (2, .int a2), (3, .int a3)]) hx hb dX11_broke_225 hl (by decide) rfl (fun ls hl => ?_)
                                    refine lv_lload hx hb dX11_broke_227 (lv_at hl 6 rfl) ?_
                                    refine lv_iload hx hb dX11_broke_229 (lv_at hl 2 rfl) ?_
                                    refine lv_iload hx hb dX11_broke_231 (lv_at hl 1 rfl) ?_
                                    refine lv_icmp_ge (tgt := 245) hx hb dX11_broke_233 (by decide) (fun c233 => ?_) (fun c233 => ?_)
                                    · skip
                                      refine lv_lconst (v := 0) hx hb dX11_broke_245 (by decide) ?_
                                      refine lv_ladd hx hb dX11_broke_246 ?_
                                      rw [show (((lN (lkS B (it a1.toNatClampNeg) k)) + 0) : Int64) = (lN ((lkS B (it a1.toNatClampNeg) k) + 0)) from lN_add (lkS B (it a1.toNatClampNeg) k) 0]
                                      refine lv_lstore (lv' := [(6, .long (lN ((lkS B (it a1.toNatClampNeg) k) + 0))), (4, .long ((whoF (fun k => 0 < lkN B (it a1.toNatClampNeg) k) k) ||| (0 <<< (Int32.toInt64 (nI k) &&& 63)))), (12, .int (nI (dueN (B 3) (B 1) (B 2) (it a1.toNatClampNeg (3 * k)).toNatClampNeg))), (11, .int ((nI (it a1.toNatClampNeg (3 * k + 2)).toNatClampNeg) - (nI ((it a1.toNatClampNeg (3 * k + 1)).toNatClampNeg - (it a1.toNatClampNeg (3 * k)).toNatClampNeg * B 1)))), (10, .int ((nI (it a1.toNatClampNeg (3 * k + 1)).toNatClampNeg) - (nI (((it a1.toNatClampNeg (3 * k)).toNatClampNeg) * (B 1))))), (9, .int (nI (it a1.toNatClampNeg (3 * k)).toNatClampNeg)), (8, .int (nI k)), (0, .ref (gA G 65)), (1, .int a1), (2, .int a2), (3, .int a3)]) hx hb dX11_broke_247 hl (by decide) rfl (fun ls hl => ?_)
                                      have ew : ((whoF (fun k => 0 < lkN B (it a1.toNatClampNeg) k) k) ||| (0 <<< (Int32.toInt64 (nI k) &&& 63))) = whoF (fun k => 0 < lkN B (it a1.toNatClampNeg) k) (k + 1) := by rw [sh0]; show _ = (if 0 < lkN B (it a1.toNatClampNeg) k then _ else _); rw [if_neg (by omega)]
                                      have et : (lN ((lkS B (it a1.toNatClampNeg) k) + 0)) = lN (lkS B (it a1.toNatClampNeg) (k + 1)) := by show _ = lN (lkS B (it a1.toNatClampNeg) k + lkN B (it a1.toNatClampNeg) k); rw [show lkN B (it a1.toNatClampNeg) k = 0 by omega]
                                      have hl : lv_has ls 13 [(6, .long (lN (lkS B (it a1.toNatClampNeg) (k + 1)))), (4, .long (whoF (fun k => 0 < lkN B (it a1.toNatClampNeg) k) (k + 1))), (12, .int (nI (dueN (B 3) (B 1) (B 2) (it a1.toNatClampNeg (3 * k)).toNatClampNeg))), (11, .int ((nI (it a1.toNatClampNeg (3 * k + 2)).toNatClampNeg) - (nI ((it a1.toNatClampNeg (3 * k + 1)).toNatClampNeg - (it a1.toNatClampNeg (3 * k)).toNatClampNeg * B 1)))), (10, .int ((nI (it a1.toNatClampNeg (3 * k + 1)).toNatClampNeg) - (nI (((it a1.toNatClampNeg (3 * k)).toNatClampNeg) * (B 1))))), (9, .int (nI (it a1.toNatClampNeg (3 * k)).toNatClampNeg)), (8, .int (nI k)), (0, .ref (gA G 65)), (1, .int a1), (2, .int a2), (3, .int a3)] := by rw [← ew, ← et]; exact hl
                                      refine lv_iinc (v := (nI (k + 1))) (lv' := [(8, .int (nI (k + 1))), (6, .long (lN (lkS B (it a1.toNatClampNeg) (k + 1)))), (4, .long (whoF (fun k => 0 < lkN B (it a1.toNatClampNeg) k) (k + 1))), (12, .int (nI (dueN (B 3) (B 1) (B 2) (it a1.toNatClampNeg (3 * k)).toNatClampNeg))), (11, .int ((nI (it a1.toNatClampNeg (3 * k + 2)).toNatClampNeg) - (nI ((it a1.toNatClampNeg (3 * k + 1)).toNatClampNeg - (it a1.toNatClampNeg (3 * k)).toNatClampNeg * B 1)))), (10, .int ((nI (it a1.toNatClampNeg (3 * k + 1)).toNatClampNeg) - (nI (((it a1.toNatClampNeg (3 * k)).toNatClampNeg) * (B 1))))), (9, .int (nI (it a1.toNatClampNeg (3 * k)).toNatClampNeg)), (0, .ref (gA G 65)), (1, .int a1), (2, .int a2), (3, .int a3)]) hx hb dX11_broke_249 hl (k := 6) rfl (nI_1 k) (by decide) rfl (fun ls hl => ?_)
                                      refine lv_goto (tgt := 107) hx hb dX11_broke_252 (by decide) ?_
                                      exact ih107 (k + 1) _ _ ls (by omega) hkl hW (lv_sub hl [0, 2, 1, 7, 8, 9, 10] rfl)
                                    · exact absurd c209 c233
                                  · skip
                                    have d209 : ¬ _ := fun z => c209 ((t_le _ _).mpr z)
                                    refine lv_iconst (v := 1) hx hb dX11_broke_212 (by decide) ?_
                                    refine lv_goto (tgt := 217) hx hb dX11_broke_213 (by decide) ?_
                                    refine r_calli hW hA (va_runS (As := [.int 1]) (rest := [.long (whoF (fun k => 0 < lkN B (it a1.toNatClampNeg) k) k)]) ⟨hx, hb, hml, hown, hts⟩ (t_X11_one l D G S _ 1 (by decide)) (va_cwS 1 hts gX11_broke_X11_one rfl rfl rfl (by decide +kernel) ⟨Nat.le_of_ble_eq_true rfl, Nat.le_of_ble_eq_true rfl⟩) (r_preS hA hW) rfl rfl hl.1 rfl (lv_room (Nat.le_of_ble_eq_true rfl)) dX11_broke_217 ⟨Nat.zero_le _, Nat.zero_le _⟩) (fun r217 S217 H locs hp217 hW => ?_)
                                    obtain ⟨hs217, rfl⟩ := hp217
                                    rw [hs217] at hW
                                    refine lv_i2l hx hb dX11_broke_220 rfl ?_
                                    have ez : ((Int32.toInt64 1) : Int64) = 1 := by decide
                                    refine W.eq (g2 := F0 mM 221 ls [.long 1, .long (whoF (fun k => 0 < lkN B (it a1.toNatClampNeg) k) k)]) (by rw [← ez]) ?_
                                    refine lv_iload hx hb dX11_broke_221 (lv_at hl 4 rfl) ?_
                                    refine lv_lshl hx hb dX11_broke_223 rfl ?_
                                    refine lv_lor hx hb dX11_broke_224 ?_
                                    refine lv_lstore (lv' := [(4, .long ((whoF (fun k => 0 < lkN B (it a1.toNatClampNeg) k) k) ||| (1 <<< (Int32.toInt64 (nI k) &&& 63)))), (12, .int (nI (dueN (B 3) (B 1) (B 2) (it a1.toNatClampNeg (3 * k)).toNatClampNeg))), (11, .int ((nI (it a1.toNatClampNeg (3 * k + 2)).toNatClampNeg) - (nI ((it a1.toNatClampNeg (3 * k + 1)).toNatClampNeg - (it a1.toNatClampNeg (3 * k)).toNatClampNeg * B 1)))), (10, .int ((nI (it a1.toNatClampNeg (3 * k + 1)).toNatClampNeg) - (nI (((it a1.toNatClampNeg (3 * k)).toNatClampNeg) * (B 1))))), (9, .int (nI (it a1.toNatClampNeg (3 * k)).toNatClampNeg)), (8, .int (nI k)), (6, .long (lN (lkS B (it a1.toNatClampNeg) k))), (0, .ref (gA G 65)), (1, .int a1), (2, .int a2), (3, .int a3)]) hx hb dX11_broke_225 hl (by decide) rfl (fun ls hl => ?_)
                                    refine lv_lload hx hb dX11_broke_227 (lv_at hl 6 rfl) ?_
                                    refine lv_iload hx hb dX11_broke_229 (lv_at hl 2 rfl) ?_
                                    refine lv_iload hx hb dX11_broke_231 (lv_at hl 1 rfl) ?_
                                    refine lv_icmp_ge (tgt := 245) hx hb dX11_broke_233 (by decide) (fun c233 => ?_) (fun c233 => ?_)
                                    · exact absurd c233 c209
                                    · skip
                                      refine lv_iload hx hb dX11_broke_236 (lv_at hl 1 rfl) ?_
                                      refine lv_iload hx hb dX11_broke_238 (lv_at hl 2 rfl) ?_
                                      refine lv_isub hx hb dX11_broke_240 ?_
                                      refine lv_i2l hx hb dX11_broke_241 rfl ?_
                                      refine lv_goto (tgt := 246) hx hb dX11_broke_242 (by decide) ?_
                                      refine lv_ladd hx hb dX11_broke_246 ?_
                                      refine lv_lstore (lv' := [(6, .long ((lN (lkS B (it a1.toNatClampNeg) k)) + (Int32.toInt64 ((nI (dueN (B 3) (B 1) (B 2) (it a1.toNatClampNeg (3 * k)).toNatClampNeg)) - ((nI (it a1.toNatClampNeg (3 * k + 2)).toNatClampNeg) - (nI ((it a1.toNatClampNeg (3 * k + 1)).toNatClampNeg - (it a1.toNatClampNeg (3 * k)).toNatClampNeg * B 1))))))), (4, .long ((whoF (fun k => 0 < lkN B (it a1.toNatClampNeg) k) k) ||| (1 <<< (Int32.toInt64 (nI k) &&& 63)))), (12, .int (nI (dueN (B 3) (B 1) (B 2) (it a1.toNatClampNeg (3 * k)).toNatClampNeg))), (11, .int ((nI (it a1.toNatClampNeg (3 * k + 2)).toNatClampNeg) - (nI ((it a1.toNatClampNeg (3 * k + 1)).toNatClampNeg - (it a1.toNatClampNeg (3 * k)).toNatClampNeg * B 1)))), (10, .int ((nI (it a1.toNatClampNeg (3 * k + 1)).toNatClampNeg) - (nI (((it a1.toNatClampNeg (3 * k)).toNatClampNeg) * (B 1))))), (9, .int (nI (it a1.toNatClampNeg (3 * k)).toNatClampNeg)), (8, .int (nI k)), (0, .ref (gA G 65)), (1, .int a1), (2, .int a2), (3, .int a3)]) hx hb dX11_broke_247 hl (by decide) rfl (fun ls hl => ?_)
                                      have ew : ((whoF (fun k => 0 < lkN B (it a1.toNatClampNeg) k) k) ||| (1 <<< (Int32.toInt64 (nI k) &&& 63))) = whoF (fun k => 0 < lkN B (it a1.toNatClampNeg) k) (k + 1) := by show _ = (if 0 < lkN B (it a1.toNatClampNeg) k then _ else _); rw [if_pos (by omega)]
                                      have et : ((lN (lkS B (it a1.toNatClampNeg) k)) + (Int32.toInt64 ((nI (dueN (B 3) (B 1) (B 2) (it a1.toNatClampNeg (3 * k)).toNatClampNeg)) - ((nI (it a1.toNatClampNeg (3 * k + 2)).toNatClampNeg) - (nI ((it a1.toNatClampNeg (3 * k + 1)).toNatClampNeg - (it a1.toNatClampNeg (3 * k)).toNatClampNeg * B 1)))))) = lN (lkS B (it a1.toNatClampNeg) (k + 1)) := by rw [show ((nI (dueN (B 3) (B 1) (B 2) (it a1.toNatClampNeg (3 * k)).toNatClampNeg)) - (nI (it a1.toNatClampNeg (3 * k + 2)).toNatClampNeg - (nI ((it a1.toNatClampNeg (3 * k + 1)).toNatClampNeg - (it a1.toNatClampNeg (3 * k)).toNatClampNeg * B 1)))) = (lkI B (it a1.toNatClampNeg) k) from rfl, show (lkI B (it a1.toNatClampNeg) k) = nI (lkN B (it a1.toNatClampNeg) k) from by rw [hlkN]; exact n_nI (by omega), lN_of (by omega), lN_add]; rfl
                                      have hl : lv_has ls 13 [(6, .long (lN (lkS B (it a1.toNatClampNeg) (k + 1)))), (4, .long (whoF (fun k => 0 < lkN B (it a1.toNatClampNeg) k) (k + 1))), (12, .int (nI (dueN (B 3) (B 1) (B 2) (it a1.toNatClampNeg (3 * k)).toNatClampNeg))), (11, .int ((nI (it a1.toNatClampNeg (3 * k + 2)).toNatClampNeg) - (nI ((it a1.toNatClampNeg (3 * k + 1)).toNatClampNeg - (it a1.toNatClampNeg (3 * k)).toNatClampNeg * B 1)))), (10, .int ((nI (it a1.toNatClampNeg (3 * k + 1)).toNatClampNeg) - (nI (((it a1.toNatClampNeg (3 * k)).toNatClampNeg) * (B 1))))), (9, .int (nI (it a1.toNatClampNeg (3 * k)).toNatClampNeg)), (8, .int (nI k)), (0, .ref (gA G 65)), (1, .int a1), (2, .int a2), (3, .int a3)] := by rw [← ew, ← et]; exact hl
                                      refine lv_iinc (v := (nI (k + 1))) (lv' := [(8, .int (nI (k + 1))), (6, .long (lN (lkS B (it a1.toNatClampNeg) (k + 1)))), (4, .long (whoF (fun k => 0 < lkN B (it a1.toNatClampNeg) k) (k + 1))), (12, .int (nI (dueN (B 3) (B 1) (B 2) (it a1.toNatClampNeg (3 * k)).toNatClampNeg))), (11, .int ((nI (it a1.toNatClampNeg (3 * k + 2)).toNatClampNeg) - (nI ((it a1.toNatClampNeg (3 * k + 1)).toNatClampNeg - (it a1.toNatClampNeg (3 * k)).toNatClampNeg * B 1)))), (10, .int ((nI (it a1.toNatClampNeg (3 * k + 1)).toNatClampNeg) - (nI (((it a1.toNatClampNeg (3 * k)).toNatClampNeg) * (B 1))))), (9, .int (nI (it a1.toNatClampNeg (3 * k)).toNatClampNeg)), (0, .ref (gA G 65)), (1, .int a1), (2, .int a2), (3, .int a3)]) hx hb dX11_broke_249 hl (k := 6) rfl (nI_1 k) (by decide) rfl (fun ls hl => ?_)
                                      refine lv_goto (tgt := 107) hx hb dX11_broke_252 (by decide) ?_
                                      exact ih107 (k + 1) _ _ ls (by omega) hkl hW (lv_sub hl [0, 2, 1, 7, 8, 9, 10] rfl)
                                · skip
                                  rw [t_le, show (0 : Int32).toInt = 0 from by decide] at c176
                                  rw [t_sub (by rw [n_toInt (by omega), n_toInt (by omega)]; omega) (by rw [n_toInt (by omega), n_toInt (by omega)]; omega), n_toInt (by omega), n_toInt (by omega)] at c176
                                  refine lv_iload hx hb dX11_broke_179 (lv_at hl 0 rfl) ?_
                                  refine lv_goto (tgt := 185) hx hb dX11_broke_181 (by decide) ?_
                                  have ez : (((nI (it a1.toNatClampNeg (3 * k + 1)).toNatClampNeg) - (nI (((it a1.toNatClampNeg (3 * k)).toNatClampNeg) * (B 1)))) : Int32) = (nI ((it a1.toNatClampNeg (3 * k + 1)).toNatClampNeg - (it a1.toNatClampNeg (3 * k)).toNatClampNeg * B 1)) := n_sub (by omega)
                                  refine W.eq (g2 := F0 mM 185 ls [.int (nI ((it a1.toNatClampNeg (3 * k + 1)).toNatClampNeg - (it a1.toNatClampNeg (3 * k)).toNatClampNeg * B 1)), .int (nI (it a1.toNatClampNeg (3 * k + 2)).toNatClampNeg)]) (by rw [← ez]) ?_
                                  refine lv_isub hx hb dX11_broke_185 ?_
                                  refine lv_istore (lv' := [(11, .int ((nI (it a1.toNatClampNeg (3 * k + 2)).toNatClampNeg) - (nI ((it a1.toNatClampNeg (3 * k + 1)).toNatClampNeg - (it a1.toNatClampNeg (3 * k)).toNatClampNeg * B 1)))), (10, .int ((nI (it a1.toNatClampNeg (3 * k + 1)).toNatClampNeg) - (nI (((it a1.toNatClampNeg (3 * k)).toNatClampNeg) * (B 1))))), (9, .int (nI (it a1.toNatClampNeg (3 * k)).toNatClampNeg)), (8, .int (nI k)), (4, .long (whoF (fun k => 0 < lkN B (it a1.toNatClampNeg) k) k)), (6, .long (lN (lkS B (it a1.toNatClampNeg) k))), (0, .ref (gA G 65)), (1, .int a1), (2, .int a2), (3, .int a3)]) hx hb dX11_broke_186 hl (by decide) rfl (fun ls hl => ?_)
                                  refine lv_aload_n hx hb dX11_broke_188 rfl (lv_at hl 6 rfl) ?_
                                  refine lv_aload_n hx hb dX11_broke_189 rfl (lv_at hl 6 rfl) ?_
                                  refine r_getr (ci := 10) (C := RX11) (T := TX11) (N := 20) hx hb hts iX11 hown hW rfl 65 0 rfl (g_lt hG (by decide)) (g_kd hG (by decide) rfl) (by decide) q4 (fun _ h9 => h9) (hP _ (List.mem_of_getElem? (i := 60) rfl)) rfl rfl dX11_broke_190 ?_
                                  refine lv_iconst (v := 2) hx hb dX11_broke_193 (by decide) ?_
                                  refine W.eq (g2 := F0 mM 194 ls [.int (nI 2), .ref (gA G 66), .ref (gA G 65)]) rfl ?_
                                  refine r_lald hx hb hW 66 rfl (g_lt hG (by decide)) (g_kd hG (by decide) rfl) (g_ix hG (c := 560) (by decide) rfl (n_inI (by omega) (by decide))) (lN (B 2)) (by rw [n_clamp (by omega)]; exact (hM 2 (by omega))) dX11_broke_194 ?_
                                  refine lv_l2i hx hb dX11_broke_195 rfl ?_
                                  rw [show (Int64.toInt32 (lN (B 2)) : Int32) = nI (B 2) from lN_i _]
                                  refine lv_iload hx hb dX11_broke_196 (lv_at hl 2 rfl) ?_
                                  refine r_calli hW hA (va_runV (As := [.int (nI (B 2)), .int (nI (it a1.toNatClampNeg (3 * k)).toNatClampNeg)]) (rest := []) ⟨hx, hb, hml, hown, hts⟩ (t_X11_dueOf l D G S _ hG hP (B 3) (B 1) (B 2) (it a1.toNatClampNeg (3 * k)).toNatClampNeg (hM 3 (by omega)) (hM 1 (by omega)) b4 (by omega) (by omega) b5 b3) (cwV 2 hts gX11_broke_X11_dueOf rfl rfl rfl (by decide +kernel) ⟨Nat.le_of_ble_eq_true rfl, Nat.le_of_ble_eq_true rfl⟩) (r_preV (k := 65) hA hW (ci := 10) (C := RX11) (T := TX11) (N := 20) rfl rfl (g_lt hG (by decide)) (g_kd hG (by decide) rfl) rfl rfl) rfl rfl hl.1 rfl (lv_room (Nat.le_of_ble_eq_true rfl)) dX11_broke_198 ⟨Nat.zero_le _, Nat.zero_le _⟩) (fun r198 S198 H locs hp198 hW => ?_)
                                  obtain ⟨hs198, rfl⟩ := hp198
                                  rw [hs198] at hW
                                  have hd : dueN (B 3) (B 1) (B 2) (it a1.toNatClampNeg (3 * k)).toNatClampNeg ≤ 729 := due_le b5 b3 (by omega)
                                  have hleft : ((nI (it a1.toNatClampNeg (3 * k + 2)).toNatClampNeg - (nI ((it a1.toNatClampNeg (3 * k + 1)).toNatClampNeg - (it a1.toNatClampNeg (3 * k)).toNatClampNeg * B 1)))).toInt = ((it a1.toNatClampNeg (3 * k + 2)).toNatClampNeg : Int) - ((it a1.toNatClampNeg (3 * k + 1)).toNatClampNeg - (it a1.toNatClampNeg (3 * k)).toNatClampNeg * B 1 : Nat) := by rw [t_sub, n_toInt, n_toInt] <;> (try rw [n_toInt]) <;> (try rw [n_toInt]) <;> omega
                                  have hdt : (nI (dueN (B 3) (B 1) (B 2) (it a1.toNatClampNeg (3 * k)).toNatClampNeg)).toInt = (dueN (B 3) (B 1) (B 2) (it a1.toNatClampNeg (3 * k)).toNatClampNeg : Int) := n_toInt (by omega)
                                  have hlk : (lkI B (it a1.toNatClampNeg) k).toInt = (dueN (B 3) (B 1) (B 2) (it a1.toNatClampNeg (3 * k)).toNatClampNeg : Int) - ((it a1.toNatClampNeg (3 * k + 2)).toNatClampNeg - ((it a1.toNatClampNeg (3 * k + 1)).toNatClampNeg - (it a1.toNatClampNeg (3 * k)).toNatClampNeg * B 1 : Nat)) := by unfold lkI; rw [t_sub] <;> omega
                                  have hlkN : lkN B (it a1.toNatClampNeg) k = ((lkI B (it a1.toNatClampNeg) k).toInt).toNat := by unfold lkN; omega
                                  refine lv_istore (lv' := [(12, .int (nI (dueN (B 3) (B 1) (B 2) (it a1.toNatClampNeg (3 * k)).toNatClampNeg))), (11, .int ((nI (it a1.toNatClampNeg (3 * k + 2)).toNatClampNeg) - (nI ((it a1.toNatClampNeg (3 * k + 1)).toNatClampNeg - (it a1.toNatClampNeg (3 * k)).toNatClampNeg * B 1)))), (10, .int ((nI (it a1.toNatClampNeg (3 * k + 1)).toNatClampNeg) - (nI (((it a1.toNatClampNeg (3 * k)).toNatClampNeg) * (B 1))))), (9, .int (nI (it a1.toNatClampNeg (3 * k)).toNatClampNeg)), (8, .int (nI k)), (4, .long (whoF (fun k => 0 < lkN B (it a1.toNatClampNeg) k) k)), (6, .long (lN (lkS B (it a1.toNatClampNeg) k))), (0, .ref (gA G 65)), (1, .int a1), (2, .int a2), (3, .int a3)]) hx hb dX11_broke_201 hl (by decide) rfl (fun ls hl => ?_)
                                  refine lv_lload hx hb dX11_broke_203 (lv_at hl 5 rfl) ?_
                                  refine lv_iload hx hb dX11_broke_205 (lv_at hl 1 rfl) ?_
                                  refine lv_iload hx hb dX11_broke_207 (lv_at hl 0 rfl) ?_
                                  refine lv_icmp_ge (tgt := 216) hx hb dX11_broke_209 (by decide) (fun c209 => ?_) (fun c209 => ?_)
                                  · skip
                                    have d209 := (t_le _ _).mp c209
                                    refine lv_iconst (v := 0) hx hb dX11_broke_216 (by decide) ?_
                                    refine r_calli hW hA (va_runS (As := [.int 0]) (rest := [.long (whoF (fun k => 0 < lkN B (it a1.toNatClampNeg) k) k)]) ⟨hx, hb, hml, hown, hts⟩ (t_X11_one l D G S _ 0 (by decide)) (va_cwS 1 hts gX11_broke_X11_one rfl rfl rfl (by decide +kernel) ⟨Nat.le_of_ble_eq_true rfl, Nat.le_of_ble_eq_true rfl⟩) (r_preS hA hW) rfl rfl hl.1 rfl (lv_room (Nat.le_of_ble_eq_true rfl)) dX11_broke_217 ⟨Nat.zero_le _, Nat.zero_le _⟩) (fun r217 S217 H locs hp217 hW => ?_)
                                    obtain ⟨hs217, rfl⟩ := hp217
                                    rw [hs217] at hW
                                    refine lv_i2l hx hb dX11_broke_220 rfl ?_
                                    have ez : ((Int32.toInt64 0) : Int64) = 0 := by decide
                                    refine W.eq (g2 := F0 mM 221 ls [.long 0, .long (whoF (fun k => 0 < lkN B (it a1.toNatClampNeg) k) k)]) (by rw [← ez]) ?_
                                    refine lv_iload hx hb dX11_broke_221 (lv_at hl 4 rfl) ?_
                                    refine lv_lshl hx hb dX11_broke_223 rfl ?_
                                    refine lv_lor hx hb dX11_broke_224 ?_
                                    refine lv_lstore (lv' := [(4, .long ((whoF (fun k => 0 < lkN B (it a1.toNatClampNeg) k) k) ||| (0 <<< (Int32.toInt64 (nI k) &&& 63)))), (12, .int (nI (dueN (B 3) (B 1) (B 2) (it a1.toNatClampNeg (3 * k)).toNatClampNeg))), (11, .int ((nI (it a1.toNatClampNeg (3 * k + 2)).toNatClampNeg) - (nI ((it a1.toNatClampNeg (3 * k + 1)).toNatClampNeg - (it a1.toNatClampNeg (3 * k)).toNatClampNeg * B 1)))), (10, .int ((nI (it a1.toNatClampNeg (3 * k + 1)).toNatClampNeg) - (nI (((it a1.toNatClampNeg (3 * k)).toNatClampNeg) * (B 1))))), (9, .int (nI (it a1.toNatClampNeg (3 * k)).toNatClampNeg)), (8, .int (nI k)), (6, .long (lN (lkS B (it a1.toNatClampNeg) k))), (0, .ref (gA G 65)), (1, .int a1), (2, .int a2), (3, .int a3)]) hx hb dX11_broke_225 hl (by decide) rfl (fun ls hl => ?_)
                                    refine lv_lload hx hb dX11_broke_227 (lv_at hl 6 rfl) ?_
                                    refine lv_iload hx hb dX11_broke_229 (lv_at hl 2 rfl) ?_
                                    refine lv_iload hx hb dX11_broke_231 (lv_at hl 1 rfl) ?_
                                    refine lv_icmp_ge (tgt := 245) hx hb dX11_broke_233 (by decide) (fun c233 => ?_) (fun c233 => ?_)
                                    · skip
                                      refine lv_lconst (v := 0) hx hb dX11_broke_245 (by decide) ?_
                                      refine lv_ladd hx hb dX11_broke_246 ?_
                                      rw [show (((lN (lkS B (it a1.toNatClampNeg) k)) + 0) : Int64) = (lN ((lkS B (it a1.toNatClampNeg) k) + 0)) from lN_add (lkS B (it a1.toNatClampNeg) k) 0]
                                      refine lv_lstore (lv' := [(6, .long (lN ((lkS B (it a1.toNatClampNeg) k) + 0))), (4, .long ((whoF (fun k => 0 < lkN B (it a1.toNatClampNeg) k) k) ||| (0 <<< (Int32.toInt64 (nI k) &&& 63)))), (12, .int (nI (dueN (B 3) (B 1) (B 2) (it a1.toNatClampNeg (3 * k)).toNatClampNeg))), (11, .int ((nI (it a1.toNatClampNeg (3 * k + 2)).toNatClampNeg) - (nI ((it a1.toNatClampNeg (3 * k + 1)).toNatClampNeg - (it a1.toNatClampNeg (3 * k)).toNatClampNeg * B 1)))), (10, .int ((nI (it a1.toNatClampNeg (3 * k + 1)).toNatClampNeg) - (nI (((it a1.toNatClampNeg (3 * k)).toNatClampNeg) * (B 1))))), (9, .int (nI (it a1.toNatClampNeg (3 * k)).toNatClampNeg)), (8, .int (nI k)), (0, .ref (gA G 65)), (1, .int a1), (2, .int a2), (3, .int a3)]) hx hb dX11_broke_247 hl (by decide) rfl (fun ls hl => ?_)
                                      have ew : ((whoF (fun k => 0 < lkN B (it a1.toNatClampNeg) k) k) ||| (0 <<< (Int32.toInt64 (nI k) &&& 63))) = whoF (fun k => 0 < lkN B (it a1.toNatClampNeg) k) (k + 1) := by rw [sh0]; show _ = (if 0 < lkN B (it a1.toNatClampNeg) k then _ else _); rw [if_neg (by omega)]
                                      have et : (lN ((lkS B (it a1.toNatClampNeg) k) + 0)) = lN (lkS B (it a1.toNatClampNeg) (k + 1)) := by show _ = lN (lkS B (it a1.toNatClampNeg) k + lkN B (it a1.toNatClampNeg) k); rw [show lkN B (it a1.toNatClampNeg) k = 0 by omega]
                                      have hl : lv_has ls 13 [(6, .long (lN (lkS B (it a1.toNatClampNeg) (k + 1)))), (4, .long (whoF (fun k => 0 < lkN B (it a1.toNatClampNeg) k) (k + 1))), (12, .int (nI (dueN (B 3) (B 1) (B 2) (it a1.toNatClampNeg (3 * k)).toNatClampNeg))), (11, .int ((nI (it a1.toNatClampNeg (3 * k + 2)).toNatClampNeg) - (nI ((it a1.toNatClampNeg (3 * k + 1)).toNatClampNeg - (it a1.toNatClampNeg (3 * k)).toNatClampNeg * B 1)))), (10, .int ((nI (it a1.toNatClampNeg (3 * k + 1)).toNatClampNeg) - (nI (((it a1.toNatClampNeg (3 * k)).toNatClampNeg) * (B 1))))), (9, .int (nI (it a1.toNatClampNeg (3 * k)).toNatClampNeg)), (8, .int (nI k)), (0, .ref (gA G 65)), (1, .int a1), (2, .int a2), (3, .int a3)] := by rw [← ew, ← et]; exact hl
                                      refine lv_iinc (v := (nI (k + 1))) (lv' := [(8, .int (nI (k + 1))), (6, .long (lN (lkS B (it a1.toNatClampNeg) (k + 1)))), (4, .long (whoF (fun k => 0 < lkN B (it a1.toNatClampNeg) k) (k + 1))), (12, .int (nI (dueN (B 3) (B 1) (B 2) (it a1.toNatClampNeg (3 * k)).toNatClampNeg))), (11, .int ((nI (it a1.toNatClampNeg (3 * k + 2)).toNatClampNeg) - (nI ((it a1.toNatClampNeg (3 * k + 1)).toNatClampNeg - (it a1.toNatClampNeg (3 * k)).toNatClampNeg * B 1)))), (10, .int ((nI (it a1.toNatClampNeg (3 * k + 1)).toNatClampNeg) - (nI (((it a1.toNatClampNeg (3 * k)).toNatClampNeg) * (B 1))))), (9, .int (nI (it a1.toNatClampNeg (3 * k)).toNatClampNeg)), (0, .ref (gA G 65)), (1, .int a1), (2, .int a2), (3, .int a3)]) hx hb dX11_broke_249 hl (k := 6) rfl (nI_1 k) (by decide) rfl (fun ls hl => ?_)
                                      refine lv_goto (tgt := 107) hx hb dX11_broke_252 (by decide) ?_
                                      exact ih107 (k + 1) _ _ ls (by omega) hkl hW (lv_sub hl [0, 2, 1, 7, 8, 9, 10] rfl)
                                    · exact absurd c209 c233
                                  · skip
                                    have d209 : ¬ _ := fun z => c209 ((t_le _ _).mpr z)
                                    refine lv_iconst (v := 1) hx hb dX11_broke_212 (by decide) ?_
                                    refine lv_goto (tgt := 217) hx hb dX11_broke_213 (by decide) ?_
                                    refine r_calli hW hA (va_runS (As := [.int 1]) (rest := [.long (whoF (fun k => 0 < lkN B (it a1.toNatClampNeg) k) k)]) ⟨hx, hb, hml, hown, hts⟩ (t_X11_one l D G S _ 1 (by decide)) (va_cwS 1 hts gX11_broke_X11_one rfl rfl rfl (by decide +kernel) ⟨Nat.le_of_ble_eq_true rfl, Nat.le_of_ble_eq_true rfl⟩) (r_preS hA hW) rfl rfl hl.1 rfl (lv_room (Nat.le_of_ble_eq_true rfl)) dX11_broke_217 ⟨Nat.zero_le _, Nat.zero_le _⟩) (fun r217 S217 H locs hp217 hW => ?_)
                                    obtain ⟨hs217, rfl⟩ := hp217
                                    rw [hs217] at hW
                                    refine lv_i2l hx hb dX11_broke_220 rfl ?_
                                    have ez : ((Int32.toInt64 1) : Int64) = 1 := by decide
                                    refine W.eq (g2 := F0 mM 221 ls [.long 1, .long (whoF (fun k => 0 < lkN B (it a1.toNatClampNeg) k) k)]) (by rw [← ez]) ?_
                                    refine lv_iload hx hb dX11_broke_221 (lv_at hl 4 rfl) ?_
                                    refine lv_lshl hx hb dX11_broke_223 rfl ?_
                                    refine lv_lor hx hb dX11_broke_224 ?_
                                    refine lv_lstore (lv' := [(4, .long ((whoF (fun k => 0 < lkN B (it a1.toNatClampNeg) k) k) ||| (1 <<< (Int32.toInt64 (nI k) &&& 63)))), (12, .int (nI (dueN (B 3) (B 1) (B 2) (it a1.toNatClampNeg (3 * k)).toNatClampNeg))), (11, .int ((nI (it a1.toNatClampNeg (3 * k + 2)).toNatClampNeg) - (nI ((it a1.toNatClampNeg (3 * k + 1)).toNatClampNeg - (it a1.toNatClampNeg (3 * k)).toNatClampNeg * B 1)))), (10, .int ((nI (it a1.toNatClampNeg (3 * k + 1)).toNatClampNeg) - (nI (((it a1.toNatClampNeg (3 * k)).toNatClampNeg) * (B 1))))), (9, .int (nI (it a1.toNatClampNeg (3 * k)).toNatClampNeg)), (8, .int (nI k)), (6, .long (lN (lkS B (it a1.toNatClampNeg) k))), (0, .ref (gA G 65)), (1, .int a1), (2, .int a2), (3, .int a3)]) hx hb dX11_broke_225 hl (by decide) rfl (fun ls hl => ?_)
                                    refine lv_lload hx hb dX11_broke_227 (lv_at hl 6 rfl) ?_
                                    refine lv_iload hx hb dX11_broke_229 (lv_at hl 2 rfl) ?_
                                    refine lv_iload hx hb dX11_broke_231 (lv_at hl 1 rfl) ?_
                                    refine lv_icmp_ge (tgt := 245) hx hb dX11_broke_233 (by decide) (fun c233 => ?_) (fun c233 => ?_)
                                    · exact absurd c233 c209
                                    · skip
                                      refine lv_iload hx hb dX11_broke_236 (lv_at hl 1 rfl) ?_
                                      refine lv_iload hx hb dX11_broke_238 (lv_at hl 2 rfl) ?_
                                      refine lv_isub hx hb dX11_broke_240 ?_
                                      refine lv_i2l hx hb dX11_broke_241 rfl ?_
                                      refine lv_goto (tgt := 246) hx hb dX11_broke_242 (by decide) ?_
                                      refine lv_ladd hx hb dX11_broke_246 ?_
                                      refine lv_lstore (lv' := [(6, .long ((lN (lkS B (it a1.toNatClampNeg) k)) + (Int32.toInt64 ((nI (dueN (B 3) (B 1) (B 2) (it a1.toNatClampNeg (3 * k)).toNatClampNeg)) - ((nI (it a1.toNatClampNeg (3 * k + 2)).toNatClampNeg) - (nI ((it a1.toNatClampNeg (3 * k + 1)).toNatClampNeg - (it a1.toNatClampNeg (3 * k)).toNatClampNeg * B 1))))))), (4, .long ((whoF (fun k => 0 < lkN B (it a1.toNatClampNeg) k) k) ||| (1 <<< (Int32.toInt64 (nI k) &&& 63)))), (12, .int (nI (dueN (B 3) (B 1) (B 2) (it a1.toNatClampNeg (3 * k)).toNatClampNeg))), (11, .int ((nI (it a1.toNatClampNeg (3 * k + 2)).toNatClampNeg) - (nI ((it a1.toNatClampNeg (3 * k + 1)).toNatClampNeg - (it a1.toNatClampNeg (3 * k)).toNatClampNeg * B 1)))), (10, .int ((nI (it a1.toNatClampNeg (3 * k + 1)).toNatClampNeg) - (nI (((it a1.toNatClampNeg (3 * k)).toNatClampNeg) * (B 1))))), (9, .int (nI (it a1.toNatClampNeg (3 * k)).toNatClampNeg)), (8, .int (nI k)), (0, .ref (gA G 65)), (1, .int a1), (2, .int a2), (3, .int a3)]) hx hb dX11_broke_247 hl (by decide) rfl (fun ls hl => ?_)
                                      have ew : ((whoF (fun k => 0 < lkN B (it a1.toNatClampNeg) k) k) ||| (1 <<< (Int32.toInt64 (nI k) &&& 63))) = whoF (fun k => 0 < lkN B (it a1.toNatClampNeg) k) (k + 1) := by show _ = (if 0 < lkN B (it a1.toNatClampNeg) k then _ else _); rw [if_pos (by omega)]
                                      have et : ((lN (lkS B (it a1.toNatClampNeg) k)) + (Int32.toInt64 ((nI (dueN (B 3) (B 1) (B 2) (it a1.toNatClampNeg (3 * k)).toNatClampNeg)) - ((nI (it a1.toNatClampNeg (3 * k + 2)).toNatClampNeg) - (nI ((it a1.toNatClampNeg (3 * k + 1)).toNatClampNeg - (it a1.toNatClampNeg (3 * k)).toNatClampNeg * B 1)))))) = lN (lkS B (it a1.toNatClampNeg) (k + 1)) := by rw [show ((nI (dueN (B 3) (B 1) (B 2) (it a1.toNatClampNeg (3 * k)).toNatClampNeg)) - (nI (it a1.toNatClampNeg (3 * k + 2)).toNatClampNeg - (nI ((it a1.toNatClampNeg (3 * k + 1)).toNatClampNeg - (it a1.toNatClampNeg (3 * k)).toNatClampNeg * B 1)))) = (lkI B (it a1.toNatClampNeg) k) from rfl, show (lkI B (it a1.toNatClampNeg) k) = nI (lkN B (it a1.toNatClampNeg) k) from by rw [hlkN]; exact n_nI (by omega), lN_of (by omega), lN_add]; rfl
                                      have hl : lv_has ls 13 [(6, .long (lN (lkS B (it a1.toNatClampNeg) (k + 1)))), (4, .long (whoF (fun k => 0 < lkN B (it a1.toNatClampNeg) k) (k + 1))), (12, .int (nI (dueN (B 3) (B 1) (B 2) (it a1.toNatClampNeg (3 * k)).toNatClampNeg))), (11, .int ((nI (it a1.toNatClampNeg (3 * k + 2)).toNatClampNeg) - (nI ((it a1.toNatClampNeg (3 * k + 1)).toNatClampNeg - (it a1.toNatClampNeg (3 * k)).toNatClampNeg * B 1)))), (10, .int ((nI (it a1.toNatClampNeg (3 * k + 1)).toNatClampNeg) - (nI (((it a1.toNatClampNeg (3 * k)).toNatClampNeg) * (B 1))))), (9, .int (nI (it a1.toNatClampNeg (3 * k)).toNatClampNeg)), (8, .int (nI k)), (0, .ref (gA G 65)), (1, .int a1), (2, .int a2), (3, .int a3)] := by rw [← ew, ← et]; exact hl
                                      refine lv_iinc (v := (nI (k + 1))) (lv' := [(8, .int (nI (k + 1))), (6, .long (lN (lkS B (it a1.toNatClampNeg) (k + 1)))), (4, .long (whoF (fun k => 0 < lkN B (it a1.toNatClampNeg) k) (k + 1))), (12, .int (nI (dueN (B 3) (B 1) (B 2) (it a1.toNatClampNeg (3 * k)).toNatClampNeg))), (11, .int ((nI (it a1.toNatClampNeg (3 * k + 2)).toNatClampNeg) - (nI ((it a1.toNatClampNeg (3 * k + 1)).toNatClampNeg - (it a1.toNatClampNeg (3 * k)).toNatClampNeg * B 1)))), (10, .int ((nI (it a1.toNatClampNeg (3 * k + 1)).toNatClampNeg) - (nI (((it a1.toNatClampNeg (3 * k)).toNatClampNeg) * (B 1))))), (9, .int (nI (it a1.toNatClampNeg (3 * k)).toNatClampNeg)), (0, .ref (gA G 65)), (1, .int a1), (2, .int a2), (3, .int a3)]) hx hb dX11_broke_249 hl (k := 6) rfl (nI_1 k) (by decide) rfl (fun ls hl => ?_)
                                      refine lv_goto (tgt := 107) hx hb dX11_broke_252 (by decide) ?_
                                      exact ih107 (k + 1) _ _ ls (by omega) hkl hW (lv_sub hl [0, 2, 1, 7, 8, 9, 10] rfl)
                          exact L107 _ 0 _ _ ls (Nat.lt_succ_self _) (Nat.zero_le _) hW (lv_sub hl [0, 2, 1, 3, 4, 5, 6] rfl)
                        · exact absurd c91 (by decide)
                      · skip
                        refine lv_if_ne (tgt := 98) hx hb dX11_broke_91 (by decide) (fun c91 => ?_) (fun c91 => ?_)
                        · exact absurd (by decide) c91
                        · skip
                          refine lv_ldc2 (v := (-9000000000000000001)) hx hb hown q5 dX11_broke_94 ?_
                          rw [← hQ0]
                          refine r_lret hx hb hr hlocks hW ?_ dX11_broke_97
                          have e : fBroke B it le st a1 a2 a3 = (BADL, st) := by unfold fBroke; rw [if_neg h1, if_pos (by omega), if_pos hf0, if_neg (fun z => h88 (wOK3_nt.mpr z))]
                          rw [e]
                          exact ⟨rfl, hst, Ch.rf⟩
                    · skip
                      rw [t_le] at c69
                      rw [n_toInt (by omega)] at c69
                      refine lv_aload_n hx hb dX11_broke_72 rfl (lv_at hl 0 rfl) ?_
                      refine lv_iconst (v := 2) hx hb dX11_broke_73 (by decide) ?_
                      refine r_calll hW hA (va_runV (As := [.int 2]) (rest := []) ⟨hx, hb, hml, hown, hts⟩ (t_X11_found l D G S _ hG hP 2) (cwV 1 hts gX11_broke_X11_found rfl rfl rfl (by decide +kernel) ⟨Nat.le_of_ble_eq_true rfl, Nat.le_of_ble_eq_true rfl⟩) (r_preV (k := 65) hA hW (ci := 10) (C := RX11) (T := TX11) (N := 20) rfl rfl (g_lt hG (by decide)) (g_kd hG (by decide) rfl) rfl rfl) rfl rfl hl.1 rfl (lv_room (Nat.le_of_ble_eq_true rfl)) dX11_broke_74 ⟨Nat.zero_le _, Nat.zero_le _⟩) (fun r74 S74 H locs hp74 hW => ?_)
                      obtain ⟨hs74, rfl⟩ := hp74
                      rw [hs74] at hW
                      rw [← hQ0]
                      refine r_lret hx hb hr hlocks hW ?_ dX11_broke_77
                      have ef : fos (le a1.toNatClampNeg) 0 (nI (3 * a2.toNatClampNeg)) = 2 := by unfold fos; rw [if_neg (by omega), if_neg (fun z => by rw [n_toInt (by omega)] at z; omega)]
                      have e : fBroke B it le st a1 a2 a3 = (FND 2, 2) := by unfold fBroke; rw [if_neg h1, if_pos (by omega), ef, if_neg (by decide)]
                      rw [e]
                      exact ⟨rfl, congrFun (e_is _ _ _) 4, (Ch.ri Ch.rf (by omega))⟩
                  · skip
                    rw [t_le, show (0 : Int32).toInt = 0 from by decide] at c51
                    refine lv_aload_n hx hb dX11_broke_54 rfl (lv_at hl 0 rfl) ?_
                    refine lv_iconst (v := 1) hx hb dX11_broke_55 (by decide) ?_
                    refine r_calll hW hA (va_runV (As := [.int 1]) (rest := []) ⟨hx, hb, hml, hown, hts⟩ (t_X11_found l D G S _ hG hP 1) (cwV 1 hts gX11_broke_X11_found rfl rfl rfl (by decide +kernel) ⟨Nat.le_of_ble_eq_true rfl, Nat.le_of_ble_eq_true rfl⟩) (r_preV (k := 65) hA hW (ci := 10) (C := RX11) (T := TX11) (N := 20) rfl rfl (g_lt hG (by decide)) (g_kd hG (by decide) rfl) rfl rfl) rfl rfl hl.1 rfl (lv_room (Nat.le_of_ble_eq_true rfl)) dX11_broke_56 ⟨Nat.zero_le _, Nat.zero_le _⟩) (fun r56 S56 H locs hp56 hW => ?_)
                    obtain ⟨hs56, rfl⟩ := hp56
                    rw [hs56] at hW
                    rw [← hQ0]
                    refine r_lret hx hb hr hlocks hW ?_ dX11_broke_59
                    have ef : fos (le a1.toNatClampNeg) 0 (nI (3 * a2.toNatClampNeg)) = 1 := by unfold fos; rw [if_pos (by omega)]
                    have e : fBroke B it le st a1 a2 a3 = (FND 1, 1) := by unfold fBroke; rw [if_neg h1, if_pos (by omega), ef, if_neg (by decide)]
                    rw [e]
                    exact ⟨rfl, congrFun (e_is _ _ _) 4, (Ch.ri Ch.rf (by omega))⟩
                · exact absurd c38 (by decide)
              · skip
                refine lv_if_ne (tgt := 45) hx hb dX11_broke_38 (by decide) (fun c38 => ?_) (fun c38 => ?_)
                · exact absurd (by decide) c38
                · skip
                  refine lv_ldc2 (v := (-9000000000000000001)) hx hb hown q5 dX11_broke_41 ?_
                  rw [← hQ0]
                  refine r_lret hx hb hr hlocks hW ?_ dX11_broke_44
                  have e : fBroke B it le st a1 a2 a3 = (BADL, st) := by unfold fBroke; rw [if_neg h1, if_neg (by omega)]
                  rw [e]
                  exact ⟨rfl, hst, Ch.rf⟩
          · skip
            refine lv_if_eq (tgt := 41) hx hb dX11_broke_28 (by decide) (fun c28 => ?_) (fun c28 => ?_)
            · skip
              refine lv_ldc2 (v := (-9000000000000000001)) hx hb hown q5 dX11_broke_41 ?_
              rw [← hQ0]
              refine r_lret hx hb hr hlocks hW ?_ dX11_broke_44
              have e : fBroke B it le st a1 a2 a3 = (BADL, st) := by unfold fBroke; rw [if_neg h1, if_neg (by omega)]
              rw [e]
              exact ⟨rfl, hst, Ch.rf⟩
            · exact absurd (by decide) c28
      · skip
        refine lv_if_eq (tgt := 41) hx hb dX11_broke_16 (by decide) (fun c16 => ?_) (fun c16 => ?_)
        · skip
          refine lv_ldc2 (v := (-9000000000000000001)) hx hb hown q5 dX11_broke_41 ?_
          rw [← hQ0]
          refine r_lret hx hb hr hlocks hW ?_ dX11_broke_44
          have e : fBroke B it le st a1 a2 a3 = (BADL, st) := by unfold fBroke; rw [if_neg h1, if_neg (by omega)]
          rw [e]
          exact ⟨rfl, hst, Ch.rf⟩
        · exact absurd (by decide) c16
    · exact absurd (by decide) c4
