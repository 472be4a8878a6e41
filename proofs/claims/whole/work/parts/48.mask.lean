def rmX11_lies : Jvm.Room := { frames := 2, cells := 0, slots := 0, locals := 52 }
set_option maxHeartbeats 4000000 in
set_option maxRecDepth 100000 in
theorem t_X11_lies (l : Launch) (D : Dc) (G : Gg) (S : Sg) (z : Nat) (hG : GrG G) (hP : GrP G S) (it : Nat → Nat → Int32) (la le : Nat → Int32) (hRX : RowsM S it la le) (hL : LeOK le) (st : Int32) (hst : gi S 65 4 = st) (a1 a2 a3 : Int32) : ML l yX11_lies wsX11_lies rmX11_lies D G S z [.ref (gA G 65), .int a1, .int a2, .int a3] (fun r S' => r = (fLies it le st a1 a2 a3).1 ∧ gi S' 65 4 = (fLies it le st a1 a2 a3).2 ∧ Ch (fun k => k = 65) S S') := by
  refine Met.ofW (cc := cX11_lies) (maxL := 10) (ret := (some .long)) (by decide +kernel) rfl ?_
  intro pP eE s mM args bl mT cD s₁ bD hml hv
  obtain ⟨rfl, hv⟩ := hv
  have hz := hv.1
  subst hz
  have hx := bD.exec
  have hb := bD.bytes
  have hr := bD.returns
  have hts := atoms_spec (ws := wsX11_lies) bD.pre
  have hown : s.vm.findClass RX11 = some mM.cls := findClass_of_methodNamed bD.named
  have hlocks := bD.notSynchronized
  have hW := Wd.start hv
  have hA : ∀ q, s.heap.size ≤ q → AW G s.heap.size q := fun q h => Or.inr h
  have hl := lv_entry ([.ref (gA G 65), .int a1, .int a2, .int a3]) (n := 10) (Nat.le_of_ble_eq_true rfl)
  rw [lg_entry_eq]
  generalize (lg_sl ([.ref (gA G 65), .int a1, .int a2, .int a3]) ++ List.replicate (10 - (lg_sl ([.ref (gA G 65), .int a1, .int a2, .int a3])).length) Slot.unset).toArray = ls at hl ⊢
  have hl : lv_has ls 10 [(0, .ref (gA G 65)), (1, .int a1), (2, .int a2), (3, .int a3)] := hl
  have q0 := hts (.constantLong RX11 221 (20)) (List.mem_of_getElem? (i := 1) rfl)
  have q1 := hts (.fieldLink RX11 20 "WoodForTwoModel" "length" "[I") (List.mem_of_getElem? (i := 3) rfl)
  have q2 := hts (.constant RX11 223 (-1000000)) (List.mem_of_getElem? (i := 4) rfl)
  have q3 := hts (.fieldLink RX11 13 "WoodForTwoModel" "items" "[I") (List.mem_of_getElem? (i := 5) rfl)
  have q4 := hts (.constantLong RX11 56 (-9000000000000000001)) (List.mem_of_getElem? (i := 2) rfl)
  have iX11 : ∀ w ∈ wsX110, w ∈ wsX11_lies := fun _ h => List.mem_cons_of_mem _ (List.mem_append_right _ (h))
  generalize hQ0 : MQ bl _ _ s _ _ _ = Q0
  refine lv_aload_n hx hb dX11_lies_0 rfl (lv_at hl 0 rfl) ?_
  refine lv_iload_n hx hb dX11_lies_1 rfl (lv_at hl 1 rfl) ?_
  refine r_calli hW hA (va_runV (As := [.int a1]) (rest := []) ⟨hx, hb, hml, hown, hts⟩ (t_X11_isRow l D G S _ hG hP a1) (cwV 1 hts gX11_lies_X11_isRow rfl rfl rfl (by decide +kernel) ⟨Nat.le_of_ble_eq_true rfl, Nat.le_of_ble_eq_true rfl⟩) (r_preV (k := 65) hA hW (ci := 10) (C := RX11) (T := TX11) (N := 20) rfl rfl (g_lt hG (by decide)) (g_kd hG (by decide) rfl) rfl rfl) rfl rfl hl.1 rfl (lv_room (Nat.le_of_ble_eq_true rfl)) dX11_lies_2 ⟨Nat.zero_le _, Nat.zero_le _⟩) (fun r2 S2 H locs hp2 hW => ?_)
  obtain ⟨hs2, hp2⟩ := hp2
  rw [hs2] at hW
  rcases hp2 with ⟨rfl, h2⟩ | ⟨rfl, h2⟩
  · skip
    refine lv_if_eq (tgt := 30) hx hb dX11_lies_5 (by decide) (fun c5 => ?_) (fun c5 => ?_)
    · exact absurd c5 (by decide)
    · skip
      refine lv_iload_n hx hb dX11_lies_8 rfl (lv_at hl 2 rfl) ?_
      refine lv_i2l hx hb dX11_lies_9 rfl ?_
      refine lv_lconst (v := 1) hx hb dX11_lies_10 (by decide) ?_
      refine lv_ldc2 (v := (20)) hx hb hown q0 dX11_lies_11 ?_
      refine r_calli hW hA (va_runS (As := [.long (Int32.toInt64 a2), .long 1, .long (20)]) (rest := []) ⟨hx, hb, hml, hown, hts⟩ (t_X11_in l D G S _ (Int32.toInt64 a2) 1 (20) (a2).toInt 1 20 (Int32.toInt_toInt64 _) (by decide) (by decide)) (va_cwS 3 hts gX11_lies_X11_in rfl rfl rfl (by decide +kernel) ⟨Nat.le_of_ble_eq_true rfl, Nat.le_of_ble_eq_true rfl⟩) (r_preS hA hW) rfl rfl hl.1 rfl (lv_room (Nat.le_of_ble_eq_true rfl)) dX11_lies_14 ⟨Nat.zero_le _, Nat.zero_le _⟩) (fun r14 S14 H locs hp14 hW => ?_)
      obtain ⟨hs14, hp14⟩ := hp14
      rw [hs14] at hW
      rcases hp14 with ⟨rfl, h14⟩ | ⟨rfl, h14⟩
      · skip
        refine lv_if_eq (tgt := 30) hx hb dX11_lies_17 (by decide) (fun c17 => ?_) (fun c17 => ?_)
        · exact absurd c17 (by decide)
        · skip
          refine lv_iload_n hx hb dX11_lies_20 rfl (lv_at hl 3 rfl) ?_
          refine lv_i2l hx hb dX11_lies_21 rfl ?_
          refine lv_lconst (v := 0) hx hb dX11_lies_22 (by decide) ?_
          refine lv_lconst (v := 1) hx hb dX11_lies_23 (by decide) ?_
          refine r_calli hW hA (va_runS (As := [.long (Int32.toInt64 a3), .long 0, .long 1]) (rest := []) ⟨hx, hb, hml, hown, hts⟩ (t_X11_in l D G S _ (Int32.toInt64 a3) 0 1 (a3).toInt 0 1 (Int32.toInt_toInt64 _) (by decide) (by decide)) (va_cwS 3 hts gX11_lies_X11_in rfl rfl rfl (by decide +kernel) ⟨Nat.le_of_ble_eq_true rfl, Nat.le_of_ble_eq_true rfl⟩) (r_preS hA hW) rfl rfl hl.1 rfl (lv_room (Nat.le_of_ble_eq_true rfl)) dX11_lies_24 ⟨Nat.zero_le _, Nat.zero_le _⟩) (fun r24 S24 H locs hp24 hW => ?_)
          obtain ⟨hs24, hp24⟩ := hp24
          rw [hs24] at hW
          rcases hp24 with ⟨rfl, h24⟩ | ⟨rfl, h24⟩
          · skip
            refine lv_if_ne (tgt := 34) hx hb dX11_lies_27 (by decide) (fun c27 => ?_) (fun c27 => ?_)
            · skip
              have hn_a1 := n_nat (x := a1) (by omega)
              have e_a1 := n_nI (x := a1) (by omega)
              have hn_a2 := n_nat (x := a2) (by omega)
              have e_a2 := n_nI (x := a2) (by omega)
              have hle_a1 := hL a1.toNatClampNeg (by omega)
              refine lv_aload_n hx hb dX11_lies_34 rfl (lv_at hl 0 rfl) ?_
              refine r_getr (ci := 10) (C := RX11) (T := TX11) (N := 20) hx hb hts iX11 hown hW rfl 65 3 rfl (g_lt hG (by decide)) (g_kd hG (by decide) rfl) (by decide) q1 (fun _ h9 => h9) (hP _ (List.mem_of_getElem? (i := 63) rfl)) rfl rfl dX11_lies_35 ?_
              refine lv_iload_n hx hb dX11_lies_38 rfl (lv_at hl 1 rfl) ?_
              refine r_iald hx hb hW 69 rfl (g_lt hG (by decide)) (g_kd hG (by decide) rfl) (g_ix hG (c := 8) (by decide) rfl (t_in (by omega) (by omega))) (le a1.toNatClampNeg) (hRX a1.toNatClampNeg (by omega)).2.1 dX11_lies_39 ?_
              refine lv_if_ge (tgt := 49) hx hb dX11_lies_40 (by decide) (fun c40 => ?_) (fun c40 => ?_)
              · skip
                rw [t_le, show (0 : Int32).toInt = 0 from by decide] at c40
                refine lv_iconst (v := 2) hx hb dX11_lies_49 (by decide) ?_
                refine lv_iload_n hx hb dX11_lies_50 rfl (lv_at hl 2 rfl) ?_
                refine lv_imul hx hb dX11_lies_51 ?_
                rw [show ((2 * a2) : Int32) = (nI (2 * a2.toNatClampNeg)) from (congrArg (fun z => (2 : Int32) * z) e_a2).trans (n_mul 2 _)]
                refine lv_aload_n hx hb dX11_lies_52 rfl (lv_at hl 0 rfl) ?_
                refine r_getr (ci := 10) (C := RX11) (T := TX11) (N := 20) hx hb hts iX11 hown hW rfl 65 3 rfl (g_lt hG (by decide)) (g_kd hG (by decide) rfl) (by decide) q1 (fun _ h9 => h9) (hP _ (List.mem_of_getElem? (i := 63) rfl)) rfl rfl dX11_lies_53 ?_
                refine lv_iload_n hx hb dX11_lies_56 rfl (lv_at hl 1 rfl) ?_
                refine r_iald hx hb hW 69 rfl (g_lt hG (by decide)) (g_kd hG (by decide) rfl) (g_ix hG (c := 8) (by decide) rfl (t_in (by omega) (by omega))) (le a1.toNatClampNeg) (hRX a1.toNatClampNeg (by omega)).2.1 dX11_lies_57 ?_
                refine lv_icmp_le (tgt := 67) hx hb dX11_lies_58 (by decide) (fun c58 => ?_) (fun c58 => ?_)
                · skip
                  rw [t_le] at c58
                  rw [n_toInt (by omega)] at c58
                  have hf0 : fos (le a1.toNatClampNeg) 0 (nI (2 * a2.toNatClampNeg)) = 0 := by unfold fos; rw [if_neg (by omega), if_pos ⟨by decide, by rw [n_toInt (by omega)]; omega, by rw [n_toInt (by omega), show (0 : Int32).toInt = 0 from by decide]; omega⟩]
                  refine lv_aload_n hx hb dX11_lies_67 rfl (lv_at hl 0 rfl) ?_
                  refine lv_iload_n hx hb dX11_lies_68 rfl (lv_at hl 1 rfl) ?_
                  refine lv_iconst (v := 2) hx hb dX11_lies_69 (by decide) ?_
                  refine lv_iload_n hx hb dX11_lies_70 rfl (lv_at hl 2 rfl) ?_
                  refine lv_imul hx hb dX11_lies_71 ?_
                  rw [show ((2 * a2) : Int32) = (nI (2 * a2.toNatClampNeg)) from (congrArg (fun z => (2 : Int32) * z) e_a2).trans (n_mul 2 _)]
                  refine lv_iconst (v := 0) hx hb dX11_lies_72 (by decide) ?_
                  refine lv_sipush (v := 999) hx hb dX11_lies_73 (by decide) ?_
                  refine lv_iconst (v := 0) hx hb dX11_lies_76 (by decide) ?_
                  refine W.eq (g2 := F0 mM 77 ls [.int 0, .int 999, .int 0, .int (nI (2 * a2.toNatClampNeg)), .int (nI a1.toNatClampNeg), .ref (gA G 65)]) (by rw [← e_a1]) ?_
                  refine r_calli hW hA (va_runV (As := [.int (nI a1.toNatClampNeg), .int (nI (2 * a2.toNatClampNeg)), .int 0, .int 999, .int 0]) (rest := []) ⟨hx, hb, hml, hown, hts⟩ (t_X11_areWithin_0 l D G S _ hG hP it la le hRX a1.toNatClampNeg (2 * a2.toNatClampNeg) (by omega) (by omega)) (cwV 5 hts gX11_lies_X11_areWithin rfl rfl rfl (by decide +kernel) ⟨Nat.le_of_ble_eq_true rfl, Nat.le_of_ble_eq_true rfl⟩) (r_preV (k := 65) hA hW (ci := 10) (C := RX11) (T := TX11) (N := 20) rfl rfl (g_lt hG (by decide)) (g_kd hG (by decide) rfl) rfl rfl) rfl rfl hl.1 rfl (lv_room (Nat.le_of_ble_eq_true rfl)) dX11_lies_77 ⟨Nat.zero_le _, Nat.zero_le _⟩) (fun r77 S77 H locs hp77 hW => ?_)
                  obtain ⟨hs77, hp77⟩ := hp77
                  rw [hs77] at hW
                  rcases hp77 with ⟨rfl, h77⟩ | ⟨rfl, h77⟩
                  · skip
                    refine lv_if_ne (tgt := 87) hx hb dX11_lies_80 (by decide) (fun c80 => ?_) (fun c80 => ?_)
                    · skip
                      have hall : ∀ k, k < 2 * a2.toNatClampNeg → 0 ≤ (it a1.toNatClampNeg k).toInt ∧ (it a1.toNatClampNeg k).toInt ≤ 999 := h77
                      refine lv_lconst (v := 0) hx hb dX11_lies_87 (by decide) ?_
                      refine lv_lstore (lv' := [(4, .long 0), (0, .ref (gA G 65)), (1, .int a1), (2, .int a2), (3, .int a3)]) hx hb dX11_lies_88 hl (by decide) rfl (fun ls hl => ?_)
                      refine lv_ldc (v := (-1000000)) hx hb hown q2 dX11_lies_90 ?_
                      refine lv_istore (lv' := [(6, .int (-1000000)), (4, .long 0), (0, .ref (gA G 65)), (1, .int a1), (2, .int a2), (3, .int a3)]) hx hb dX11_lies_92 hl (by decide) rfl (fun ls hl => ?_)
                      refine lv_iconst (v := 0) hx hb dX11_lies_94 (by decide) ?_
                      refine lv_istore (lv' := [(7, .int 0), (6, .int (-1000000)), (4, .long 0), (0, .ref (gA G 65)), (1, .int a1), (2, .int a2), (3, .int a3)]) hx hb dX11_lies_95 hl (by decide) rfl (fun ls hl => ?_)
                      refine lv_iconst (v := 0) hx hb dX11_lies_97 (by decide) ?_
                      refine lv_istore (lv' := [(8, .int 0), (7, .int 0), (6, .int (-1000000)), (4, .long 0), (0, .ref (gA G 65)), (1, .int a1), (2, .int a2), (3, .int a3)]) hx hb dX11_lies_98 hl (by decide) rfl (fun ls hl => ?_)
                      have L100 : ∀ (n : Nat) (k : Nat) (H : Heap) (locs : List Loc) (ls : Array Slot), (a2.toNatClampNeg - k) < n → k ≤ a2.toNatClampNeg → Wd D (AW G s.heap.size) s G S H locs → lv_has ls 10 [(8, .int (nI k)), (4, .long (whoF (fun k => 0 < tmN (it a1.toNatClampNeg) k) k)), (6, .int (wrI (tmM (it a1.toNatClampNeg) k).2)), (7, .int (nI (tmM (it a1.toNatClampNeg) k).1)), (0, .ref (gA G 65)), (1, .int a1), (2, .int a2), (3, .int a3)] → W pP l eE (headSpec wsX11_lies rmX11_lies).room s mM ([.ref (gA G 65), .int a1, .int a2, .int a3] : List Value).toArray bl mT cD H locs 0 0 Q0 (F0 mM 100 ls []) := by
                        intro n
                        induction n with
                        | zero => intro k H locs ls hm; exact absurd hm (Nat.not_lt_zero _)
                        | succ n ih100 =>
                          intro k H locs ls hm100 hk hW hl
                          refine lv_iload hx hb dX11_lies_100 (lv_at hl 0 rfl) ?_
                          refine lv_iload_n hx hb dX11_lies_102 rfl (lv_at hl 6 rfl) ?_
                          refine lv_icmp_ge (tgt := 199) hx hb dX11_lies_103 (by decide) (fun c103 => ?_) (fun c103 => ?_)
                          · skip
                            rw [t_le] at c103
                            have hka : k = a2.toNatClampNeg := by rw [n_toInt (by omega)] at c103; omega
                            refine lv_aload_n hx hb dX11_lies_199 rfl (lv_at hl 4 rfl) ?_
                            refine lv_iload_n hx hb dX11_lies_200 rfl (lv_at hl 7 rfl) ?_
                            refine lv_if_ne (tgt := 209) hx hb dX11_lies_201 (by decide) (fun c201 => ?_) (fun c201 => ?_)
                            · skip
                              rw [t_eq, show (0 : Int32).toInt = 0 from by decide] at c201
                              refine lv_iload hx hb dX11_lies_209 (lv_at hl 2 rfl) ?_
                              refine lv_i2l hx hb dX11_lies_211 rfl ?_
                              refine r_calll hW hA (va_runV (As := [.long (Int32.toInt64 (wrI (tmM (it a1.toNatClampNeg) k).2))]) (rest := []) ⟨hx, hb, hml, hown, hts⟩ (t_X11_good l D G S _ hG hP (Int32.toInt64 (wrI (tmM (it a1.toNatClampNeg) k).2))) (cwV 1 hts gX11_lies_X11_good rfl rfl rfl (by decide +kernel) ⟨Nat.le_of_ble_eq_true rfl, Nat.le_of_ble_eq_true rfl⟩) (r_preV (k := 65) hA hW (ci := 10) (C := RX11) (T := TX11) (N := 20) rfl rfl (g_lt hG (by decide)) (g_kd hG (by decide) rfl) rfl rfl) rfl rfl hl.1 rfl (lv_room (Nat.le_of_ble_eq_true rfl)) dX11_lies_212 ⟨Nat.zero_le _, Nat.zero_le _⟩) (fun r212 S212 H locs hp212 hW => ?_)
                              obtain ⟨hs212, rfl⟩ := hp212
                              rw [hs212] at hW
                              rw [← hQ0]
                              refine r_lret hx hb hr hlocks hW ?_ dX11_lies_215
                              subst hka
                              have e : fLies it le st a1 a2 a3 = ((wrI (tmM (it a1.toNatClampNeg) a2.toNatClampNeg).2).toInt64, 0) := by unfold fLies; rw [if_pos (by omega), if_pos hf0, if_pos hall, if_neg c201]
                              rw [e]
                              exact ⟨rfl, congrFun (e_is _ _ _) 4, (Ch.ri Ch.rf (by omega))⟩
                            · skip
                              rw [t_eq, show (0 : Int32).toInt = 0 from by decide] at c201
                              refine lv_lload hx hb dX11_lies_204 (lv_at hl 1 rfl) ?_
                              refine lv_goto (tgt := 212) hx hb dX11_lies_206 (by decide) ?_
                              refine r_calll hW hA (va_runV (As := [.long (whoF (fun k => 0 < tmN (it a1.toNatClampNeg) k) k)]) (rest := []) ⟨hx, hb, hml, hown, hts⟩ (t_X11_good l D G S _ hG hP (whoF (fun k => 0 < tmN (it a1.toNatClampNeg) k) k)) (cwV 1 hts gX11_lies_X11_good rfl rfl rfl (by decide +kernel) ⟨Nat.le_of_ble_eq_true rfl, Nat.le_of_ble_eq_true rfl⟩) (r_preV (k := 65) hA hW (ci := 10) (C := RX11) (T := TX11) (N := 20) rfl rfl (g_lt hG (by decide)) (g_kd hG (by decide) rfl) rfl rfl) rfl rfl hl.1 rfl (lv_room (Nat.le_of_ble_eq_true rfl)) dX11_lies_212 ⟨Nat.zero_le _, Nat.zero_le _⟩) (fun r212 S212 H locs hp212 hW => ?_)
                              obtain ⟨hs212, rfl⟩ := hp212
                              rw [hs212] at hW
                              rw [← hQ0]
                              refine r_lret hx hb hr hlocks hW ?_ dX11_lies_215
                              subst hka
                              have e : fLies it le st a1 a2 a3 = (whoF (fun k => 0 < tmN (it a1.toNatClampNeg) k) a2.toNatClampNeg, 0) := by unfold fLies; rw [if_pos (by omega), if_pos hf0, if_pos hall, if_pos c201]
                              rw [e]
                              exact ⟨rfl, congrFun (e_is _ _ _) 4, (Ch.ri Ch.rf (by omega))⟩
                          · skip
                            rw [t_le] at c103
                            have hkl : k < a2.toNatClampNeg := by rw [n_toInt (by omega)] at c103; omega
                            refine lv_aload_n hx hb dX11_lies_106 rfl (lv_at hl 4 rfl) ?_
                            refine r_getr (ci := 10) (C := RX11) (T := TX11) (N := 20) hx hb hts iX11 hown hW rfl 65 1 rfl (g_lt hG (by decide)) (g_kd hG (by decide) rfl) (by decide) q3 (fun _ h9 => h9) (hP _ (List.mem_of_getElem? (i := 61) rfl)) rfl rfl dX11_lies_107 ?_
                            refine lv_bipush (v := 40) hx hb dX11_lies_110 (by decide) ?_
                            refine lv_iload_n hx hb dX11_lies_112 rfl (lv_at hl 5 rfl) ?_
                            refine lv_imul hx hb dX11_lies_113 ?_
                            rw [show ((40 * a1) : Int32) = (nI (40 * a1.toNatClampNeg)) from (congrArg (fun z => (40 : Int32) * z) e_a1).trans (n_mul 40 _)]
                            refine lv_iconst (v := 2) hx hb dX11_lies_114 (by decide) ?_
                            refine lv_iload hx hb dX11_lies_115 (lv_at hl 0 rfl) ?_
                            refine lv_imul hx hb dX11_lies_117 ?_
                            rw [show ((2 * (nI k)) : Int32) = (nI (2 * k)) from n_mul 2 k]
                            refine lv_iadd hx hb dX11_lies_118 ?_
                            rw [show (((nI (40 * a1.toNatClampNeg)) + (nI (2 * k))) : Int32) = (nI ((40 * a1.toNatClampNeg) + (2 * k))) from n_add (40 * a1.toNatClampNeg) (2 * k)]
                            refine r_iald hx hb hW 67 rfl (g_lt hG (by decide)) (g_kd hG (by decide) rfl) (g_ix hG (c := 320) (by decide) rfl (n_inI (by omega) (by decide))) (it a1.toNatClampNeg (2 * k)) (by rw [n_clamp (by omega)]; exact (hRX a1.toNatClampNeg (by omega)).2.2 (2 * k) (by omega)) dX11_lies_119 ?_
                            refine lv_aload_n hx hb dX11_lies_120 rfl (lv_at hl 4 rfl) ?_
                            refine r_getr (ci := 10) (C := RX11) (T := TX11) (N := 20) hx hb hts iX11 hown hW rfl 65 1 rfl (g_lt hG (by decide)) (g_kd hG (by decide) rfl) (by decide) q3 (fun _ h9 => h9) (hP _ (List.mem_of_getElem? (i := 61) rfl)) rfl rfl dX11_lies_121 ?_
                            refine lv_bipush (v := 40) hx hb dX11_lies_124 (by decide) ?_
                            refine lv_iload_n hx hb dX11_lies_126 rfl (lv_at hl 5 rfl) ?_
                            refine lv_imul hx hb dX11_lies_127 ?_
                            rw [show ((40 * a1) : Int32) = (nI (40 * a1.toNatClampNeg)) from (congrArg (fun z => (40 : Int32) * z) e_a1).trans (n_mul 40 _)]
                            refine lv_iconst (v := 2) hx hb dX11_lies_128 (by decide) ?_
                            refine lv_iload hx hb dX11_lies_129 (lv_at hl 0 rfl) ?_
                            refine lv_imul hx hb dX11_lies_131 ?_
                            rw [show ((2 * (nI k)) : Int32) = (nI (2 * k)) from n_mul 2 k]
                            refine lv_iadd hx hb dX11_lies_132 ?_
                            rw [show (((nI (40 * a1.toNatClampNeg)) + (nI (2 * k))) : Int32) = (nI ((40 * a1.toNatClampNeg) + (2 * k))) from n_add (40 * a1.toNatClampNeg) (2 * k)]
                            refine lv_iconst (v := 1) hx hb dX11_lies_133 (by decide) ?_
                            refine lv_iadd hx hb dX11_lies_134 ?_
                            rw [show (((nI ((40 * a1.toNatClampNeg) + (2 * k))) + 1) : Int32) = (nI (((40 * a1.toNatClampNeg) + (2 * k)) + 1)) from n_add ((40 * a1.toNatClampNeg) + (2 * k)) 1]
                            refine r_iald hx hb hW 67 rfl (g_lt hG (by decide)) (g_kd hG (by decide) rfl) (g_ix hG (c := 320) (by decide) rfl (n_inI (by omega) (by decide))) (it a1.toNatClampNeg (2 * k + 1)) (by rw [n_clamp (by omega), Nat.add_assoc]; exact (hRX a1.toNatClampNeg (by omega)).2.2 (2 * k + 1) (by omega)) dX11_lies_135 ?_
                            refine lv_isub hx hb dX11_lies_136 ?_
                            have w0 := hall (2 * k) (by omega)
                            have w1 := hall (2 * k + 1) (by omega)
                            have htm : (((it a1.toNatClampNeg (2 * k)) - (it a1.toNatClampNeg (2 * k + 1)))).toInt = (it a1.toNatClampNeg (2 * k)).toInt - (it a1.toNatClampNeg (2 * k + 1)).toInt := t_sub (by omega) (by omega)
                            have f0 := n_nat (x := it a1.toNatClampNeg (2 * k)) w0.1
                            have f1 := n_nat (x := it a1.toNatClampNeg (2 * k + 1)) w1.1
                            have htN : tmN (it a1.toNatClampNeg) k = (((it a1.toNatClampNeg (2 * k)) - (it a1.toNatClampNeg (2 * k + 1)))).toInt.toNat := by unfold tmN; omega
                            have hM1 := tmM_1 (it a1.toNatClampNeg) k (fun j hj => hall j (by omega))
                            have hM2 : (nI (tmM (it a1.toNatClampNeg) k).1).toInt = ((tmM (it a1.toNatClampNeg) k).1 : Int) := n_toInt (by omega)
                            refine lv_istore (lv' := [(9, .int ((it a1.toNatClampNeg (2 * k)) - (it a1.toNatClampNeg (2 * k + 1)))), (8, .int (nI k)), (4, .long (whoF (fun k => 0 < tmN (it a1.toNatClampNeg) k) k)), (6, .int (wrI (tmM (it a1.toNatClampNeg) k).2)), (7, .int (nI (tmM (it a1.toNatClampNeg) k).1)), (0, .ref (gA G 65)), (1, .int a1), (2, .int a2), (3, .int a3)]) hx hb dX11_lies_137 hl (by decide) rfl (fun ls hl => ?_)
                            refine lv_lload hx hb dX11_lies_139 (lv_at hl 2 rfl) ?_
                            refine lv_iload hx hb dX11_lies_141 (lv_at hl 0 rfl) ?_
                            refine lv_if_le (tgt := 150) hx hb dX11_lies_143 (by decide) (fun c143 => ?_) (fun c143 => ?_)
                            · skip
                              rw [t_le, show (0 : Int32).toInt = 0 from by decide] at c143
                              refine lv_iconst (v := 0) hx hb dX11_lies_150 (by decide) ?_
                              refine r_calli hW hA (va_runS (As := [.int 0]) (rest := [.long (whoF (fun k => 0 < tmN (it a1.toNatClampNeg) k) k)]) ⟨hx, hb, hml, hown, hts⟩ (t_X11_one l D G S _ 0 (by decide)) (va_cwS 1 hts gX11_lies_X11_one rfl rfl rfl (by decide +kernel) ⟨Nat.le_of_ble_eq_true rfl, Nat.le_of_ble_eq_true rfl⟩) (r_preS hA hW) rfl rfl hl.1 rfl (lv_room (Nat.le_of_ble_eq_true rfl)) dX11_lies_151 ⟨Nat.zero_le _, Nat.zero_le _⟩) (fun r151 S151 H locs hp151 hW => ?_)
                              obtain ⟨hs151, rfl⟩ := hp151
                              rw [hs151] at hW
                              refine lv_i2l hx hb dX11_lies_154 rfl ?_
                              have ez : ((Int32.toInt64 0) : Int64) = 0 := by decide
                              refine W.eq (g2 := F0 mM 155 ls [.long 0, .long (whoF (fun k => 0 < tmN (it a1.toNatClampNeg) k) k)]) (by rw [← ez]) ?_
                              refine lv_iload hx hb dX11_lies_155 (lv_at hl 1 rfl) ?_
                              refine lv_lshl hx hb dX11_lies_157 rfl ?_
                              refine lv_lor hx hb dX11_lies_158 ?_
                              refine lv_lstore (lv' := [(4, .long ((whoF (fun k => 0 < tmN (it a1.toNatClampNeg) k) k) ||| (0 <<< (Int32.toInt64 (nI k) &&& 63)))), (9, .int ((it a1.toNatClampNeg (2 * k)) - (it a1.toNatClampNeg (2 * k + 1)))), (8, .int (nI k)), (6, .int (wrI (tmM (it a1.toNatClampNeg) k).2)), (7, .int (nI (tmM (it a1.toNatClampNeg) k).1)), (0, .ref (gA G 65)), (1, .int a1), (2, .int a2), (3, .int a3)]) hx hb dX11_lies_159 hl (by decide) rfl (fun ls hl => ?_)
                              refine lv_iload hx hb dX11_lies_161 (lv_at hl 1 rfl) ?_
                              refine lv_iload hx hb dX11_lies_163 (lv_at hl 4 rfl) ?_
                              refine lv_icmp_le (tgt := 173) hx hb dX11_lies_165 (by decide) (fun c165 => ?_) (fun c165 => ?_)
                              · skip
                                have d165 := (t_le _ _).mp c165
                                refine lv_iload hx hb dX11_lies_173 (lv_at hl 3 rfl) ?_
                                refine lv_istore (lv' := [(6, .int (wrI (tmM (it a1.toNatClampNeg) k).2)), (4, .long ((whoF (fun k => 0 < tmN (it a1.toNatClampNeg) k) k) ||| (0 <<< (Int32.toInt64 (nI k) &&& 63)))), (9, .int ((it a1.toNatClampNeg (2 * k)) - (it a1.toNatClampNeg (2 * k + 1)))), (8, .int (nI k)), (7, .int (nI (tmM (it a1.toNatClampNeg) k).1)), (0, .ref (gA G 65)), (1, .int a1), (2, .int a2), (3, .int a3)]) hx hb dX11_lies_175 hl (by decide) rfl (fun ls hl => ?_)
                                refine lv_iload hx hb dX11_lies_177 (lv_at hl 2 rfl) ?_
                                refine lv_iload hx hb dX11_lies_179 (lv_at hl 4 rfl) ?_
                                refine lv_icmp_le (tgt := 189) hx hb dX11_lies_181 (by decide) (fun c181 => ?_) (fun c181 => ?_)
                                · skip
                                  refine lv_iload hx hb dX11_lies_189 (lv_at hl 4 rfl) ?_
                                  refine lv_istore (lv' := [(7, .int (nI (tmM (it a1.toNatClampNeg) k).1)), (6, .int (wrI (tmM (it a1.toNatClampNeg) k).2)), (4, .long ((whoF (fun k => 0 < tmN (it a1.toNatClampNeg) k) k) ||| (0 <<< (Int32.toInt64 (nI k) &&& 63)))), (9, .int ((it a1.toNatClampNeg (2 * k)) - (it a1.toNatClampNeg (2 * k + 1)))), (8, .int (nI k)), (0, .ref (gA G 65)), (1, .int a1), (2, .int a2), (3, .int a3)]) hx hb dX11_lies_191 hl (by decide) rfl (fun ls hl => ?_)
                                  have ew : ((whoF (fun k => 0 < tmN (it a1.toNatClampNeg) k) k) ||| (0 <<< (Int32.toInt64 (nI k) &&& 63))) = whoF (fun k => 0 < tmN (it a1.toNatClampNeg) k) (k + 1) := by rw [sh0]; show _ = (if 0 < tmN (it a1.toNatClampNeg) k then _ else _); rw [if_neg (by omega)]
                                  have eM : tmM (it a1.toNatClampNeg) (k + 1) = tmM (it a1.toNatClampNeg) k := by show (if _ then _ else _) = _; rw [if_neg (by omega)]
                                  have em : (nI (tmM (it a1.toNatClampNeg) k).1) = nI (tmM (it a1.toNatClampNeg) (k + 1)).1 := by rw [eM]
                                  have eo : (wrI (tmM (it a1.toNatClampNeg) k).2) = wrI (tmM (it a1.toNatClampNeg) (k + 1)).2 := by rw [eM]
                                  have hl : lv_has ls 10 [(7, .int (nI (tmM (it a1.toNatClampNeg) (k + 1)).1)), (6, .int (wrI (tmM (it a1.toNatClampNeg) (k + 1)).2)), (4, .long (whoF (fun k => 0 < tmN (it a1.toNatClampNeg) k) (k + 1))), (9, .int ((it a1.toNatClampNeg (2 * k)) - (it a1.toNatClampNeg (2 * k + 1)))), (8, .int (nI k)), (0, .ref (gA G 65)), (1, .int a1), (2, .int a2), (3, .int a3)] := by rw [← ew, ← em, ← eo]; exact hl
                                  refine lv_iinc (v := (nI (k + 1))) (lv' := [(8, .int (nI (k + 1))), (7, .int (nI (tmM (it a1.toNatClampNeg) (k + 1)).1)), (6, .int (wrI (tmM (it a1.toNatClampNeg) (k + 1)).2)), (4, .long (whoF (fun k => 0 < tmN (it a1.toNatClampNeg) k) (k + 1))), (9, .int ((it a1.toNatClampNeg (2 * k)) - (it a1.toNatClampNeg (2 * k + 1)))), (0, .ref (gA G 65)), (1, .int a1), (2, .int a2), (3, .int a3)]) hx hb dX11_lies_193 hl (k := 4) rfl (nI_1 k) (by decide) rfl (fun ls hl => ?_)
                                  refine lv_goto (tgt := 100) hx hb dX11_lies_196 (by decide) ?_
                                  exact ih100 (k + 1) _ _ ls (by omega) hkl hW (lv_sub hl [0, 3, 2, 1, 5, 6, 7, 8] rfl)
                                · exact absurd c165 c181
                              · skip
                                have d165 : ¬ _ := fun z => c165 ((t_le _ _).mpr z)
                                refine lv_iload hx hb dX11_lies_168 (lv_at hl 2 rfl) ?_
                                refine lv_goto (tgt := 175) hx hb dX11_lies_170 (by decide) ?_
                                refine lv_istore (lv' := [(6, .int (nI k)), (4, .long ((whoF (fun k => 0 < tmN (it a1.toNatClampNeg) k) k) ||| (0 <<< (Int32.toInt64 (nI k) &&& 63)))), (9, .int ((it a1.toNatClampNeg (2 * k)) - (it a1.toNatClampNeg (2 * k + 1)))), (8, .int (nI k)), (7, .int (nI (tmM (it a1.toNatClampNeg) k).1)), (0, .ref (gA G 65)), (1, .int a1), (2, .int a2), (3, .int a3)]) hx hb dX11_lies_175 hl (by decide) rfl (fun ls hl => ?_)
                                refine lv_iload hx hb dX11_lies_177 (lv_at hl 2 rfl) ?_
                                refine lv_iload hx hb dX11_lies_179 (lv_at hl 4 rfl) ?_
                                refine lv_icmp_le (tgt := 189) hx hb dX11_lies_181 (by decide) (fun c181 => ?_) (fun c181 => ?_)
                                · exact absurd c181 c165
                                · skip
                                  refine lv_iload hx hb dX11_lies_184 (lv_at hl 2 rfl) ?_
                                  refine lv_goto (tgt := 191) hx hb dX11_lies_186 (by decide) ?_
                                  refine lv_istore (lv' := [(7, .int ((it a1.toNatClampNeg (2 * k)) - (it a1.toNatClampNeg (2 * k + 1)))), (6, .int (nI k)), (4, .long ((whoF (fun k => 0 < tmN (it a1.toNatClampNeg) k) k) ||| (0 <<< (Int32.toInt64 (nI k) &&& 63)))), (9, .int ((it a1.toNatClampNeg (2 * k)) - (it a1.toNatClampNeg (2 * k + 1)))), (8, .int (nI k)), (0, .ref (gA G 65)), (1, .int a1), (2, .int a2), (3, .int a3)]) hx hb dX11_lies_191 hl (by decide) rfl (fun ls hl => ?_)
                                  have ew : ((whoF (fun k => 0 < tmN (it a1.toNatClampNeg) k) k) ||| (0 <<< (Int32.toInt64 (nI k) &&& 63))) = whoF (fun k => 0 < tmN (it a1.toNatClampNeg) k) (k + 1) := by rw [sh0]; show _ = (if 0 < tmN (it a1.toNatClampNeg) k then _ else _); rw [if_neg (by omega)]
                                  have eM : tmM (it a1.toNatClampNeg) (k + 1) = (tmN (it a1.toNatClampNeg) k, some k) := by show (if _ then _ else _) = _; rw [if_pos (by omega)]
                                  have em : ((it a1.toNatClampNeg (2 * k)) - (it a1.toNatClampNeg (2 * k + 1))) = nI (tmM (it a1.toNatClampNeg) (k + 1)).1 := by rw [eM]; show _ = nI (tmN (it a1.toNatClampNeg) k); rw [htN]; exact n_nI (by omega)
                                  have eo : (nI k) = wrI (tmM (it a1.toNatClampNeg) (k + 1)).2 := by rw [eM]; rfl
                                  have hl : lv_has ls 10 [(7, .int (nI (tmM (it a1.toNatClampNeg) (k + 1)).1)), (6, .int (wrI (tmM (it a1.toNatClampNeg) (k + 1)).2)), (4, .long (whoF (fun k => 0 < tmN (it a1.toNatClampNeg) k) (k + 1))), (9, .int ((it a1.toNatClampNeg (2 * k)) - (it a1.toNatClampNeg (2 * k + 1)))), (8, .int (nI k)), (0, .ref (gA G 65)), (1, .int a1), (2, .int a2), (3, .int a3)] := by rw [← ew, ← em, ← eo]; exact hl
                                  refine lv_iinc (v := (nI (k + 1))) (lv' := [(8, .int (nI (k + 1))), (7, .int (nI (tmM (it a1.toNatClampNeg) (k + 1)).1)), (6, .int (wrI (tmM (it a1.toNatClampNeg) (k + 1)).2)), (4, .long (whoF (fun k => 0 < tmN (it a1.toNatClampNeg) k) (k + 1))), (9, .int ((it a1.toNatClampNeg (2 * k)) - (it a1.toNatClampNeg (2 * k + 1)))), (0, .ref (gA G 65)), (1, .int a1), (2, .int a2), (3, .int a3)]) hx hb dX11_lies_193 hl (k := 4) rfl (nI_1 k) (by decide) rfl (fun ls hl => ?_)
                                  refine lv_goto (tgt := 100) hx hb dX11_lies_196 (by decide) ?_
                                  exact ih100 (k + 1) _ _ ls (by omega) hkl hW (lv_sub hl [0, 3, 2, 1, 5, 6, 7, 8] rfl)
                            · skip
                              rw [t_le, show (0 : Int32).toInt = 0 from by decide] at c143
                              refine lv_iconst (v := 1) hx hb dX11_lies_146 (by decide) ?_
                              refine lv_goto (tgt := 151) hx hb dX11_lies_147 (by decide) ?_
                              refine r_calli hW hA (va_runS (As := [.int 1]) (rest := [.long (whoF (fun k => 0 < tmN (it a1.toNatClampNeg) k) k)]) ⟨hx, hb, hml, hown, hts⟩ (t_X11_one l D G S _ 1 (by decide)) (va_cwS 1 hts gX11_lies_X11_one rfl rfl rfl (by decide +kernel) ⟨Nat.le_of_ble_eq_true rfl, Nat.le_of_ble_eq_true rfl⟩) (r_preS hA hW) rfl rfl hl.1 rfl (lv_room (Nat.le_of_ble_eq_true rfl)) dX11_lies_151 ⟨Nat.zero_le _, Nat.zero_le _⟩) (fun r151 S151 H locs hp151 hW => ?_)
                              obtain ⟨hs151, rfl⟩ := hp151
                              rw [hs151] at hW
                              refine lv_i2l hx hb dX11_lies_154 rfl ?_
                              have ez : ((Int32.toInt64 1) : Int64) = 1 := by decide
                              refine W.eq (g2 := F0 mM 155 ls [.long 1, .long (whoF (fun k => 0 < tmN (it a1.toNatClampNeg) k) k)]) (by rw [← ez]) ?_
                              refine lv_iload hx hb dX11_lies_155 (lv_at hl 1 rfl) ?_
                              refine lv_lshl hx hb dX11_lies_157 rfl ?_
                              refine lv_lor hx hb dX11_lies_158 ?_
                              refine lv_lstore (lv' := [(4, .long ((whoF (fun k => 0 < tmN (it a1.toNatClampNeg) k) k) ||| (1 <<< (Int32.toInt64 (nI k) &&& 63)))), (9, .int ((it a1.toNatClampNeg (2 * k)) - (it a1.toNatClampNeg (2 * k + 1)))), (8, .int (nI k)), (6, .int (wrI (tmM (it a1.toNatClampNeg) k).2)), (7, .int (nI (tmM (it a1.toNatClampNeg) k).1)), (0, .ref (gA G 65)), (1, .int a1), (2, .int a2), (3, .int a3)]) hx hb dX11_lies_159 hl (by decide) rfl (fun ls hl => ?_)
                              refine lv_iload hx hb dX11_lies_161 (lv_at hl 1 rfl) ?_
                              refine lv_iload hx hb dX11_lies_163 (lv_at hl 4 rfl) ?_
                              refine lv_icmp_le (tgt := 173) hx hb dX11_lies_165 (by decide) (fun c165 => ?_) (fun c165 => ?_)
                              · skip
                                have d165 := (t_le _ _).mp c165
                                refine lv_iload hx hb dX11_lies_173 (lv_at hl 3 rfl) ?_
                                refine lv_istore (lv' := [(6, .int (wrI (tmM (it a1.toNatClampNeg) k).2)), (4, .long ((whoF (fun k => 0 < tmN (it a1.toNatClampNeg) k) k) ||| (1 <<< (Int32.toInt64 (nI k) &&& 63)))), (9, .int ((it a1.toNatClampNeg (2 * k)) - (it a1.toNatClampNeg (2 * k + 1)))), (8, .int (nI k)), (7, .int (nI (tmM (it a1.toNatClampNeg) k).1)), (0, .ref (gA G 65)), (1, .int a1), (2, .int a2), (3, .int a3)]) hx hb dX11_lies_175 hl (by decide) rfl (fun ls hl => ?_)
                                refine lv_iload hx hb dX11_lies_177 (lv_at hl 2 rfl) ?_
                                refine lv_iload hx hb dX11_lies_179 (lv_at hl 4 rfl) ?_
                                refine lv_icmp_le (tgt := 189) hx hb dX11_lies_181 (by decide) (fun c181 => ?_) (fun c181 => ?_)
                                · skip
                                  refine lv_iload hx hb dX11_lies_189 (lv_at hl 4 rfl) ?_
                                  refine lv_istore (lv' := [(7, .int (nI (tmM (it a1.toNatClampNeg) k).1)), (6, .int (wrI (tmM (it a1.toNatClampNeg) k).2)), (4, .long ((whoF (fun k => 0 < tmN (it a1.toNatClampNeg) k) k) ||| (1 <<< (Int32.toInt64 (nI k) &&& 63)))), (9, .int ((it a1.toNatClampNeg (2 * k)) - (it a1.toNatClampNeg (2 * k + 1)))), (8, .int (nI k)), (0, .ref (gA G 65)), (1, .int a1), (2, .int a2), (3, .int a3)]) hx hb dX11_lies_191 hl (by decide) rfl (fun ls hl => ?_)
                                  have ew : ((whoF (fun k => 0 < tmN (it a1.toNatClampNeg) k) k) ||| (1 <<< (Int32.toInt64 (nI k) &&& 63))) = whoF (fun k => 0 < tmN (it a1.toNatClampNeg) k) (k + 1) := by show _ = (if 0 < tmN (it a1.toNatClampNeg) k then _ else _); rw [if_pos (by omega)]
                                  have eM : tmM (it a1.toNatClampNeg) (k + 1) = tmM (it a1.toNatClampNeg) k := by show (if _ then _ else _) = _; rw [if_neg (by omega)]
                                  have em : (nI (tmM (it a1.toNatClampNeg) k).1) = nI (tmM (it a1.toNatClampNeg) (k + 1)).1 := by rw [eM]
                                  have eo : (wrI (tmM (it a1.toNatClampNeg) k).2) = wrI (tmM (it a1.toNatClampNeg) (k + 1)).2 := by rw [eM]
                                  have hl : lv_has ls 10 [(7, .int (nI (tmM (it a1.toNatClampNeg) (k + 1)).1)), (6, .int (wrI (tmM (it a1.toNatClampNeg) (k + 1)).2)), (4, .long (whoF (fun k => 0 < tmN (it a1.toNatClampNeg) k) (k + 1))), (9, .int ((it a1.toNatClampNeg (2 * k)) - (it a1.toNatClampNeg (2 * k + 1)))), (8, .int (nI k)), (0, .ref (gA G 65)), (1, .int a1), (2, .int a2), (3, .int a3)] := by rw [← ew, ← em, ← eo]; exact hl
                                  refine lv_iinc (v := (nI (k + 1))) (lv' := [(8, .int (nI (k + 1))), (7, .int (nI (tmM (it a1.toNatClampNeg) (k + 1)).1)), (6, .int (wrI (tmM (it a1.toNatClampNeg) (k + 1)).2)), (4, .long (whoF (fun k => 0 < tmN (it a1.toNatClampNeg) k) (k + 1))), (9, .int ((it a1.toNatClampNeg (2 * k)) - (it a1.toNatClampNeg (2 * k + 1)))), (0, .ref (gA G 65)), (1, .int a1), (2, .int a2), (3, .int a3)]) hx hb dX11_lies_193 hl (k := 4) rfl (nI_1 k) (by decide) rfl (fun ls hl => ?_)
                                  refine lv_goto (tgt := 100) hx hb dX11_lies_196 (by decide) ?_
                                  exact ih100 (k + 1) _ _ ls (by omega) hkl hW (lv_sub hl [0, 3, 2, 1, 5, 6, 7, 8] rfl)
                                · exact absurd c165 c181
                              · skip
                                have d165 : ¬ _ := fun z => c165 ((t_le _ _).mpr z)
                                refine lv_iload hx hb dX11_lies_168 (lv_at hl 2 rfl) ?_
                                refine lv_goto (tgt := 175) hx hb dX11_lies_170 (by decide) ?_
                                refine lv_istore (lv' := [(6, .int (nI k)), (4, .long ((whoF (fun k => 0 < tmN (it a1.toNatClampNeg) k) k) ||| (1 <<< (Int32.toInt64 (nI k) &&& 63)))), (9, .int ((it a1.toNatClampNeg (2 * k)) - (it a1.toNatClampNeg (2 * k + 1)))), (8, .int (nI k)), (7, .int (nI (tmM (it a1.toNatClampNeg) k).1)), (0, .ref (gA G 65)), (1, .int a1), (2, .int a2), (3, .int a3)]) hx hb dX11_lies_175 hl (by decide) rfl (fun ls hl => ?_)
                                refine lv_iload hx hb dX11_lies_177 (lv_at hl 2 rfl) ?_
                                refine lv_iload hx hb dX11_lies_179 (lv_at hl 4 rfl) ?_
                                refine lv_icmp_le (tgt := 189) hx hb dX11_lies_181 (by decide) (fun c181 => ?_) (fun c181 => ?_)
                                · exact absurd c181 c165
                                · skip
                                  refine lv_iload hx hb dX11_lies_184 (lv_at hl 2 rfl) ?_
                                  refine lv_goto (tgt := 191) hx hb dX11_lies_186 (by decide) ?_
                                  refine lv_istore (lv' := [(7, .int ((it a1.toNatClampNeg (2 * k)) - (it a1.toNatClampNeg (2 * k + 1)))), (6, .int (nI k)), (4, .long ((whoF (fun k => 0 < tmN (it a1.toNatClampNeg) k) k) ||| (1 <<< (Int32.toInt64 (nI k) &&& 63)))), (9, .int ((it a1.toNatClampNeg (2 * k)) - (it a1.toNatClampNeg (2 * k + 1)))), (8, .int (nI k)), (0, .ref (gA G 65)), (1, .int a1), (2, .int a2), (3, .int a3)]) hx hb dX11_lies_191 hl (by decide) rfl (fun ls hl => ?_)
                                  have ew : ((whoF (fun k => 0 < tmN (it a1.toNatClampNeg) k) k) ||| (1 <<< (Int32.toInt64 (nI k) &&& 63))) = whoF (fun k => 0 < tmN (it a1.toNatClampNeg) k) (k + 1) := by show _ = (if 0 < tmN (it a1.toNatClampNeg) k then _ else _); rw [if_pos (by omega)]
                                  have eM : tmM (it a1.toNatClampNeg) (k + 1) = (tmN (it a1.toNatClampNeg) k, some k) := by show (if _ then _ else _) = _; rw [if_pos (by omega)]
                                  have em : ((it a1.toNatClampNeg (2 * k)) - (it a1.toNatClampNeg (2 * k + 1))) = nI (tmM (it a1.toNatClampNeg) (k + 1)).1 := by rw [eM]; show _ = nI (tmN (it a1.toNatClampNeg) k); rw [htN]; exact n_nI (by omega)
                                  have eo : (nI k) = wrI (tmM (it a1.toNatClampNeg) (k + 1)).2 := by rw [eM]; rfl
                                  have hl : lv_has ls 10 [(7, .int (nI (tmM (it a1.toNatClampNeg) (k + 1)).1)), (6, .int (wrI (tmM (it a1.toNatClampNeg) (k + 1)).2)), (4, .long (whoF (fun k => 0 < tmN (it a1.toNatClampNeg) k) (k + 1))), (9, .int ((it a1.toNatClampNeg (2 * k)) - (it a1.toNatClampNeg (2 * k + 1)))), (8, .int (nI k)), (0, .ref (gA G 65)), (1, .int a1), (2, .int a2), (3, .int a3)] := by rw [← ew, ← em, ← eo]; exact hl
                                  refine lv_iinc (v := (nI (k + 1))) (lv' := [(8, .int (nI (k + 1))), (7, .int (nI (tmM (it a1.toNatClampNeg) (k + 1)).1)), (6, .int (wrI (tmM (it a1.toNatClampNeg) (k + 1)).2)), (4, .long (whoF (fun k => 0 < tmN (it a1.toNatClampNeg) k) (k + 1))), (9, .int ((it a1.toNatClampNeg (2 * k)) - (it a1.toNatClampNeg (2 * k + 1)))), (0, .ref (gA G 65)), (1, .int a1), (2, .int a2), (3, .int a3)]) hx hb dX11_lies_193 hl (k := 4) rfl (nI_1 k) (by decide) rfl (fun ls hl => ?_)
                                  refine lv_goto (tgt := 100) hx hb dX11_lies_196 (by decide) ?_
                                  exact ih100 (k + 1) _ _ ls (by omega) hkl hW (lv_sub hl [0, 3, 2, 1, 5, 6, 7, 8] rfl)
                      exact L100 _ 0 _ _ ls (Nat.lt_succ_self _) (Nat.zero_le _) hW (lv_sub hl [0, 3, 2, 1, 4, 5, 6, 7] rfl)
                    · exact absurd c80 (by decide)
                  · skip
                    refine lv_if_ne (tgt := 87) hx hb dX11_lies_80 (by decide) (fun c80 => ?_) (fun c80 => ?_)
                    · exact absurd (by decide) c80
                    · skip
                      refine lv_ldc2 (v := (-9000000000000000001)) hx hb hown q4 dX11_lies_83 ?_
                      rw [← hQ0]
                      refine r_lret hx hb hr hlocks hW ?_ dX11_lies_86
                      have e : fLies it le st a1 a2 a3 = (BADL, st) := by unfold fLies; rw [if_pos (by omega), if_pos hf0, if_neg (show ¬ (∀ k, k < 2 * a2.toNatClampNeg → 0 ≤ (it a1.toNatClampNeg k).toInt ∧ (it a1.toNatClampNeg k).toInt ≤ 999) from h77)]
                      rw [e]
                      exact ⟨rfl, hst, Ch.rf⟩
                · skip
                  rw [t_le] at c58
                  rw [n_toInt (by omega)] at c58
                  refine lv_aload_n hx hb dX11_lies_61 rfl (lv_at hl 0 rfl) ?_
                  refine lv_iconst (v := 2) hx hb dX11_lies_62 (by decide) ?_
                  refine r_calll hW hA (va_runV (As := [.int 2]) (rest := []) ⟨hx, hb, hml, hown, hts⟩ (t_X11_found l D G S _ hG hP 2) (cwV 1 hts gX11_lies_X11_found rfl rfl rfl (by decide +kernel) ⟨Nat.le_of_ble_eq_true rfl, Nat.le_of_ble_eq_true rfl⟩) (r_preV (k := 65) hA hW (ci := 10) (C := RX11) (T := TX11) (N := 20) rfl rfl (g_lt hG (by decide)) (g_kd hG (by decide) rfl) rfl rfl) rfl rfl hl.1 rfl (lv_room (Nat.le_of_ble_eq_true rfl)) dX11_lies_63 ⟨Nat.zero_le _, Nat.zero_le _⟩) (fun r63 S63 H locs hp63 hW => ?_)
                  obtain ⟨hs63, rfl⟩ := hp63
                  rw [hs63] at hW
                  rw [← hQ0]
                  refine r_lret hx hb hr hlocks hW ?_ dX11_lies_66
                  have ef : fos (le a1.toNatClampNeg) 0 (nI (2 * a2.toNatClampNeg)) = 2 := by unfold fos; rw [if_neg (by omega), if_neg (fun z => by rw [n_toInt (by omega)] at z; omega)]
                  have e : fLies it le st a1 a2 a3 = (FND 2, 2) := by unfold fLies; rw [if_pos (by omega), ef, if_neg (by decide)]
                  rw [e]
                  exact ⟨rfl, congrFun (e_is _ _ _) 4, (Ch.ri Ch.rf (by omega))⟩
              · skip
                rw [t_le, show (0 : Int32).toInt = 0 from by decide] at c40
                refine lv_aload_n hx hb dX11_lies_43 rfl (lv_at hl 0 rfl) ?_
                refine lv_iconst (v := 1) hx hb dX11_lies_44 (by decide) ?_
                refine r_calll hW hA (va_runV (As := [.int 1]) (rest := []) ⟨hx, hb, hml, hown, hts⟩ (t_X11_found l D G S _ hG hP 1) (cwV 1 hts gX11_lies_X11_found rfl rfl rfl (by decide +kernel) ⟨Nat.le_of_ble_eq_true rfl, Nat.le_of_ble_eq_true rfl⟩) (r_preV (k := 65) hA hW (ci := 10) (C := RX11) (T := TX11) (N := 20) rfl rfl (g_lt hG (by decide)) (g_kd hG (by decide) rfl) rfl rfl) rfl rfl hl.1 rfl (lv_room (Nat.le_of_ble_eq_true rfl)) dX11_lies_45 ⟨Nat.zero_le _, Nat.zero_le _⟩) (fun r45 S45 H locs hp45 hW => ?_)
                obtain ⟨hs45, rfl⟩ := hp45
                rw [hs45] at hW
                rw [← hQ0]
                refine r_lret hx hb hr hlocks hW ?_ dX11_lies_48
                have ef : fos (le a1.toNatClampNeg) 0 (nI (2 * a2.toNatClampNeg)) = 1 := by unfold fos; rw [if_pos (by omega)]
                have e : fLies it le st a1 a2 a3 = (FND 1, 1) := by unfold fLies; rw [if_pos (by omega), ef, if_neg (by decide)]
                rw [e]
                exact ⟨rfl, congrFun (e_is _ _ _) 4, (Ch.ri Ch.rf (by omega))⟩
            · exact absurd c27 (by decide)
          · skip
            refine lv_if_ne (tgt := 34) hx hb dX11_lies_27 (by decide) (fun c27 => ?_) (fun c27 => ?_)
            · exact absurd (by decide) c27
            · skip
              refine lv_ldc2 (v := (-9000000000000000001)) hx hb hown q4 dX11_lies_30 ?_
              rw [← hQ0]
              refine r_lret hx hb hr hlocks hW ?_ dX11_lies_33
              have e : fLies it le st a1 a2 a3 = (BADL, st) := by unfold fLies; rw [if_neg (by omega)]
              rw [e]
              exact ⟨rfl, hst, Ch.rf⟩
      · skip
        refine lv_if_eq (tgt := 30) hx hb dX11_lies_17 (by decide) (fun c17 => ?_) (fun c17 => ?_)
        · skip
          refine lv_ldc2 (v := (-9000000000000000001)) hx hb hown q4 dX11_lies_30 ?_
          rw [← hQ0]
          refine r_lret hx hb hr hlocks hW ?_ dX11_lies_33
          have e : fLies it le st a1 a2 a3 = (BADL, st) := by unfold fLies; rw [if_neg (by omega)]
          rw [e]
          exact ⟨rfl, hst, Ch.rf⟩
        · exact absurd (by decide) c17
  · skip
    refine lv_if_eq (tgt := 30) hx hb dX11_lies_5 (by decide) (fun c5 => ?_) (fun c5 => ?_)
    · skip
      refine lv_ldc2 (v := (-9000000000000000001)) hx hb hown q4 dX11_lies_30 ?_
      rw [← hQ0]
      refine r_lret hx hb hr hlocks hW ?_ dX11_lies_33
      have e : fLies it le st a1 a2 a3 = (BADL, st) := by unfold fLies; rw [if_neg (by omega)]
      rw [e]
      exact ⟨rfl, hst, Ch.rf⟩
    · exact absurd (by decide) c5

/-- a body begins, the model's -/
def trcM (S : Sg) (b : Int32) : Sg := ri (ri S 74 (bgR (gi S 74) (gi S 65 19) b)) 65 (va_up (gi S 65) 19 (bgN (gi S 65 19)))
theorem trcM_i {S : Sg} {b : Int32} {k : Nat} (h65 : k ≠ 65) (h74 : k ≠ 74) : gi (trcM S b) k = gi S k := by unfold trcM; rw [gi_ri, up_n _ _ h65, gi_ri, up_n _ _ h74]
theorem GrP.trcM {G : Gg} {S : Sg} {x : Int32} (hP : GrP G S) : GrP G (trcM S x) := hP
theorem trcM_0 {S : Sg} {b : Int32} (h : 0 ≤ (gi S 65 19).toInt) : 0 ≤ (gi (trcM S b) 65 19).toInt := by
  have e : gi (trcM S b) 65 19 = bgN (gi S 65 19) := by unfold trcM; rw [gi_ri, up_s, up_s]
  rw [e]
  unfold bgN
  split
  · rw [t_add (by rw [show (1 : Int32).toInt = 1 from by decide]; omega) (by rw [show (1 : Int32).toInt = 1 from by decide]; omega), show (1 : Int32).toInt = 1 from by decide]; omega
  · exact h
def trcsM (S : Sg) (l : List Int32) : Sg := l.foldl trcM S
theorem trcsM_q (l : List Int32) : ∀ S : Sg, (gi (trcsM S l) 65 19, gi (trcsM S l) 74) = l.foldl trQ (gi S 65 19, gi S 74) := by
  induction l with
  | nil => exact fun S => rfl
  | cons x l ih =>
    intro S
    show (gi (trcsM (trcM S x) l) 65 19, gi (trcsM (trcM S x) l) 74) = l.foldl trQ (trQ (gi S 65 19, gi S 74) x)
    rw [ih]
    have e1 : gi (trcM S x) 65 19 = bgN (gi S 65 19) := by unfold trcM; rw [gi_ri, up_s, up_s]
    have e2 : gi (trcM S x) 74 = bgR (gi S 74) (gi S 65 19) x := by unfold trcM; rw [gi_ri, up_n _ _ (by decide), gi_ri, up_s]
    rw [e1, e2]; rfl
/-- only row 74 and field 19 of 65 -/
def ChT (S S' : Sg) : Prop := gp S' = gp S ∧ gj S' = gj S ∧ (∀ k, k ≠ 65 → k ≠ 74 → gi S' k = gi S k) ∧ ∀ j, j ≠ 19 → gi S' 65 j = gi S 65 j
theorem ChT.tr {S T U : Sg} (h : ChT S T) (g : ChT T U) : ChT S U := ⟨g.1.trans h.1, g.2.1.trans h.2.1, fun k a b => (g.2.2.1 k a b).trans (h.2.2.1 k a b), fun j a => (g.2.2.2 j a).trans (h.2.2.2 j a)⟩
theorem trcM_c (S : Sg) (x : Int32) : ChT S (trcM S x) := ⟨rfl, rfl, fun k a b => trcM_i a b, fun j hj => by unfold trcM; rw [gi_ri, up_s, up_n _ _ hj]⟩
theorem trcsM_c (l : List Int32) : ∀ S : Sg, ChT S (trcsM S l) := by
  induction l with
  | nil => exact fun S => ⟨rfl, rfl, fun _ _ _ => rfl, fun _ _ => rfl⟩
  | cons x l ih => exact fun S => ChT.tr (trcM_c S x) (ih (trcM S x))
theorem trcsM_e (S : Sg) (l : List Int32) : gi (trcsM (ri S 65 (va_up (gi S 65) 19 0)) l) 65 19 = (l.foldl trQ (0, gi S 74)).1 ∧ gi (trcsM (ri S 65 (va_up (gi S 65) 19 0)) l) 74 = (l.foldl trQ (0, gi S 74)).2 ∧ ChT S (trcsM (ri S 65 (va_up (gi S 65) 19 0)) l) := by
  have e := trcsM_q l (ri S 65 (va_up (gi S 65) 19 0))
  have e30 : gi (ri S 65 (va_up (gi S 65) 19 0)) 65 19 = 0 := by rw [gi_ri, up_s, up_s]
  have e31 : gi (ri S 65 (va_up (gi S 65) 19 0)) 74 = gi S 74 := e_in (by decide) rfl
  rw [e30, e31] at e
  exact ⟨congrArg Prod.fst e, congrArg Prod.snd e, ChT.tr (T := ri S 65 (va_up (gi S 65) 19 0)) ⟨rfl, rfl, fun k a b => e_in a rfl, fun j hj => by rw [gi_ri, up_s, up_n _ _ hj]⟩ (trcsM_c l _)⟩
def rmX11_leave : Jvm.Room := { frames := 0, cells := 0, slots := 0, locals := 0 }
set_option maxHeartbeats 4000000 in
set_option maxRecDepth 100000 in
theorem t_X11_leave (l : Launch) (D : Dc) (G : Gg) (S : Sg) (z : Nat) (hG : GrG G) (hP : GrP G S) (a1 : Int32) (h0 : 0 ≤ (gi S 65 19).toInt) : MV l yX11_leave wsX11_leave rmX11_leave D G S z [.ref (gA G 65), .int a1] (fun S' => S' = trcM S a1) := by
  refine Met.ofW (cc := cX11_leave) (maxL := 2) (ret := none) (by decide +kernel) rfl ?_
  intro pP eE s mM args bl mT cD s₁ bD hml hv
  obtain ⟨rfl, hv⟩ := hv
  have hz := hv.1
  subst hz
  have hx := bD.exec
  have hb := bD.bytes
  have hr := bD.returns
  have hts := atoms_spec (ws := wsX11_leave) bD.pre
  have hown : s.vm.findClass RX11 = some mM.cls := findClass_of_methodNamed bD.named
  have hlocks := bD.notSynchronized
  have hW := Wd.start hv
  have hA : ∀ q, s.heap.size ≤ q → AW G s.heap.size q := fun q h => Or.inr h
  have hl := lv_entry ([.ref (gA G 65), .int a1]) (n := 2) (Nat.le_of_ble_eq_true rfl)
  rw [lg_entry_eq]
  generalize (lg_sl ([.ref (gA G 65), .int a1]) ++ List.replicate (2 - (lg_sl ([.ref (gA G 65), .int a1])).length) Slot.unset).toArray = ls at hl ⊢
  have hl : lv_has ls 2 [(0, .ref (gA G 65)), (1, .int a1)] := hl
  have q0 := hts (.fieldLink RX11 231 "WoodForTwoModel" "traces" "I") (List.mem_of_getElem? (i := 1) rfl)
  have q1 := hts (.fieldLink RX11 35 "WoodForTwoModel" "trace" "[I") (List.mem_of_getElem? (i := 2) rfl)
  have iX11 : ∀ w ∈ wsX110, w ∈ wsX11_leave := fun _ h => List.mem_cons_of_mem _ (List.mem_append_right _ (h))
  refine lv_aload_n hx hb dX11_leave_0 rfl (lv_at hl 0 rfl) ?_
  refine r_geti (ci := 10) (C := RX11) (T := TX11) (N := 20) hx hb hts iX11 hown hW rfl 65 19 rfl (g_lt hG (by decide)) (g_kd hG (by decide) rfl) (by decide) q0 (fun _ h9 => h9) (gi S 65 19) rfl rfl rfl dX11_leave_1 ?_
  refine lv_bipush (v := 16) hx hb dX11_leave_4 (by decide) ?_
  refine lv_icmp_ge (tgt := 29) hx hb dX11_leave_6 (by decide) (fun c6 => ?_) (fun c6 => ?_)
  · skip
    rw [t_le, show (16 : Int32).toInt = 16 from by decide] at c6
    refine r_vret hx hb hr hlocks hW ?_ dX11_leave_29
    unfold trcM bgR bgN
    rw [if_neg (by omega), if_neg (by omega), up_id, ri_id, ri_id]
  · skip
    rw [t_le, show (16 : Int32).toInt = 16 from by decide] at c6
    refine lv_aload_n hx hb dX11_leave_9 rfl (lv_at hl 0 rfl) ?_
    refine r_getr (ci := 10) (C := RX11) (T := TX11) (N := 20) hx hb hts iX11 hown hW rfl 65 18 rfl (g_lt hG (by decide)) (g_kd hG (by decide) rfl) (by decide) q1 (fun _ h9 => h9) (hP _ (List.mem_of_getElem? (i := 68) rfl)) rfl rfl dX11_leave_10 ?_
    refine lv_aload_n hx hb dX11_leave_13 rfl (lv_at hl 0 rfl) ?_
    refine r_geti (ci := 10) (C := RX11) (T := TX11) (N := 20) hx hb hts iX11 hown hW rfl 65 19 rfl (g_lt hG (by decide)) (g_kd hG (by decide) rfl) (by decide) q0 (fun _ h9 => h9) (gi S 65 19) rfl rfl rfl dX11_leave_14 ?_
    refine lv_iload_n hx hb dX11_leave_17 rfl (lv_at hl 1 rfl) ?_
    refine r_iast hx hb hW 74 rfl (g_lt hG (by decide)) (g_kd hG (by decide) rfl) (g_ix hG (c := 16) (by decide) rfl (t_in h0 (by omega))) (ri S 74 (va_up (gi S 74) ((gi S 65 19)).toNatClampNeg a1)) (gi S 74) rfl (e_is _ _ _) rfl rfl c_i0 dX11_leave_18 (fun H locs hW => ?_)
    refine lv_aload_n hx hb dX11_leave_19 rfl (lv_at hl 0 rfl) ?_
    refine lv_dup hx hb dX11_leave_20 rfl ?_
    refine r_geti (ci := 10) (C := RX11) (T := TX11) (N := 20) hx hb hts iX11 hown hW rfl 65 19 rfl (g_lt hG (by decide)) (g_kd hG (by decide) rfl) (by decide) q0 (fun _ h9 => h9) (gi S 65 19) (congrFun (e_in (by decide) rfl) 19) rfl rfl dX11_leave_21 ?_
    refine lv_iconst (v := 1) hx hb dX11_leave_24 (by decide) ?_
    refine lv_iadd hx hb dX11_leave_25 ?_
    refine r_puti (ci := 10) (C := RX11) (T := TX11) (N := 20) hx hb hts iX11 tyX11 tyX11_ok nmX11 hown hW rfl 65 19 rfl (g_lt hG (by decide)) (g_kd hG (by decide) rfl) (by decide) q0 (fun _ h9 => h9) rfl (tyX11_ok 19 (by decide)) rfl rfl (ri (ri S 74 (va_up (gi S 74) ((gi S 65 19)).toNatClampNeg a1)) 65 (va_up (gi S 65) 19 ((gi S 65 19) + 1))) (gi S 65) (va_up (gi S 65) 19 ((gi S 65 19) + 1)) (e_in (by decide) rfl) (e_is _ _ _) rfl rfl rfl (Nat.le_of_ble_eq_true rfl) rfl c_i0 dX11_leave_26 (fun H locs hW => ?_)
    refine r_vret hx hb hr hlocks hW ?_ dX11_leave_29
    unfold trcM bgR bgN
    rw [if_pos (by omega), if_pos (by omega)]

def rmX11_lentSize : Jvm.Room := { frames := 1, cells := 0, slots := 0, locals := 21 }
set_option maxHeartbeats 4000000 in
set_option maxRecDepth 100000 in
theorem t_X11_lentSize (l : Launch) (D : Dc) (G : Gg) (S : Sg) (z : Nat) (hG : GrG G) (hP : GrP G S) (B : Nat → Nat) (c : Nat) (hB1 : BP1 B c) (hc : c < 100000) (hM : ∀ k, k < 140 → gj S 66 k = lN (B k)) (h0 : 0 ≤ (gi S 65 19).toInt) (p : Nat) (hp : p < B 17) : ML l yX11_lentSize wsX11_lentSize rmX11_lentSize D G S z [.ref (gA G 65), .int (nI p)] (fun r S' => r = (lN (B (18 + p))) ∧ S' = (trcM S 10)) := by
  refine Met.ofW (cc := cX11_lentSize) (maxL := 2) (ret := (some .long)) (by decide +kernel) rfl ?_
  intro pP eE s mM args bl mT cD s₁ bD hml hv
  obtain ⟨rfl, hv⟩ := hv
  have hz := hv.1
  subst hz
  have hx := bD.exec
  have hb := bD.bytes
  have hr := bD.returns
  have hts := atoms_spec (ws := wsX11_lentSize) bD.pre
  have hown : s.vm.findClass RX11 = some mM.cls := findClass_of_methodNamed bD.named
  have hlocks := bD.notSynchronized
  have hW := Wd.start hv
  have hA : ∀ q, s.heap.size ≤ q → AW G s.heap.size q := fun q h => Or.inr h
  have hl := lv_entry ([.ref (gA G 65), .int (nI p)]) (n := 2) (Nat.le_of_ble_eq_true rfl)
  rw [lg_entry_eq]
  generalize (lg_sl ([.ref (gA G 65), .int (nI p)]) ++ List.replicate (2 - (lg_sl ([.ref (gA G 65), .int (nI p)])).length) Slot.unset).toArray = ls at hl ⊢
  have hl : lv_has ls 2 [(0, .ref (gA G 65)), (1, .int (nI p))] := hl
  have q0 := hts (.fieldLink RX11 7 "WoodForTwoModel" "w" "[J") (List.mem_of_getElem? (i := 1) rfl)
  have iX11 : ∀ w ∈ wsX110, w ∈ wsX11_lentSize := fun _ h => List.mem_cons_of_mem _ (List.mem_append_right _ (h))
  obtain ⟨b0, b1, b2, b3, b4, b5, b6, b7, b8, b9, b10, b11, b12⟩ := id hB1
  have b9p := b9 p hp
  refine lv_aload_n hx hb dX11_lentSize_0 rfl (lv_at hl 0 rfl) ?_
  refine lv_bipush (v := 10) hx hb dX11_lentSize_1 (by decide) ?_
  refine r_callv hW hA (va_runV (As := [.int 10]) (rest := []) ⟨hx, hb, hml, hown, hts⟩ (t_X11_leave l D G S _ hG hP 10 h0) (cwV 1 hts gX11_lentSize_X11_leave rfl rfl rfl (by decide +kernel) ⟨Nat.le_of_ble_eq_true rfl, Nat.le_of_ble_eq_true rfl⟩) (r_preV (k := 65) hA hW (ci := 10) (C := RX11) (T := TX11) (N := 20) rfl rfl (g_lt hG (by decide)) (g_kd hG (by decide) rfl) rfl rfl) rfl rfl hl.1 rfl (lv_room (Nat.le_of_ble_eq_true rfl)) dX11_lentSize_3 ⟨Nat.zero_le _, Nat.zero_le _⟩) (fun S3 H locs hp3 hW => ?_)
  rw [hp3] at hW
  refine lv_aload_n hx hb dX11_lentSize_6 rfl (lv_at hl 0 rfl) ?_
  refine r_getr (ci := 10) (C := RX11) (T := TX11) (N := 20) hx hb hts iX11 hown hW rfl 65 0 rfl (g_lt hG (by decide)) (g_kd hG (by decide) rfl) (by decide) q0 (fun _ h9 => h9) ((GrP.trcM hP) _ (List.mem_of_getElem? (i := 60) rfl)) rfl rfl dX11_lentSize_7 ?_
  refine lv_bipush (v := 18) hx hb dX11_lentSize_10 (by decide) ?_
  refine lv_iload_n hx hb dX11_lentSize_12 rfl (lv_at hl 1 rfl) ?_
  refine lv_iadd hx hb dX11_lentSize_13 ?_
  rw [show ((18 + (nI p)) : Int32) = (nI (18 + p)) from n_add 18 p]
  refine r_lald hx hb hW 66 rfl (g_lt hG (by decide)) (g_kd hG (by decide) rfl) (g_ix hG (c := 560) (by decide) rfl (n_inI (by omega) (by decide))) (lN (B (18 + p))) (by rw [n_clamp (by omega)]; exact (hM (18 + p) (by omega))) dX11_lentSize_14 ?_
  refine r_lret hx hb hr hlocks hW ?_ dX11_lentSize_15
  exact ⟨rfl, rfl⟩

def rmX11_lentMark : Jvm.Room := { frames := 1, cells := 0, slots := 0, locals := 21 }
set_option maxHeartbeats 4000000 in
set_option maxRecDepth 100000 in
theorem t_X11_lentMark (l : Launch) (D : Dc) (G : Gg) (S : Sg) (z : Nat) (hG : GrG G) (hP : GrP G S) (B : Nat → Nat) (c : Nat) (hB1 : BP1 B c) (hc : c < 100000) (hM : ∀ k, k < 140 → gj S 66 k = lN (B k)) (h0 : 0 ≤ (gi S 65 19).toInt) (p : Nat) (hp : p < B 17) : ML l yX11_lentMark wsX11_lentMark rmX11_lentMark D G S z [.ref (gA G 65), .int (nI p)] (fun r S' => r = (lN p) ∧ S' = (trcM S 20)) := by
  refine Met.ofW (cc := cX11_lentMark) (maxL := 2) (ret := (some .long)) (by decide +kernel) rfl ?_
  intro pP eE s mM args bl mT cD s₁ bD hml hv
  obtain ⟨rfl, hv⟩ := hv
  have hz := hv.1
  subst hz
  have hx := bD.exec
  have hb := bD.bytes
  have hr := bD.returns
  have hts := atoms_spec (ws := wsX11_lentMark) bD.pre
  have hown : s.vm.findClass RX11 = some mM.cls := findClass_of_methodNamed bD.named
  have hlocks := bD.notSynchronized
  have hW := Wd.start hv
  have hA : ∀ q, s.heap.size ≤ q → AW G s.heap.size q := fun q h => Or.inr h
  have hl := lv_entry ([.ref (gA G 65), .int (nI p)]) (n := 2) (Nat.le_of_ble_eq_true rfl)
  rw [lg_entry_eq]
  generalize (lg_sl ([.ref (gA G 65), .int (nI p)]) ++ List.replicate (2 - (lg_sl ([.ref (gA G 65), .int (nI p)])).length) Slot.unset).toArray = ls at hl ⊢
  have hl : lv_has ls 2 [(0, .ref (gA G 65)), (1, .int (nI p))] := hl
  obtain ⟨b0, b1, b2, b3, b4, b5, b6, b7, b8, b9, b10, b11, b12⟩ := id hB1
  have b9p := b9 p hp
  refine lv_aload_n hx hb dX11_lentMark_0 rfl (lv_at hl 0 rfl) ?_
  refine lv_bipush (v := 20) hx hb dX11_lentMark_1 (by decide) ?_
  refine r_callv hW hA (va_runV (As := [.int 20]) (rest := []) ⟨hx, hb, hml, hown, hts⟩ (t_X11_leave l D G S _ hG hP 20 h0) (cwV 1 hts gX11_lentMark_X11_leave rfl rfl rfl (by decide +kernel) ⟨Nat.le_of_ble_eq_true rfl, Nat.le_of_ble_eq_true rfl⟩) (r_preV (k := 65) hA hW (ci := 10) (C := RX11) (T := TX11) (N := 20) rfl rfl (g_lt hG (by decide)) (g_kd hG (by decide) rfl) rfl rfl) rfl rfl hl.1 rfl (lv_room (Nat.le_of_ble_eq_true rfl)) dX11_lentMark_3 ⟨Nat.zero_le _, Nat.zero_le _⟩) (fun S3 H locs hp3 hW => ?_)
  rw [hp3] at hW
  refine lv_iload_n hx hb dX11_lentMark_6 rfl (lv_at hl 1 rfl) ?_
  refine lv_i2l hx hb dX11_lentMark_7 rfl ?_
  rw [show (Int32.toInt64 (nI p) : Int64) = lN p from lN_of (by omega)]
  refine r_lret hx hb hr hlocks hW ?_ dX11_lentMark_8
  exact ⟨rfl, rfl⟩

def rmX11_keepersMark : Jvm.Room := { frames := 2, cells := 0, slots := 0, locals := 42 }
set_option maxHeartbeats 4000000 in
set_option maxRecDepth 100000 in
theorem t_X11_keepersMark (l : Launch) (D : Dc) (G : Gg) (S : Sg) (z : Nat) (hG : GrG G) (hP : GrP G S) (B : Nat → Nat) (c : Nat) (hB1 : BP1 B c) (hc : c < 100000) (hM : ∀ k, k < 140 → gj S 66 k = lN (B k)) (h0 : 0 ≤ (gi S 65 19).toInt) (p : Nat) (hp : p < B 17) : ML l yX11_keepersMark wsX11_keepersMark rmX11_keepersMark D G S z [.ref (gA G 65), .int (nI p)] (fun r S' => r = (lN p + 10 * lN (dueN (B 3) (B 1) (B 2) (B (18 + p)))) ∧ S' = (trcM (trcM S 21) 20)) := by
  refine Met.ofW (cc := cX11_keepersMark) (maxL := 2) (ret := (some .long)) (by decide +kernel) rfl ?_
  intro pP eE s mM args bl mT cD s₁ bD hml hv
  obtain ⟨rfl, hv⟩ := hv
  have hz := hv.1
  subst hz
  have hx := bD.exec
  have hb := bD.bytes
  have hr := bD.returns
  have hts := atoms_spec (ws := wsX11_keepersMark) bD.pre
  have hown : s.vm.findClass RX11 = some mM.cls := findClass_of_methodNamed bD.named
  have hlocks := bD.notSynchronized
  have hW := Wd.start hv
  have hA : ∀ q, s.heap.size ≤ q → AW G s.heap.size q := fun q h => Or.inr h
  have hl := lv_entry ([.ref (gA G 65), .int (nI p)]) (n := 2) (Nat.le_of_ble_eq_true rfl)
  rw [lg_entry_eq]
  generalize (lg_sl ([.ref (gA G 65), .int (nI p)]) ++ List.replicate (2 - (lg_sl ([.ref (gA G 65), .int (nI p)])).length) Slot.unset).toArray = ls at hl ⊢
  have hl : lv_has ls 2 [(0, .ref (gA G 65)), (1, .int (nI p))] := hl
  have q0 := hts (.constantLong RX11 240 (10)) (List.mem_of_getElem? (i := 1) rfl)
  have q1 := hts (.fieldLink RX11 7 "WoodForTwoModel" "w" "[J") (List.mem_of_getElem? (i := 2) rfl)
  have iX11 : ∀ w ∈ wsX110, w ∈ wsX11_keepersMark := fun _ h => List.mem_cons_of_mem _ (List.mem_append_right _ (h))
  obtain ⟨b0, b1, b2, b3, b4, b5, b6, b7, b8, b9, b10, b11, b12⟩ := id hB1
  have b9p := b9 p hp
  refine lv_aload_n hx hb dX11_keepersMark_0 rfl (lv_at hl 0 rfl) ?_
  refine lv_bipush (v := 21) hx hb dX11_keepersMark_1 (by decide) ?_
  refine r_callv hW hA (va_runV (As := [.int 21]) (rest := []) ⟨hx, hb, hml, hown, hts⟩ (t_X11_leave l D G S _ hG hP 21 h0) (cwV 1 hts gX11_keepersMark_X11_leave rfl rfl rfl (by decide +kernel) ⟨Nat.le_of_ble_eq_true rfl, Nat.le_of_ble_eq_true rfl⟩) (r_preV (k := 65) hA hW (ci := 10) (C := RX11) (T := TX11) (N := 20) rfl rfl (g_lt hG (by decide)) (g_kd hG (by decide) rfl) rfl rfl) rfl rfl hl.1 rfl (lv_room (Nat.le_of_ble_eq_true rfl)) dX11_keepersMark_3 ⟨Nat.zero_le _, Nat.zero_le _⟩) (fun S3 H locs hp3 hW => ?_)
  rw [hp3] at hW
  refine lv_aload_n hx hb dX11_keepersMark_6 rfl (lv_at hl 0 rfl) ?_
  refine lv_iload_n hx hb dX11_keepersMark_7 rfl (lv_at hl 1 rfl) ?_
  refine r_calll hW hA (va_runV (As := [.int (nI p)]) (rest := []) ⟨hx, hb, hml, hown, hts⟩ (t_X11_lentMark l D G (trcM S 21) _ hG (GrP.trcM hP) B c hB1 hc hM (trcM_0 h0) p hp) (cwV 1 hts gX11_keepersMark_X11_lentMark rfl rfl rfl (by decide +kernel) ⟨Nat.le_of_ble_eq_true rfl, Nat.le_of_ble_eq_true rfl⟩) (r_preV (k := 65) hA hW (ci := 10) (C := RX11) (T := TX11) (N := 20) rfl rfl (g_lt hG (by decide)) (g_kd hG (by decide) rfl) rfl rfl) rfl rfl hl.1 rfl (lv_room (Nat.le_of_ble_eq_true rfl)) dX11_keepersMark_8 ⟨Nat.zero_le _, Nat.zero_le _⟩) (fun r8 S8 H locs hp8 hW => ?_)
  obtain ⟨rfl, hs8⟩ := hp8
  rw [hs8] at hW
  refine lv_ldc2 (v := (10)) hx hb hown q0 dX11_keepersMark_11 ?_
  refine lv_aload_n hx hb dX11_keepersMark_14 rfl (lv_at hl 0 rfl) ?_
  refine lv_aload_n hx hb dX11_keepersMark_15 rfl (lv_at hl 0 rfl) ?_
  refine r_getr (ci := 10) (C := RX11) (T := TX11) (N := 20) hx hb hts iX11 hown hW rfl 65 0 rfl (g_lt hG (by decide)) (g_kd hG (by decide) rfl) (by decide) q1 (fun _ h9 => h9) ((GrP.trcM (GrP.trcM hP)) _ (List.mem_of_getElem? (i := 60) rfl)) rfl rfl dX11_keepersMark_16 ?_
  refine lv_iconst (v := 2) hx hb dX11_keepersMark_19 (by decide) ?_
  refine W.eq (g2 := F0 mM 20 ls [.int (nI 2), .ref (gA G 66), .ref (gA G 65), .long (10), .long (lN p)]) rfl ?_
  refine r_lald hx hb hW 66 rfl (g_lt hG (by decide)) (g_kd hG (by decide) rfl) (g_ix hG (c := 560) (by decide) rfl (n_inI (by omega) (by decide))) (lN (B 2)) (by rw [n_clamp (by omega)]; exact (hM 2 (by omega))) dX11_keepersMark_20 ?_
  refine lv_l2i hx hb dX11_keepersMark_21 rfl ?_
  rw [show (Int64.toInt32 (lN (B 2)) : Int32) = nI (B 2) from lN_i _]
  refine lv_aload_n hx hb dX11_keepersMark_22 rfl (lv_at hl 0 rfl) ?_
  refine r_getr (ci := 10) (C := RX11) (T := TX11) (N := 20) hx hb hts iX11 hown hW rfl 65 0 rfl (g_lt hG (by decide)) (g_kd hG (by decide) rfl) (by decide) q1 (fun _ h9 => h9) ((GrP.trcM (GrP.trcM hP)) _ (List.mem_of_getElem? (i := 60) rfl)) rfl rfl dX11_keepersMark_23 ?_
  refine lv_bipush (v := 18) hx hb dX11_keepersMark_26 (by decide) ?_
  refine lv_iload_n hx hb dX11_keepersMark_28 rfl (lv_at hl 1 rfl) ?_
  refine lv_iadd hx hb dX11_keepersMark_29 ?_
  rw [show ((18 + (nI p)) : Int32) = (nI (18 + p)) from n_add 18 p]
  refine r_lald hx hb hW 66 rfl (g_lt hG (by decide)) (g_kd hG (by decide) rfl) (g_ix hG (c := 560) (by decide) rfl (n_inI (by omega) (by decide))) (lN (B (18 + p))) (by rw [n_clamp (by omega)]; exact (hM (18 + p) (by omega))) dX11_keepersMark_30 ?_
  refine lv_l2i hx hb dX11_keepersMark_31 rfl ?_
  rw [show (Int64.toInt32 (lN (B (18 + p))) : Int32) = nI (B (18 + p)) from lN_i _]
  refine r_calli hW hA (va_runV (As := [.int (nI (B 2)), .int (nI (B (18 + p)))]) (rest := [.long (10), .long (lN p)]) ⟨hx, hb, hml, hown, hts⟩ (t_X11_dueOf l D G (trcM (trcM S 21) 20) _ hG (GrP.trcM (GrP.trcM hP)) (B 3) (B 1) (B 2) (B (18 + p)) (hM 3 (by decide)) (hM 1 (by decide)) b4 (b9 p hp).1 (b9 p hp).2.1 b5 b3) (cwV 2 hts gX11_keepersMark_X11_dueOf rfl rfl rfl (by decide +kernel) ⟨Nat.le_of_ble_eq_true rfl, Nat.le_of_ble_eq_true rfl⟩) (r_preV (k := 65) hA hW (ci := 10) (C := RX11) (T := TX11) (N := 20) rfl rfl (g_lt hG (by decide)) (g_kd hG (by decide) rfl) rfl rfl) rfl rfl hl.1 rfl (lv_room (Nat.le_of_ble_eq_true rfl)) dX11_keepersMark_32 ⟨Nat.zero_le _, Nat.zero_le _⟩) (fun r32 S32 H locs hp32 hW => ?_)
  obtain ⟨hs32, rfl⟩ := hp32
  rw [hs32] at hW
  have hdl := due_le (t := B 3) (b := B 1) (law := B 2) (m := B (18 + p)) b5 b3 (b9 p hp).2.1
  refine lv_i2l hx hb dX11_keepersMark_35 rfl ?_
  rw [show (Int32.toInt64 (nI (dueN (B 3) (B 1) (B 2) (B (18 + p)))) : Int64) = lN (dueN (B 3) (B 1) (B 2) (B (18 + p))) from lN_of (by omega)]
  refine lv_lmul hx hb dX11_keepersMark_36 ?_
  rw [show (((10) * (lN (dueN (B 3) (B 1) (B 2) (B (18 + p))))) : Int64) = (lN (10 * (dueN (B 3) (B 1) (B 2) (B (18 + p))))) from lN_mul 10 (dueN (B 3) (B 1) (B 2) (B (18 + p)))]
  refine lv_ladd hx hb dX11_keepersMark_37 ?_
  rw [show (((lN p) + (lN (10 * (dueN (B 3) (B 1) (B 2) (B (18 + p)))))) : Int64) = (lN (p + (10 * (dueN (B 3) (B 1) (B 2) (B (18 + p)))))) from lN_add p (10 * (dueN (B 3) (B 1) (B 2) (B (18 + p))))]
  refine r_lret hx hb hr hlocks hW ?_ dX11_keepersMark_38
  exact ⟨rfl, rfl⟩
