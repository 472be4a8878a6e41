def rmX11_safe : Jvm.Room := { frames := 3, cells := 0, slots := 0, locals := 80 }
set_option maxHeartbeats 4000000 in
set_option maxRecDepth 100000 in
theorem t_X11_safe (l : Launch) (D : Dc) (G : Gg) (S : Sg) (z : Nat) (hG : GrG G) (hP : GrP G S) (B : Nat → Nat) (c : Nat) (hB : BP B c) (hc : c < 100000) (hM : ∀ k, k < 140 → gj S 66 k = lN (B k)) (a1 a2 a3 a4 : Int32) : ML l yX11_safe wsX11_safe rmX11_safe D G S z [.ref (gA G 65), .int a1, .int a2, .int a3, .int a4] (fun r S' => r = fSafe B a1 a2 a3 a4 ∧ ChW S S') := by
  refine Met.ofW (cc := cX11_safe) (maxL := 9) (ret := (some .long)) (by decide +kernel) rfl ?_
  intro pP eE s mM args bl mT cD s₁ bD hml hv
  obtain ⟨rfl, hv⟩ := hv
  have hz := hv.1
  subst hz
  have hx := bD.exec
  have hb := bD.bytes
  have hr := bD.returns
  have hts := atoms_spec (ws := wsX11_safe) bD.pre
  have hown : s.vm.findClass RX11 = some mM.cls := findClass_of_methodNamed bD.named
  have hlocks := bD.notSynchronized
  have hW := Wd.start hv
  have hA : ∀ q, s.heap.size ≤ q → AW G s.heap.size q := fun q h => Or.inr h
  have hl := lv_entry ([.ref (gA G 65), .int a1, .int a2, .int a3, .int a4]) (n := 9) (Nat.le_of_ble_eq_true rfl)
  rw [lg_entry_eq]
  generalize (lg_sl ([.ref (gA G 65), .int a1, .int a2, .int a3, .int a4]) ++ List.replicate (9 - (lg_sl ([.ref (gA G 65), .int a1, .int a2, .int a3, .int a4])).length) Slot.unset).toArray = ls at hl ⊢
  have hl : lv_has ls 9 [(0, .ref (gA G 65)), (1, .int a1), (2, .int a2), (3, .int a3), (4, .int a4)] := hl
  have q0 := hts (.constantLong RX11 178 (-9000000000000000002)) (List.mem_of_getElem? (i := 1) rfl)
  have q1 := hts (.constantLong RX11 164 (999)) (List.mem_of_getElem? (i := 2) rfl)
  have q2 := hts (.constantLong RX11 74 (8)) (List.mem_of_getElem? (i := 3) rfl)
  have q3 := hts (.constantLong RX11 54 (2)) (List.mem_of_getElem? (i := 4) rfl)
  have q4 := hts (.fieldLink RX11 7 "WoodForTwoModel" "w" "[J") (List.mem_of_getElem? (i := 6) rfl)
  have q5 := hts (.fieldLink RX11 188 "WoodForTwoModel" "all" "J") (List.mem_of_getElem? (i := 8) rfl)
  have q6 := hts (.constantLong RX11 200 (-1000000)) (List.mem_of_getElem? (i := 7) rfl)
  have q7 := hts (.constantLong RX11 56 (-9000000000000000001)) (List.mem_of_getElem? (i := 5) rfl)
  have iX11 : ∀ w ∈ wsX110, w ∈ wsX11_safe := fun _ h => List.mem_cons_of_mem _ (List.mem_append_right _ (h))
  have hbp := BP_b hB
  refine lv_aload_n hx hb dX11_safe_0 rfl (lv_at hl 0 rfl) ?_
  refine r_calli hW hA (va_runV (As := []) (rest := []) ⟨hx, hb, hml, hown, hts⟩ (t_X11_isNone l D G S _ hG hP B c hB hc hM) (cwV 0 hts gX11_safe_X11_isNone rfl rfl rfl (by decide +kernel) ⟨Nat.le_of_ble_eq_true rfl, Nat.le_of_ble_eq_true rfl⟩) (r_preV (k := 65) hA hW (ci := 10) (C := RX11) (T := TX11) (N := 20) rfl rfl (g_lt hG (by decide)) (g_kd hG (by decide) rfl) rfl rfl) rfl rfl hl.1 rfl (lv_room (Nat.le_of_ble_eq_true rfl)) dX11_safe_1 ⟨Nat.zero_le _, Nat.zero_le _⟩) (fun r1 S1 H locs hp1 hW => ?_)
  obtain ⟨hs1, hp1⟩ := hp1
  rw [hs1] at hW
  rcases hp1 with ⟨rfl, h1⟩ | ⟨rfl, h1⟩
  · skip
    refine lv_if_eq (tgt := 11) hx hb dX11_safe_4 (by decide) (fun c4 => ?_) (fun c4 => ?_)
    · exact absurd c4 (by decide)
    · skip
      refine lv_ldc2 (v := (-9000000000000000002)) hx hb hown q0 dX11_safe_7 ?_
      refine r_lret hx hb hr hlocks hW ?_ dX11_safe_10
      have e : fSafe B a1 a2 a3 a4 = STATEL := by unfold fSafe; rw [if_pos h1]
      rw [e]
      exact ⟨rfl, ChW.rf⟩
  · skip
    refine lv_if_eq (tgt := 11) hx hb dX11_safe_4 (by decide) (fun c4 => ?_) (fun c4 => ?_)
    · skip
      refine lv_iload_n hx hb dX11_safe_11 rfl (lv_at hl 1 rfl) ?_
      refine lv_i2l hx hb dX11_safe_12 rfl ?_
      refine lv_lconst (v := 0) hx hb dX11_safe_13 (by decide) ?_
      refine lv_ldc2 (v := (999)) hx hb hown q1 dX11_safe_14 ?_
      refine r_calli hW hA (va_runS (As := [.long (Int32.toInt64 a1), .long 0, .long (999)]) (rest := []) ⟨hx, hb, hml, hown, hts⟩ (t_X11_in l D G S _ (Int32.toInt64 a1) 0 (999) (a1).toInt 0 999 (Int32.toInt_toInt64 _) (by decide) (by decide)) (va_cwS 3 hts gX11_safe_X11_in rfl rfl rfl (by decide +kernel) ⟨Nat.le_of_ble_eq_true rfl, Nat.le_of_ble_eq_true rfl⟩) (r_preS hA hW) rfl rfl hl.1 rfl (lv_room (Nat.le_of_ble_eq_true rfl)) dX11_safe_17 ⟨Nat.zero_le _, Nat.zero_le _⟩) (fun r17 S17 H locs hp17 hW => ?_)
      obtain ⟨hs17, hp17⟩ := hp17
      rw [hs17] at hW
      rcases hp17 with ⟨rfl, h17⟩ | ⟨rfl, h17⟩
      · skip
        refine lv_if_eq (tgt := 58) hx hb dX11_safe_20 (by decide) (fun c20 => ?_) (fun c20 => ?_)
        · exact absurd c20 (by decide)
        · skip
          refine lv_iload_n hx hb dX11_safe_23 rfl (lv_at hl 2 rfl) ?_
          refine lv_i2l hx hb dX11_safe_24 rfl ?_
          refine lv_lconst (v := 1) hx hb dX11_safe_25 (by decide) ?_
          refine lv_ldc2 (v := (8)) hx hb hown q2 dX11_safe_26 ?_
          refine r_calli hW hA (va_runS (As := [.long (Int32.toInt64 a2), .long 1, .long (8)]) (rest := []) ⟨hx, hb, hml, hown, hts⟩ (t_X11_in l D G S _ (Int32.toInt64 a2) 1 (8) (a2).toInt 1 8 (Int32.toInt_toInt64 _) (by decide) (by decide)) (va_cwS 3 hts gX11_safe_X11_in rfl rfl rfl (by decide +kernel) ⟨Nat.le_of_ble_eq_true rfl, Nat.le_of_ble_eq_true rfl⟩) (r_preS hA hW) rfl rfl hl.1 rfl (lv_room (Nat.le_of_ble_eq_true rfl)) dX11_safe_29 ⟨Nat.zero_le _, Nat.zero_le _⟩) (fun r29 S29 H locs hp29 hW => ?_)
          obtain ⟨hs29, hp29⟩ := hp29
          rw [hs29] at hW
          rcases hp29 with ⟨rfl, h29⟩ | ⟨rfl, h29⟩
          · skip
            refine lv_if_eq (tgt := 58) hx hb dX11_safe_32 (by decide) (fun c32 => ?_) (fun c32 => ?_)
            · exact absurd c32 (by decide)
            · skip
              refine lv_iload_n hx hb dX11_safe_35 rfl (lv_at hl 3 rfl) ?_
              refine lv_i2l hx hb dX11_safe_36 rfl ?_
              refine lv_lconst (v := 0) hx hb dX11_safe_37 (by decide) ?_
              refine lv_ldc2 (v := (2)) hx hb hown q3 dX11_safe_38 ?_
              refine r_calli hW hA (va_runS (As := [.long (Int32.toInt64 a3), .long 0, .long (2)]) (rest := []) ⟨hx, hb, hml, hown, hts⟩ (t_X11_in l D G S _ (Int32.toInt64 a3) 0 (2) (a3).toInt 0 2 (Int32.toInt_toInt64 _) (by decide) (by decide)) (va_cwS 3 hts gX11_safe_X11_in rfl rfl rfl (by decide +kernel) ⟨Nat.le_of_ble_eq_true rfl, Nat.le_of_ble_eq_true rfl⟩) (r_preS hA hW) rfl rfl hl.1 rfl (lv_room (Nat.le_of_ble_eq_true rfl)) dX11_safe_41 ⟨Nat.zero_le _, Nat.zero_le _⟩) (fun r41 S41 H locs hp41 hW => ?_)
              obtain ⟨hs41, hp41⟩ := hp41
              rw [hs41] at hW
              rcases hp41 with ⟨rfl, h41⟩ | ⟨rfl, h41⟩
              · skip
                refine lv_if_eq (tgt := 58) hx hb dX11_safe_44 (by decide) (fun c44 => ?_) (fun c44 => ?_)
                · exact absurd c44 (by decide)
                · skip
                  refine lv_iload hx hb dX11_safe_47 (lv_at hl 4 rfl) ?_
                  refine lv_i2l hx hb dX11_safe_49 rfl ?_
                  refine lv_lconst (v := 0) hx hb dX11_safe_50 (by decide) ?_
                  refine lv_lconst (v := 1) hx hb dX11_safe_51 (by decide) ?_
                  refine r_calli hW hA (va_runS (As := [.long (Int32.toInt64 a4), .long 0, .long 1]) (rest := []) ⟨hx, hb, hml, hown, hts⟩ (t_X11_in l D G S _ (Int32.toInt64 a4) 0 1 (a4).toInt 0 1 (Int32.toInt_toInt64 _) (by decide) (by decide)) (va_cwS 3 hts gX11_safe_X11_in rfl rfl rfl (by decide +kernel) ⟨Nat.le_of_ble_eq_true rfl, Nat.le_of_ble_eq_true rfl⟩) (r_preS hA hW) rfl rfl hl.1 rfl (lv_room (Nat.le_of_ble_eq_true rfl)) dX11_safe_52 ⟨Nat.zero_le _, Nat.zero_le _⟩) (fun r52 S52 H locs hp52 hW => ?_)
                  obtain ⟨hs52, hp52⟩ := hp52
                  rw [hs52] at hW
                  rcases hp52 with ⟨rfl, h52⟩ | ⟨rfl, h52⟩
                  · skip
                    refine lv_if_ne (tgt := 62) hx hb dX11_safe_55 (by decide) (fun c55 => ?_) (fun c55 => ?_)
                    · skip
                      refine lv_aload_n hx hb dX11_safe_62 rfl (lv_at hl 0 rfl) ?_
                      refine r_getr (ci := 10) (C := RX11) (T := TX11) (N := 20) hx hb hts iX11 hown hW rfl 65 0 rfl (g_lt hG (by decide)) (g_kd hG (by decide) rfl) (by decide) q4 (fun _ h9 => h9) (hP _ (List.mem_of_getElem? (i := 60) rfl)) rfl rfl dX11_safe_63 ?_
                      refine lv_iconst (v := 4) hx hb dX11_safe_66 (by decide) ?_
                      refine W.eq (g2 := F0 mM 67 ls [.int (nI 4), .ref (gA G 66)]) rfl ?_
                      refine r_lald hx hb hW 66 rfl (g_lt hG (by decide)) (g_kd hG (by decide) rfl) (g_ix hG (c := 560) (by decide) rfl (n_inI (by omega) (by decide))) (lN (B 4)) (by rw [n_clamp (by omega)]; exact hM 4 (by omega)) dX11_safe_67 ?_
                      refine lv_lconst (v := 0) hx hb dX11_safe_68 (by decide) ?_
                      refine W.lcmp hx hb dX11_safe_69 ?_
                      refine lv_if_ne (tgt := 77) hx hb dX11_safe_70 (by decide) (fun c70 => ?_) (fun c70 => ?_)
                      · skip
                        rw [lc_ne] at c70
                        have hb4 : ¬ B 4 = 0 := by rw [lN_int (by omega), show (0 : Int64).toInt = 0 from by decide] at c70; omega
                        have hn_a1 := n_nat (x := a1) (by omega)
                        have e_a1 := n_nI (x := a1) (by omega)
                        have hn_a2 := n_nat (x := a2) (by omega)
                        have e_a2 := n_nI (x := a2) (by omega)
                        have hn_a3 := n_nat (x := a3) (by omega)
                        have e_a3 := n_nI (x := a3) (by omega)
                        have hB1 : BP1 B c := hB.resolve_left (fun z => by have z9 := z.2 132; omega)
                        obtain ⟨b0, b1, b2, b3, b4, b5, b6, b7, b8, b9, b10, b11, b12⟩ := id hB1
                        have hlw : a3.toNatClampNeg ≤ 2 := by omega
                        have hfw0 := fW_le (n := a2.toNatClampNeg) (w := a1.toNatClampNeg) hB1 hlw (by omega)
                        have hfw : fW B a3.toNatClampNeg a2.toNatClampNeg a1.toNatClampNeg ≤ 72301961339136 := Nat.le_trans hfw0.1 hfw0.2
                        have hal : 0 < tot (Qc B a3.toNatClampNeg) ^ a2.toNatClampNeg := Nat.pow_pos (tot_ge hB1 hlw (by omega))
                        have hgp : 0 < (Nat.gcd (fW B a3.toNatClampNeg a2.toNatClampNeg a1.toNatClampNeg) (tot (Qc B a3.toNatClampNeg) ^ a2.toNatClampNeg)) := Nat.gcd_pos_of_pos_right _ hal
                        have hgl : (Nat.gcd (fW B a3.toNatClampNeg a2.toNatClampNeg a1.toNatClampNeg) (tot (Qc B a3.toNatClampNeg) ^ a2.toNatClampNeg)) ≤ 72301961339136 := Nat.le_trans (Nat.gcd_le_right _ hal) hfw0.2
                        refine lv_aload_n hx hb dX11_safe_77 rfl (lv_at hl 0 rfl) ?_
                        refine lv_iload_n hx hb dX11_safe_78 rfl (lv_at hl 1 rfl) ?_
                        refine lv_iload_n hx hb dX11_safe_79 rfl (lv_at hl 2 rfl) ?_
                        refine lv_iload_n hx hb dX11_safe_80 rfl (lv_at hl 3 rfl) ?_
                        refine lv_iconst (v := 0) hx hb dX11_safe_81 (by decide) ?_
                        refine lv_iconst (v := 0) hx hb dX11_safe_82 (by decide) ?_
                        refine W.eq (g2 := F0 mM 83 ls [.int (nI 0), .int (nI 0), .int (nI a3.toNatClampNeg), .int (nI a2.toNatClampNeg), .int (nI a1.toNatClampNeg), .ref (gA G 65)]) (by rw [← e_a1, ← e_a2, ← e_a3]; rfl) ?_
                        refine r_calll hW hA (va_runV (As := [.int (nI a1.toNatClampNeg), .int (nI a2.toNatClampNeg), .int (nI a3.toNatClampNeg), .int (nI 0), .int (nI 0)]) (rest := []) ⟨hx, hb, hml, hown, hts⟩ (t_X11_safeWays l D G S _ hG hP B c hB1 hc hM (a1.toNatClampNeg) (a2.toNatClampNeg) (a3.toNatClampNeg) 0 0 (by omega) (by omega) (by omega) (by omega) (by omega)) (cwV 5 hts gX11_safe_X11_safeWays rfl rfl rfl (by decide +kernel) ⟨Nat.le_of_ble_eq_true rfl, Nat.le_of_ble_eq_true rfl⟩) (r_preV (k := 65) hA hW (ci := 10) (C := RX11) (T := TX11) (N := 20) rfl rfl (g_lt hG (by decide)) (g_kd hG (by decide) rfl) rfl rfl) rfl rfl hl.1 rfl (lv_room (Nat.le_of_ble_eq_true rfl)) dX11_safe_83 ⟨Nat.zero_le _, Nat.zero_le _⟩) (fun r83 S83 H locs hp83 hW => ?_)
                        obtain ⟨hr83, hA_S83, hC_S83⟩ := hp83
                        rw [if_pos rfl] at hr83
                        subst hr83
                        have hP_S83 : GrP G S83 := fun q hq => by rw [hC_S83.1]; exact hP q hq
                        have hM_S83 : ∀ k, k < 140 → gj S83 66 k = lN (B k) := fun k hk => by rw [hC_S83.2.2 66 (by decide)]; exact hM k hk
                        refine lv_lstore (lv' := [(5, .long (lN (fW B (a3.toNatClampNeg) (a2.toNatClampNeg) (a1.toNatClampNeg)))), (0, .ref (gA G 65)), (1, .int a1), (2, .int a2), (3, .int a3), (4, .int a4)]) hx hb dX11_safe_86 hl (by decide) rfl (fun ls hl => ?_)
                        refine lv_lload hx hb dX11_safe_88 (lv_at hl 0 rfl) ?_
                        refine lv_lconst (v := 0) hx hb dX11_safe_90 (by decide) ?_
                        refine W.lcmp hx hb dX11_safe_91 ?_
                        refine lv_if_ne (tgt := 102) hx hb dX11_safe_92 (by decide) (fun c92 => ?_) (fun c92 => ?_)
                        · skip
                          rw [lc_ne] at c92
                          refine lv_aload_n hx hb dX11_safe_102 rfl (lv_at hl 1 rfl) ?_
                          refine r_getl (ci := 10) (C := RX11) (T := TX11) (N := 20) hx hb hts iX11 hown hW rfl 65 17 rfl (g_lt hG (by decide)) (g_kd hG (by decide) rfl) (by decide) q5 (fun _ h9 => h9) (lN (tot (Qc B a3.toNatClampNeg) ^ a2.toNatClampNeg)) hA_S83 rfl rfl dX11_safe_103 ?_
                          refine lv_lload hx hb dX11_safe_106 (lv_at hl 0 rfl) ?_
                          refine r_calll hW hA (va_runS (As := [.long (lN (tot (Qc B a3.toNatClampNeg) ^ a2.toNatClampNeg)), .long (lN (fW B (a3.toNatClampNeg) (a2.toNatClampNeg) (a1.toNatClampNeg)))]) (rest := []) ⟨hx, hb, hml, hown, hts⟩ (t_X11_divisor l D G S83 _ (tot (Qc B a3.toNatClampNeg) ^ a2.toNatClampNeg) (fW B a3.toNatClampNeg a2.toNatClampNeg a1.toNatClampNeg) hfw0.2 hfw) (va_cwS 2 hts gX11_safe_X11_divisor rfl rfl rfl (by decide +kernel) ⟨Nat.le_of_ble_eq_true rfl, Nat.le_of_ble_eq_true rfl⟩) (r_preS hA hW) rfl rfl hl.1 rfl (lv_room (Nat.le_of_ble_eq_true rfl)) dX11_safe_108 ⟨Nat.zero_le _, Nat.zero_le _⟩) (fun r108 S108 H locs hp108 hW => ?_)
                          obtain ⟨rfl, hs108⟩ := hp108
                          rw [hs108] at hW
                          have ez : ((lN (Nat.gcd (tot (Qc B a3.toNatClampNeg) ^ a2.toNatClampNeg) (fW B a3.toNatClampNeg a2.toNatClampNeg a1.toNatClampNeg))) : Int64) = (lN (Nat.gcd (fW B a3.toNatClampNeg a2.toNatClampNeg a1.toNatClampNeg) (tot (Qc B a3.toNatClampNeg) ^ a2.toNatClampNeg))) := by rw [Nat.gcd_comm]
                          refine W.eq (g2 := F0 mM 111 ls [.long (lN (Nat.gcd (fW B a3.toNatClampNeg a2.toNatClampNeg a1.toNatClampNeg) (tot (Qc B a3.toNatClampNeg) ^ a2.toNatClampNeg)))]) (by rw [← ez]) ?_
                          refine lv_lstore (lv' := [(7, .long (lN (Nat.gcd (fW B a3.toNatClampNeg a2.toNatClampNeg a1.toNatClampNeg) (tot (Qc B a3.toNatClampNeg) ^ a2.toNatClampNeg)))), (5, .long (lN (fW B (a3.toNatClampNeg) (a2.toNatClampNeg) (a1.toNatClampNeg)))), (0, .ref (gA G 65)), (1, .int a1), (2, .int a2), (3, .int a3), (4, .int a4)]) hx hb dX11_safe_111 hl (by decide) rfl (fun ls hl => ?_)
                          refine lv_iload hx hb dX11_safe_113 (lv_at hl 6 rfl) ?_
                          refine lv_if_ne (tgt := 126) hx hb dX11_safe_115 (by decide) (fun c115 => ?_) (fun c115 => ?_)
                          · skip
                            rw [t_eq, show (0 : Int32).toInt = 0 from by decide] at c115
                            refine lv_aload_n hx hb dX11_safe_126 rfl (lv_at hl 2 rfl) ?_
                            refine r_getl (ci := 10) (C := RX11) (T := TX11) (N := 20) hx hb hts iX11 hown hW rfl 65 17 rfl (g_lt hG (by decide)) (g_kd hG (by decide) rfl) (by decide) q5 (fun _ h9 => h9) (lN (tot (Qc B a3.toNatClampNeg) ^ a2.toNatClampNeg)) hA_S83 rfl rfl dX11_safe_127 ?_
                            refine lv_lload hx hb dX11_safe_130 (lv_at hl 0 rfl) ?_
                            refine lv_ldiv hx hb dX11_safe_132 (fun z => by have z9 := congrArg Int64.toInt z; rw [lN_int (by omega), show (0 : Int64).toInt = 0 from by decide] at z9; omega) ?_
                            rw [show (((lN (tot (Qc B a3.toNatClampNeg) ^ a2.toNatClampNeg)) / (lN (Nat.gcd (fW B a3.toNatClampNeg a2.toNatClampNeg a1.toNatClampNeg) (tot (Qc B a3.toNatClampNeg) ^ a2.toNatClampNeg)))) : Int64) = (lN ((tot (Qc B a3.toNatClampNeg) ^ a2.toNatClampNeg) / (Nat.gcd (fW B a3.toNatClampNeg a2.toNatClampNeg a1.toNatClampNeg) (tot (Qc B a3.toNatClampNeg) ^ a2.toNatClampNeg)))) from lN_div (by omega) (by omega)]
                            refine r_lret hx hb hr hlocks hW ?_ dX11_safe_133
                            have e : fSafe B a1 a2 a3 a4 = lN ((tot (Qc B a3.toNatClampNeg) ^ a2.toNatClampNeg) / (Nat.gcd (fW B a3.toNatClampNeg a2.toNatClampNeg a1.toNatClampNeg) (tot (Qc B a3.toNatClampNeg) ^ a2.toNatClampNeg))) := by unfold fSafe; rw [if_neg h1, if_pos (by omega), if_neg hb4, if_neg (by omega)]
                            rw [e]
                            exact ⟨rfl, hC_S83⟩
                          · skip
                            rw [t_eq, show (0 : Int32).toInt = 0 from by decide] at c115
                            refine lv_lload hx hb dX11_safe_118 (lv_at hl 1 rfl) ?_
                            refine lv_lload hx hb dX11_safe_120 (lv_at hl 0 rfl) ?_
                            refine lv_ldiv hx hb dX11_safe_122 (fun z => by have z9 := congrArg Int64.toInt z; rw [lN_int (by omega), show (0 : Int64).toInt = 0 from by decide] at z9; omega) ?_
                            rw [show (((lN (fW B (a3.toNatClampNeg) (a2.toNatClampNeg) (a1.toNatClampNeg))) / (lN (Nat.gcd (fW B a3.toNatClampNeg a2.toNatClampNeg a1.toNatClampNeg) (tot (Qc B a3.toNatClampNeg) ^ a2.toNatClampNeg)))) : Int64) = (lN ((fW B a3.toNatClampNeg a2.toNatClampNeg a1.toNatClampNeg) / (Nat.gcd (fW B a3.toNatClampNeg a2.toNatClampNeg a1.toNatClampNeg) (tot (Qc B a3.toNatClampNeg) ^ a2.toNatClampNeg)))) from lN_div (by omega) (by omega)]
                            refine lv_goto (tgt := 133) hx hb dX11_safe_123 (by decide) ?_
                            refine r_lret hx hb hr hlocks hW ?_ dX11_safe_133
                            have e : fSafe B a1 a2 a3 a4 = lN ((fW B a3.toNatClampNeg a2.toNatClampNeg a1.toNatClampNeg) / (Nat.gcd (fW B a3.toNatClampNeg a2.toNatClampNeg a1.toNatClampNeg) (tot (Qc B a3.toNatClampNeg) ^ a2.toNatClampNeg))) := by unfold fSafe; rw [if_neg h1, if_pos (by omega), if_neg hb4, if_pos (by omega)]
                            rw [e]
                            exact ⟨rfl, hC_S83⟩
                        · skip
                          rw [lc_ne] at c92
                          have hfz : fW B a3.toNatClampNeg a2.toNatClampNeg a1.toNatClampNeg = 0 := by rw [lN_int (by omega), show (0 : Int64).toInt = 0 from by decide] at c92; omega
                          refine lv_aload_n hx hb dX11_safe_95 rfl (lv_at hl 1 rfl) ?_
                          refine r_getl (ci := 10) (C := RX11) (T := TX11) (N := 20) hx hb hts iX11 hown hW rfl 65 17 rfl (g_lt hG (by decide)) (g_kd hG (by decide) rfl) (by decide) q5 (fun _ h9 => h9) (lN (tot (Qc B a3.toNatClampNeg) ^ a2.toNatClampNeg)) hA_S83 rfl rfl dX11_safe_96 ?_
                          refine lv_goto (tgt := 111) hx hb dX11_safe_99 (by decide) ?_
                          have ez : ((lN (tot (Qc B a3.toNatClampNeg) ^ a2.toNatClampNeg)) : Int64) = (lN (Nat.gcd (fW B a3.toNatClampNeg a2.toNatClampNeg a1.toNatClampNeg) (tot (Qc B a3.toNatClampNeg) ^ a2.toNatClampNeg))) := by rw [hfz, Nat.gcd_zero_left]
                          refine W.eq (g2 := F0 mM 111 ls [.long (lN (Nat.gcd (fW B a3.toNatClampNeg a2.toNatClampNeg a1.toNatClampNeg) (tot (Qc B a3.toNatClampNeg) ^ a2.toNatClampNeg)))]) (by rw [← ez]) ?_
                          refine lv_lstore (lv' := [(7, .long (lN (Nat.gcd (fW B a3.toNatClampNeg a2.toNatClampNeg a1.toNatClampNeg) (tot (Qc B a3.toNatClampNeg) ^ a2.toNatClampNeg)))), (5, .long (lN (fW B (a3.toNatClampNeg) (a2.toNatClampNeg) (a1.toNatClampNeg)))), (0, .ref (gA G 65)), (1, .int a1), (2, .int a2), (3, .int a3), (4, .int a4)]) hx hb dX11_safe_111 hl (by decide) rfl (fun ls hl => ?_)
                          refine lv_iload hx hb dX11_safe_113 (lv_at hl 6 rfl) ?_
                          refine lv_if_ne (tgt := 126) hx hb dX11_safe_115 (by decide) (fun c115 => ?_) (fun c115 => ?_)
                          · skip
                            rw [t_eq, show (0 : Int32).toInt = 0 from by decide] at c115
                            refine lv_aload_n hx hb dX11_safe_126 rfl (lv_at hl 2 rfl) ?_
                            refine r_getl (ci := 10) (C := RX11) (T := TX11) (N := 20) hx hb hts iX11 hown hW rfl 65 17 rfl (g_lt hG (by decide)) (g_kd hG (by decide) rfl) (by decide) q5 (fun _ h9 => h9) (lN (tot (Qc B a3.toNatClampNeg) ^ a2.toNatClampNeg)) hA_S83 rfl rfl dX11_safe_127 ?_
                            refine lv_lload hx hb dX11_safe_130 (lv_at hl 0 rfl) ?_
                            refine lv_ldiv hx hb dX11_safe_132 (fun z => by have z9 := congrArg Int64.toInt z; rw [lN_int (by omega), show (0 : Int64).toInt = 0 from by decide] at z9; omega) ?_
                            rw [show (((lN (tot (Qc B a3.toNatClampNeg) ^ a2.toNatClampNeg)) / (lN (Nat.gcd (fW B a3.toNatClampNeg a2.toNatClampNeg a1.toNatClampNeg) (tot (Qc B a3.toNatClampNeg) ^ a2.toNatClampNeg)))) : Int64) = (lN ((tot (Qc B a3.toNatClampNeg) ^ a2.toNatClampNeg) / (Nat.gcd (fW B a3.toNatClampNeg a2.toNatClampNeg a1.toNatClampNeg) (tot (Qc B a3.toNatClampNeg) ^ a2.toNatClampNeg)))) from lN_div (by omega) (by omega)]
                            refine r_lret hx hb hr hlocks hW ?_ dX11_safe_133
                            have e : fSafe B a1 a2 a3 a4 = lN ((tot (Qc B a3.toNatClampNeg) ^ a2.toNatClampNeg) / (Nat.gcd (fW B a3.toNatClampNeg a2.toNatClampNeg a1.toNatClampNeg) (tot (Qc B a3.toNatClampNeg) ^ a2.toNatClampNeg))) := by unfold fSafe; rw [if_neg h1, if_pos (by omega), if_neg hb4, if_neg (by omega)]
                            rw [e]
                            exact ⟨rfl, hC_S83⟩
                          · skip
                            rw [t_eq, show (0 : Int32).toInt = 0 from by decide] at c115
                            refine lv_lload hx hb dX11_safe_118 (lv_at hl 1 rfl) ?_
                            refine lv_lload hx hb dX11_safe_120 (lv_at hl 0 rfl) ?_
                            refine lv_ldiv hx hb dX11_safe_122 (fun z => by have z9 := congrArg Int64.toInt z; rw [lN_int (by omega), show (0 : Int64).toInt = 0 from by decide] at z9; omega) ?_
                            rw [show (((lN (fW B (a3.toNatClampNeg) (a2.toNatClampNeg) (a1.toNatClampNeg))) / (lN (Nat.gcd (fW B a3.toNatClampNeg a2.toNatClampNeg a1.toNatClampNeg) (tot (Qc B a3.toNatClampNeg) ^ a2.toNatClampNeg)))) : Int64) = (lN ((fW B a3.toNatClampNeg a2.toNatClampNeg a1.toNatClampNeg) / (Nat.gcd (fW B a3.toNatClampNeg a2.toNatClampNeg a1.toNatClampNeg) (tot (Qc B a3.toNatClampNeg) ^ a2.toNatClampNeg)))) from lN_div (by omega) (by omega)]
                            refine lv_goto (tgt := 133) hx hb dX11_safe_123 (by decide) ?_
                            refine r_lret hx hb hr hlocks hW ?_ dX11_safe_133
                            have e : fSafe B a1 a2 a3 a4 = lN ((fW B a3.toNatClampNeg a2.toNatClampNeg a1.toNatClampNeg) / (Nat.gcd (fW B a3.toNatClampNeg a2.toNatClampNeg a1.toNatClampNeg) (tot (Qc B a3.toNatClampNeg) ^ a2.toNatClampNeg))) := by unfold fSafe; rw [if_neg h1, if_pos (by omega), if_neg hb4, if_pos (by omega)]
                            rw [e]
                            exact ⟨rfl, hC_S83⟩
                      · skip
                        rw [lc_ne] at c70
                        have hb4 : B 4 = 0 := by rw [lN_int (by omega), show (0 : Int64).toInt = 0 from by decide] at c70; omega
                        refine lv_ldc2 (v := (-1000000)) hx hb hown q6 dX11_safe_73 ?_
                        refine r_lret hx hb hr hlocks hW ?_ dX11_safe_76
                        have e : fSafe B a1 a2 a3 a4 = NONEL := by unfold fSafe; rw [if_neg h1, if_pos (by omega), if_pos hb4]
                        rw [e]
                        exact ⟨rfl, ChW.rf⟩
                    · exact absurd c55 (by decide)
                  · skip
                    refine lv_if_ne (tgt := 62) hx hb dX11_safe_55 (by decide) (fun c55 => ?_) (fun c55 => ?_)
                    · exact absurd (by decide) c55
                    · skip
                      refine lv_ldc2 (v := (-9000000000000000001)) hx hb hown q7 dX11_safe_58 ?_
                      refine r_lret hx hb hr hlocks hW ?_ dX11_safe_61
                      have e : fSafe B a1 a2 a3 a4 = BADL := by unfold fSafe; rw [if_neg h1, if_neg (by omega)]
                      rw [e]
                      exact ⟨rfl, ChW.rf⟩
              · skip
                refine lv_if_eq (tgt := 58) hx hb dX11_safe_44 (by decide) (fun c44 => ?_) (fun c44 => ?_)
                · skip
                  refine lv_ldc2 (v := (-9000000000000000001)) hx hb hown q7 dX11_safe_58 ?_
                  refine r_lret hx hb hr hlocks hW ?_ dX11_safe_61
                  have e : fSafe B a1 a2 a3 a4 = BADL := by unfold fSafe; rw [if_neg h1, if_neg (by omega)]
                  rw [e]
                  exact ⟨rfl, ChW.rf⟩
                · exact absurd (by decide) c44
          · skip
            refine lv_if_eq (tgt := 58) hx hb dX11_safe_32 (by decide) (fun c32 => ?_) (fun c32 => ?_)
            · skip
              refine lv_ldc2 (v := (-9000000000000000001)) hx hb hown q7 dX11_safe_58 ?_
              refine r_lret hx hb hr hlocks hW ?_ dX11_safe_61
              have e : fSafe B a1 a2 a3 a4 = BADL := by unfold fSafe; rw [if_neg h1, if_neg (by omega)]
              rw [e]
              exact ⟨rfl, ChW.rf⟩
            · exact absurd (by decide) c32
      · skip
        refine lv_if_eq (tgt := 58) hx hb dX11_safe_20 (by decide) (fun c20 => ?_) (fun c20 => ?_)
        · skip
          refine lv_ldc2 (v := (-9000000000000000001)) hx hb hown q7 dX11_safe_58 ?_
          refine r_lret hx hb hr hlocks hW ?_ dX11_safe_61
          have e : fSafe B a1 a2 a3 a4 = BADL := by unfold fSafe; rw [if_neg h1, if_neg (by omega)]
          rw [e]
          exact ⟨rfl, ChW.rf⟩
        · exact absurd (by decide) c20
    · exact absurd (by decide) c4

def rmX11_stock : Jvm.Room := { frames := 3, cells := 0, slots := 0, locals := 80 }
set_option maxHeartbeats 4000000 in
set_option maxRecDepth 100000 in
theorem t_X11_stock (l : Launch) (D : Dc) (G : Gg) (S : Sg) (z : Nat) (hG : GrG G) (hP : GrP G S) (B : Nat → Nat) (c : Nat) (hB : BP B c) (hc : c < 100000) (hM : ∀ k, k < 140 → gj S 66 k = lN (B k)) (a1 a2 a3 : Int32) : ML l yX11_stock wsX11_stock rmX11_stock D G S z [.ref (gA G 65), .int a1, .int a2, .int a3] (fun r S' => r = fStock B a1 a2 a3 ∧ ChW S S') := by
  refine Met.ofW (cc := cX11_stock) (maxL := 5) (ret := (some .long)) (by decide +kernel) rfl ?_
  intro pP eE s mM args bl mT cD s₁ bD hml hv
  obtain ⟨rfl, hv⟩ := hv
  have hz := hv.1
  subst hz
  have hx := bD.exec
  have hb := bD.bytes
  have hr := bD.returns
  have hts := atoms_spec (ws := wsX11_stock) bD.pre
  have hown : s.vm.findClass RX11 = some mM.cls := findClass_of_methodNamed bD.named
  have hlocks := bD.notSynchronized
  have hW := Wd.start hv
  have hA : ∀ q, s.heap.size ≤ q → AW G s.heap.size q := fun q h => Or.inr h
  have hl := lv_entry ([.ref (gA G 65), .int a1, .int a2, .int a3]) (n := 5) (Nat.le_of_ble_eq_true rfl)
  rw [lg_entry_eq]
  generalize (lg_sl ([.ref (gA G 65), .int a1, .int a2, .int a3]) ++ List.replicate (5 - (lg_sl ([.ref (gA G 65), .int a1, .int a2, .int a3])).length) Slot.unset).toArray = ls at hl ⊢
  have hl : lv_has ls 5 [(0, .ref (gA G 65)), (1, .int a1), (2, .int a2), (3, .int a3)] := hl
  have q0 := hts (.constantLong RX11 178 (-9000000000000000002)) (List.mem_of_getElem? (i := 1) rfl)
  have q1 := hts (.constantLong RX11 74 (8)) (List.mem_of_getElem? (i := 2) rfl)
  have q2 := hts (.constantLong RX11 54 (2)) (List.mem_of_getElem? (i := 3) rfl)
  have q3 := hts (.constantLong RX11 156 (1000)) (List.mem_of_getElem? (i := 4) rfl)
  have q4 := hts (.constantLong RX11 200 (-1000000)) (List.mem_of_getElem? (i := 8) rfl)
  have q5 := hts (.fieldLink RX11 7 "WoodForTwoModel" "w" "[J") (List.mem_of_getElem? (i := 6) rfl)
  have q6 := hts (.fieldLink RX11 188 "WoodForTwoModel" "all" "J") (List.mem_of_getElem? (i := 7) rfl)
  have q7 := hts (.constantLong RX11 56 (-9000000000000000001)) (List.mem_of_getElem? (i := 5) rfl)
  have iX11 : ∀ w ∈ wsX110, w ∈ wsX11_stock := fun _ h => List.mem_cons_of_mem _ (List.mem_append_right _ (h))
  generalize hQ0 : MQ bl _ _ s _ _ _ = Q0
  have hbp := BP_b hB
  refine lv_aload_n hx hb dX11_stock_0 rfl (lv_at hl 0 rfl) ?_
  refine r_calli hW hA (va_runV (As := []) (rest := []) ⟨hx, hb, hml, hown, hts⟩ (t_X11_isNone l D G S _ hG hP B c hB hc hM) (cwV 0 hts gX11_stock_X11_isNone rfl rfl rfl (by decide +kernel) ⟨Nat.le_of_ble_eq_true rfl, Nat.le_of_ble_eq_true rfl⟩) (r_preV (k := 65) hA hW (ci := 10) (C := RX11) (T := TX11) (N := 20) rfl rfl (g_lt hG (by decide)) (g_kd hG (by decide) rfl) rfl rfl) rfl rfl hl.1 rfl (lv_room (Nat.le_of_ble_eq_true rfl)) dX11_stock_1 ⟨Nat.zero_le _, Nat.zero_le _⟩) (fun r1 S1 H locs hp1 hW => ?_)
  obtain ⟨hs1, hp1⟩ := hp1
  rw [hs1] at hW
  rcases hp1 with ⟨rfl, h1⟩ | ⟨rfl, h1⟩
  · skip
    refine lv_if_eq (tgt := 11) hx hb dX11_stock_4 (by decide) (fun c4 => ?_) (fun c4 => ?_)
    · exact absurd c4 (by decide)
    · skip
      refine lv_ldc2 (v := (-9000000000000000002)) hx hb hown q0 dX11_stock_7 ?_
      rw [← hQ0]
      refine r_lret hx hb hr hlocks hW ?_ dX11_stock_10
      have e : fStock B a1 a2 a3 = STATEL := by unfold fStock; rw [if_pos h1]
      rw [e]
      exact ⟨rfl, ChW.rf⟩
  · skip
    refine lv_if_eq (tgt := 11) hx hb dX11_stock_4 (by decide) (fun c4 => ?_) (fun c4 => ?_)
    · skip
      refine lv_iload_n hx hb dX11_stock_11 rfl (lv_at hl 1 rfl) ?_
      refine lv_i2l hx hb dX11_stock_12 rfl ?_
      refine lv_lconst (v := 1) hx hb dX11_stock_13 (by decide) ?_
      refine lv_ldc2 (v := (8)) hx hb hown q1 dX11_stock_14 ?_
      refine r_calli hW hA (va_runS (As := [.long (Int32.toInt64 a1), .long 1, .long (8)]) (rest := []) ⟨hx, hb, hml, hown, hts⟩ (t_X11_in l D G S _ (Int32.toInt64 a1) 1 (8) (a1).toInt 1 8 (Int32.toInt_toInt64 _) (by decide) (by decide)) (va_cwS 3 hts gX11_stock_X11_in rfl rfl rfl (by decide +kernel) ⟨Nat.le_of_ble_eq_true rfl, Nat.le_of_ble_eq_true rfl⟩) (r_preS hA hW) rfl rfl hl.1 rfl (lv_room (Nat.le_of_ble_eq_true rfl)) dX11_stock_17 ⟨Nat.zero_le _, Nat.zero_le _⟩) (fun r17 S17 H locs hp17 hW => ?_)
      obtain ⟨hs17, hp17⟩ := hp17
      rw [hs17] at hW
      rcases hp17 with ⟨rfl, h17⟩ | ⟨rfl, h17⟩
      · skip
        refine lv_if_eq (tgt := 47) hx hb dX11_stock_20 (by decide) (fun c20 => ?_) (fun c20 => ?_)
        · exact absurd c20 (by decide)
        · skip
          refine lv_iload_n hx hb dX11_stock_23 rfl (lv_at hl 2 rfl) ?_
          refine lv_i2l hx hb dX11_stock_24 rfl ?_
          refine lv_lconst (v := 0) hx hb dX11_stock_25 (by decide) ?_
          refine lv_ldc2 (v := (2)) hx hb hown q2 dX11_stock_26 ?_
          refine r_calli hW hA (va_runS (As := [.long (Int32.toInt64 a2), .long 0, .long (2)]) (rest := []) ⟨hx, hb, hml, hown, hts⟩ (t_X11_in l D G S _ (Int32.toInt64 a2) 0 (2) (a2).toInt 0 2 (Int32.toInt_toInt64 _) (by decide) (by decide)) (va_cwS 3 hts gX11_stock_X11_in rfl rfl rfl (by decide +kernel) ⟨Nat.le_of_ble_eq_true rfl, Nat.le_of_ble_eq_true rfl⟩) (r_preS hA hW) rfl rfl hl.1 rfl (lv_room (Nat.le_of_ble_eq_true rfl)) dX11_stock_29 ⟨Nat.zero_le _, Nat.zero_le _⟩) (fun r29 S29 H locs hp29 hW => ?_)
          obtain ⟨hs29, hp29⟩ := hp29
          rw [hs29] at hW
          rcases hp29 with ⟨rfl, h29⟩ | ⟨rfl, h29⟩
          · skip
            refine lv_if_eq (tgt := 47) hx hb dX11_stock_32 (by decide) (fun c32 => ?_) (fun c32 => ?_)
            · exact absurd c32 (by decide)
            · skip
              refine lv_iload_n hx hb dX11_stock_35 rfl (lv_at hl 3 rfl) ?_
              refine lv_i2l hx hb dX11_stock_36 rfl ?_
              refine lv_lconst (v := 0) hx hb dX11_stock_37 (by decide) ?_
              refine lv_ldc2 (v := (1000)) hx hb hown q3 dX11_stock_38 ?_
              refine r_calli hW hA (va_runS (As := [.long (Int32.toInt64 a3), .long 0, .long (1000)]) (rest := []) ⟨hx, hb, hml, hown, hts⟩ (t_X11_in l D G S _ (Int32.toInt64 a3) 0 (1000) (a3).toInt 0 1000 (Int32.toInt_toInt64 _) (by decide) (by decide)) (va_cwS 3 hts gX11_stock_X11_in rfl rfl rfl (by decide +kernel) ⟨Nat.le_of_ble_eq_true rfl, Nat.le_of_ble_eq_true rfl⟩) (r_preS hA hW) rfl rfl hl.1 rfl (lv_room (Nat.le_of_ble_eq_true rfl)) dX11_stock_41 ⟨Nat.zero_le _, Nat.zero_le _⟩) (fun r41 S41 H locs hp41 hW => ?_)
              obtain ⟨hs41, hp41⟩ := hp41
              rw [hs41] at hW
              rcases hp41 with ⟨rfl, h41⟩ | ⟨rfl, h41⟩
              · skip
                refine lv_if_ne (tgt := 51) hx hb dX11_stock_44 (by decide) (fun c44 => ?_) (fun c44 => ?_)
                · skip
                  have hn_a1 := n_nat (x := a1) (by omega)
                  have e_a1 := n_nI (x := a1) (by omega)
                  have hn_a2 := n_nat (x := a2) (by omega)
                  have e_a2 := n_nI (x := a2) (by omega)
                  have hn_a3 := n_nat (x := a3) (by omega)
                  have e_a3 := n_nI (x := a3) (by omega)
                  have hB1 : BP1 B c := hB.resolve_left (fun z => by have z9 := z.2 132; omega)
                  obtain ⟨b0, b1, b2, b3, b4, b5, b6, b7, b8, b9, b10, b11, b12⟩ := id hB1
                  have hlw : a2.toNatClampNeg ≤ 2 := by omega
                  refine lv_iconst (v := 0) hx hb dX11_stock_51 (by decide) ?_
                  refine lv_istore (lv' := [(4, .int 0), (0, .ref (gA G 65)), (1, .int a1), (2, .int a2), (3, .int a3)]) hx hb dX11_stock_52 hl (by decide) rfl (fun ls hl => ?_)
                  have L54 : ∀ (n : Nat) (w : Nat) (T : Sg) (H : Heap) (locs : List Loc) (ls : Array Slot), (501 - w) < n → w ≤ 501 → fst (stP B a2.toNatClampNeg a1.toNatClampNeg a3.toNatClampNeg) w = none → (w = 0 ∨ 0 < B 4) → ChW S T → Wd D (AW G s.heap.size) s G T H locs → lv_has ls 5 [(4, .int (nI w)), (0, .ref (gA G 65)), (1, .int a1), (2, .int a2), (3, .int a3)] → W pP l eE (headSpec wsX11_stock rmX11_stock).room s mM ([.ref (gA G 65), .int a1, .int a2, .int a3] : List Value).toArray bl mT cD H locs 0 0 Q0 (F0 mM 54 ls []) := by
                    intro n
                    induction n with
                    | zero => intro w T H locs ls hm; exact absurd hm (Nat.not_lt_zero _)
                    | succ n ih54 =>
                      intro w T H locs ls hm54 hw hfn hb0 hCT hW hl
                      have hP_T : GrP G T := fun q hq => by rw [hCT.1]; exact hP q hq
                      have hM_T : ∀ k, k < 140 → gj T 66 k = lN (B k) := fun k hk => by rw [hCT.2.2 66 (by decide)]; exact hM k hk
                      refine lv_iload hx hb dX11_stock_54 (lv_at hl 0 rfl) ?_
                      refine lv_sipush (v := 500) hx hb dX11_stock_56 (by decide) ?_
                      refine lv_icmp_gt (tgt := 108) hx hb dX11_stock_59 (by decide) (fun c59 => ?_) (fun c59 => ?_)
                      · skip
                        have hwe : w = 501 := by
                          have h9 := (n_lt (a := 500) (b := w) (by omega) (by omega)).mp c59
                          omega
                        refine lv_ldc2 (v := (-1000000)) hx hb hown q4 dX11_stock_108 ?_
                        rw [← hQ0]
                        refine r_lret hx hb hr hlocks hW ?_ dX11_stock_111
                        have e : fStock B a1 a2 a3 = NONEL := by unfold fStock; rw [if_neg h1, if_pos (by omega), if_neg (by omega), ← hwe, hfn]; rfl
                        rw [e]
                        exact ⟨rfl, hCT⟩
                      · skip
                        have hwe : w ≤ 500 := by
                          have h9 : ¬ 500 < w := fun z => c59 ((n_lt (a := 500) (b := w) (by omega) (by omega)).mpr z)
                          omega
                        have hfw := fW_le (n := a1.toNatClampNeg) (w := w) hB1 hlw (by omega)
                        have hq9 : a3.toNatClampNeg * (tot (Qc B a2.toNatClampNeg) ^ a1.toNatClampNeg) ≤ 1000 * 72301961339136 := Nat.mul_le_mul (by omega) hfw.2
                        refine lv_aload_n hx hb dX11_stock_62 rfl (lv_at hl 1 rfl) ?_
                        refine r_getr (ci := 10) (C := RX11) (T := TX11) (N := 20) hx hb hts iX11 hown hW rfl 65 0 rfl (g_lt hG (by decide)) (g_kd hG (by decide) rfl) (by decide) q5 (fun _ h9 => h9) (hP_T _ (List.mem_of_getElem? (i := 60) rfl)) rfl rfl dX11_stock_63 ?_
                        refine lv_iconst (v := 4) hx hb dX11_stock_66 (by decide) ?_
                        refine W.eq (g2 := F0 mM 67 ls [.int (nI 4), .ref (gA G 66)]) rfl ?_
                        refine r_lald hx hb hW 66 rfl (g_lt hG (by decide)) (g_kd hG (by decide) rfl) (g_ix hG (c := 560) (by decide) rfl (n_inI (by omega) (by decide))) (lN (B 4)) (by rw [n_clamp (by omega)]; exact hM_T 4 (by omega)) dX11_stock_67 ?_
                        refine lv_lconst (v := 0) hx hb dX11_stock_68 (by decide) ?_
                        refine W.lcmp hx hb dX11_stock_69 ?_
                        refine lv_if_le (tgt := 108) hx hb dX11_stock_70 (by decide) (fun c70 => ?_) (fun c70 => ?_)
                        · skip
                          rw [lc_le] at c70
                          have hb4 : B 4 = 0 := by rw [lN_int (by omega), show (0 : Int64).toInt = 0 from by decide] at c70; omega
                          refine lv_ldc2 (v := (-1000000)) hx hb hown q4 dX11_stock_108 ?_
                          rw [← hQ0]
                          refine r_lret hx hb hr hlocks hW ?_ dX11_stock_111
                          have e : fStock B a1 a2 a3 = NONEL := by unfold fStock; rw [if_neg h1, if_pos (by omega), if_pos hb4]
                          rw [e]
                          exact ⟨rfl, hCT⟩
                        · skip
                          rw [lc_le] at c70
                          have hb4 : 0 < B 4 := by rw [lN_int (by omega), show (0 : Int64).toInt = 0 from by decide] at c70; omega
                          refine lv_ldc2 (v := (1000)) hx hb hown q3 dX11_stock_73 ?_
                          refine lv_aload_n hx hb dX11_stock_76 rfl (lv_at hl 1 rfl) ?_
                          refine lv_iload hx hb dX11_stock_77 (lv_at hl 0 rfl) ?_
                          refine lv_iload_n hx hb dX11_stock_79 rfl (lv_at hl 2 rfl) ?_
                          refine lv_iload_n hx hb dX11_stock_80 rfl (lv_at hl 3 rfl) ?_
                          refine lv_iconst (v := 0) hx hb dX11_stock_81 (by decide) ?_
                          refine lv_iconst (v := 0) hx hb dX11_stock_82 (by decide) ?_
                          refine W.eq (g2 := F0 mM 83 ls [.int (nI 0), .int (nI 0), .int (nI a2.toNatClampNeg), .int (nI a1.toNatClampNeg), .int (nI w), .ref (gA G 65), .long (1000)]) (by rw [← e_a1, ← e_a2]; rfl) ?_
                          refine r_calll hW hA (va_runV (As := [.int (nI w), .int (nI a1.toNatClampNeg), .int (nI a2.toNatClampNeg), .int (nI 0), .int (nI 0)]) (rest := [.long (1000)]) ⟨hx, hb, hml, hown, hts⟩ (t_X11_safeWays l D G T _ hG hP_T B c hB1 hc hM_T w (a1.toNatClampNeg) (a2.toNatClampNeg) 0 0 (by omega) (by omega) (by omega) (by omega) (by omega)) (cwV 5 hts gX11_stock_X11_safeWays rfl rfl rfl (by decide +kernel) ⟨Nat.le_of_ble_eq_true rfl, Nat.le_of_ble_eq_true rfl⟩) (r_preV (k := 65) hA hW (ci := 10) (C := RX11) (T := TX11) (N := 20) rfl rfl (g_lt hG (by decide)) (g_kd hG (by decide) rfl) rfl rfl) rfl rfl hl.1 rfl (lv_room (Nat.le_of_ble_eq_true rfl)) dX11_stock_83 ⟨Nat.zero_le _, Nat.zero_le _⟩) (fun r83 S83 H locs hp83 hW => ?_)
                          obtain ⟨hr83, hA_S83, hC_S83⟩ := hp83
                          rw [if_pos rfl] at hr83
                          subst hr83
                          have hP_S83 : GrP G S83 := fun q hq => by rw [hC_S83.1]; exact hP_T q hq
                          have hM_S83 : ∀ k, k < 140 → gj S83 66 k = lN (B k) := fun k hk => by rw [hC_S83.2.2 66 (by decide)]; exact hM_T k hk
                          refine lv_lmul hx hb dX11_stock_86 ?_
                          rw [show (((1000) * (lN (fW B (a2.toNatClampNeg) (a1.toNatClampNeg) w))) : Int64) = (lN (1000 * (fW B (a2.toNatClampNeg) (a1.toNatClampNeg) w))) from lN_mul 1000 (fW B (a2.toNatClampNeg) (a1.toNatClampNeg) w)]
                          refine lv_iload_n hx hb dX11_stock_87 rfl (lv_at hl 4 rfl) ?_
                          refine lv_i2l hx hb dX11_stock_88 rfl ?_
                          rw [show ((Int32.toInt64 a3) : Int64) = (lN a3.toNatClampNeg) from (congrArg Int32.toInt64 e_a3).trans (lN_of (by omega))]
                          refine lv_aload_n hx hb dX11_stock_89 rfl (lv_at hl 1 rfl) ?_
                          refine r_getl (ci := 10) (C := RX11) (T := TX11) (N := 20) hx hb hts iX11 hown hW rfl 65 17 rfl (g_lt hG (by decide)) (g_kd hG (by decide) rfl) (by decide) q6 (fun _ h9 => h9) (lN (tot (Qc B a2.toNatClampNeg) ^ a1.toNatClampNeg)) hA_S83 rfl rfl dX11_stock_90 ?_
                          refine lv_lmul hx hb dX11_stock_93 ?_
                          rw [show (((lN a3.toNatClampNeg) * (lN (tot (Qc B a2.toNatClampNeg) ^ a1.toNatClampNeg))) : Int64) = (lN ((a3.toNatClampNeg) * (tot (Qc B a2.toNatClampNeg) ^ a1.toNatClampNeg))) from lN_mul (a3.toNatClampNeg) (tot (Qc B a2.toNatClampNeg) ^ a1.toNatClampNeg)]
                          refine W.lcmp hx hb dX11_stock_94 ?_
                          refine lv_if_lt (tgt := 102) hx hb dX11_stock_95 (by decide) (fun c95 => ?_) (fun c95 => ?_)
                          · skip
                            rw [lc_lt] at c95
                            rw [lN_int (by omega), lN_int (by omega)] at c95
                            refine lv_iinc (v := (nI (w + 1))) (lv' := [(4, .int (nI (w + 1))), (0, .ref (gA G 65)), (1, .int a1), (2, .int a2), (3, .int a3)]) hx hb dX11_stock_102 hl (k := 0) rfl (nI_1 w) (by decide) rfl (fun ls hl => ?_)
                            refine lv_goto (tgt := 54) hx hb dX11_stock_105 (by decide) ?_
                            exact ih54 (w + 1) S83 _ _ ls (by omega) (by omega) (fst_none hfn (by unfold stP; exact decide_eq_false (by omega))) (Or.inr hb4) (ChW.tr hCT hC_S83) hW (lv_sub hl [0, 1, 2, 3, 4] rfl)
                          · skip
                            rw [lc_lt] at c95
                            rw [lN_int (by omega), lN_int (by omega)] at c95
                            refine lv_iload hx hb dX11_stock_98 (lv_at hl 0 rfl) ?_
                            refine lv_i2l hx hb dX11_stock_100 rfl ?_
                            rw [show (Int32.toInt64 (nI w) : Int64) = lN w from lN_of (by omega)]
                            rw [← hQ0]
                            refine r_lret hx hb hr hlocks hW ?_ dX11_stock_101
                            have e : fStock B a1 a2 a3 = lN w := by unfold fStock; rw [if_neg h1, if_pos (by omega), if_neg (by omega), fst_some hfn (by unfold stP; exact decide_eq_true (by omega)) 501 (by omega)]; rfl
                            rw [e]
                            exact ⟨rfl, ChW.tr hCT hC_S83⟩
                  exact L54 _ 0 S _ _ ls (Nat.lt_succ_self _) (Nat.zero_le _) rfl (Or.inl rfl) ChW.rf hW (lv_sub hl [0, 1, 2, 3, 4] rfl)
                · exact absurd c44 (by decide)
              · skip
                refine lv_if_ne (tgt := 51) hx hb dX11_stock_44 (by decide) (fun c44 => ?_) (fun c44 => ?_)
                · exact absurd (by decide) c44
                · skip
                  refine lv_ldc2 (v := (-9000000000000000001)) hx hb hown q7 dX11_stock_47 ?_
                  rw [← hQ0]
                  refine r_lret hx hb hr hlocks hW ?_ dX11_stock_50
                  have e : fStock B a1 a2 a3 = BADL := by unfold fStock; rw [if_neg h1, if_neg (by omega)]
                  rw [e]
                  exact ⟨rfl, ChW.rf⟩
          · skip
            refine lv_if_eq (tgt := 47) hx hb dX11_stock_32 (by decide) (fun c32 => ?_) (fun c32 => ?_)
            · skip
              refine lv_ldc2 (v := (-9000000000000000001)) hx hb hown q7 dX11_stock_47 ?_
              rw [← hQ0]
              refine r_lret hx hb hr hlocks hW ?_ dX11_stock_50
              have e : fStock B a1 a2 a3 = BADL := by unfold fStock; rw [if_neg h1, if_neg (by omega)]
              rw [e]
              exact ⟨rfl, ChW.rf⟩
            · exact absurd (by decide) c32
      · skip
        refine lv_if_eq (tgt := 47) hx hb dX11_stock_20 (by decide) (fun c20 => ?_) (fun c20 => ?_)
        · skip
          refine lv_ldc2 (v := (-9000000000000000001)) hx hb hown q7 dX11_stock_47 ?_
          rw [← hQ0]
          refine r_lret hx hb hr hlocks hW ?_ dX11_stock_50
          have e : fStock B a1 a2 a3 = BADL := by unfold fStock; rw [if_neg h1, if_neg (by omega)]
          rw [e]
          exact ⟨rfl, ChW.rf⟩
        · exact absurd (by decide) c20
    · exact absurd (by decide) c4
