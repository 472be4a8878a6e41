def rmX10_lies : Jvm.Room := { frames := 2, cells := 0, slots := 0, locals := 45 }
set_option maxHeartbeats 4000000 in
set_option maxRecDepth 100000 in
theorem t_X10_lies (l : Launch) (D : Dc) (G : Gg) (S : Sg) (z : Nat) (hG : GrG G) (hP : GrP G S) (it : Nat → Nat → Int32) (la le : Nat → Int32) (hRX : RowsX S it la le) (hL : LeOK le) (st : Int32) (hst : gi S 0 9 = st) (a1 a2 a3 : Int32) : ML l yX10_lies wsX10_lies rmX10_lies D G S z [.ref (gA G 0), .int a1, .int a2, .int a3] (fun r S' => r = (fLies it le st a1 a2 a3).1 ∧ gi S' 0 9 = (fLies it le st a1 a2 a3).2 ∧ Ch (fun j => j = 0) S S') := by
  refine Met.ofW (cc := cX10_lies) (maxL := 11) (ret := (some .long)) (by decide +kernel) rfl ?_
  intro pP eE s mM args bl mT cD s₁ bD hml hv
  obtain ⟨rfl, hv⟩ := hv
  have hz := hv.1
  subst hz
  have hx := bD.exec
  have hb := bD.bytes
  have hr := bD.returns
  have hts := atoms_spec (ws := wsX10_lies) bD.pre
  have hown : s.vm.findClass RX10 = some mM.cls := findClass_of_methodNamed bD.named
  have hlocks := bD.notSynchronized
  have hW := Wd.start hv
  have hA : ∀ q, s.heap.size ≤ q → AW G s.heap.size q := fun q h => Or.inr h
  have hl := lv_entry ([.ref (gA G 0), .int a1, .int a2, .int a3]) (n := 11) (Nat.le_of_ble_eq_true rfl)
  rw [lg_entry_eq]
  generalize (lg_sl ([.ref (gA G 0), .int a1, .int a2, .int a3]) ++ List.replicate (11 - (lg_sl ([.ref (gA G 0), .int a1, .int a2, .int a3])).length) Slot.unset).toArray = ls at hl ⊢
  have hl : lv_has ls 11 [(0, .ref (gA G 0)), (1, .int a1), (2, .int a2), (3, .int a3)] := hl
  have q0 := hts (.constantLong RX10 66 (-9000000000000000001)) (List.mem_of_getElem? (i := 1) rfl)
  have q1 := hts (.constant RX10 213 (-1000000)) (List.mem_of_getElem? (i := 3) rfl)
  have q2 := hts (.fieldLink RX10 11 "WoodForTwo" "items" "[[I") (List.mem_of_getElem? (i := 2) rfl)
  have iX10 : ∀ w ∈ wsX100, w ∈ wsX10_lies := fun _ h => List.mem_cons_of_mem _ (List.mem_append_right _ (h))
  generalize hQ0 : MQ bl _ _ s _ _ _ = Q0
  refine lv_iload_n hx hb dX10_lies_0 rfl (lv_at hl 1 rfl) ?_
  refine r_calli hW hA (va_runS (As := [.int a1]) (rest := []) ⟨hx, hb, hml, hown, hts⟩ (t_X10_isRow l D G S _ a1) (va_cwS 1 hts gX10_lies_X10_isRow rfl rfl rfl (by decide +kernel) ⟨Nat.le_of_ble_eq_true rfl, Nat.le_of_ble_eq_true rfl⟩) (r_preS hA hW) rfl rfl hl.1 rfl (lv_room (Nat.le_of_ble_eq_true rfl)) dX10_lies_1 ⟨Nat.zero_le _, Nat.zero_le _⟩) (fun r1 S1 H locs hp1 hW => ?_)
  obtain ⟨hs1, hp1⟩ := hp1
  rw [hs1] at hW
  rcases hp1 with ⟨rfl, h1⟩ | ⟨rfl, h1⟩
  · skip
    refine lv_if_eq (tgt := 25) hx hb dX10_lies_4 (by decide) (fun c4 => ?_) (fun c4 => ?_)
    · exact absurd c4 (by decide)
    · skip
      refine lv_iload_n hx hb dX10_lies_7 rfl (lv_at hl 2 rfl) ?_
      refine lv_iconst (v := 1) hx hb dX10_lies_8 (by decide) ?_
      refine lv_icmp_lt (tgt := 25) hx hb dX10_lies_9 (by decide) (fun c9 => ?_) (fun c9 => ?_)
      · skip
        rw [t_lt, show (1 : Int32).toInt = 1 from by decide] at c9
        refine lv_ldc2 (v := (-9000000000000000001)) hx hb hown q0 dX10_lies_25 ?_
        rw [← hQ0]
        refine r_lret hx hb hr hlocks hW ?_ dX10_lies_28
        have e : fLies it le st a1 a2 a3 = (BADL, st) := by unfold fLies; rw [if_neg (by omega)]
        rw [e]
        exact ⟨rfl, hst, Ch.rf⟩
      · skip
        rw [t_lt, show (1 : Int32).toInt = 1 from by decide] at c9
        refine lv_iload_n hx hb dX10_lies_12 rfl (lv_at hl 2 rfl) ?_
        refine lv_bipush (v := 20) hx hb dX10_lies_13 (by decide) ?_
        refine lv_icmp_gt (tgt := 25) hx hb dX10_lies_15 (by decide) (fun c15 => ?_) (fun c15 => ?_)
        · skip
          rw [t_lt, show (20 : Int32).toInt = 20 from by decide] at c15
          refine lv_ldc2 (v := (-9000000000000000001)) hx hb hown q0 dX10_lies_25 ?_
          rw [← hQ0]
          refine r_lret hx hb hr hlocks hW ?_ dX10_lies_28
          have e : fLies it le st a1 a2 a3 = (BADL, st) := by unfold fLies; rw [if_neg (by omega)]
          rw [e]
          exact ⟨rfl, hst, Ch.rf⟩
        · skip
          rw [t_lt, show (20 : Int32).toInt = 20 from by decide] at c15
          refine lv_iload_n hx hb dX10_lies_18 rfl (lv_at hl 3 rfl) ?_
          refine r_calli hW hA (va_runS (As := [.int a3]) (rest := []) ⟨hx, hb, hml, hown, hts⟩ (t_X10_isZeroOrOne l D G S _ a3) (va_cwS 1 hts gX10_lies_X10_isZeroOrOne rfl rfl rfl (by decide +kernel) ⟨Nat.le_of_ble_eq_true rfl, Nat.le_of_ble_eq_true rfl⟩) (r_preS hA hW) rfl rfl hl.1 rfl (lv_room (Nat.le_of_ble_eq_true rfl)) dX10_lies_19 ⟨Nat.zero_le _, Nat.zero_le _⟩) (fun r19 S19 H locs hp19 hW => ?_)
          obtain ⟨hs19, hp19⟩ := hp19
          rw [hs19] at hW
          rcases hp19 with ⟨rfl, h19⟩ | ⟨rfl, h19⟩
          · skip
            refine lv_if_ne (tgt := 29) hx hb dX10_lies_22 (by decide) (fun c22 => ?_) (fun c22 => ?_)
            · skip
              have hn_a1 := n_nat (x := a1) (by omega)
              have hr_a1 := hRX a1.toNatClampNeg (by omega)
              have hle_a1 := hL a1.toNatClampNeg (by omega)
              have hn_a2 := n_nat (x := a2) (by omega)
              have e_a2 := n_nI (x := a2) (by omega)
              refine lv_aload_n hx hb dX10_lies_29 rfl (lv_at hl 0 rfl) ?_
              refine lv_iload_n hx hb dX10_lies_30 rfl (lv_at hl 1 rfl) ?_
              refine lv_iconst (v := 0) hx hb dX10_lies_31 (by decide) ?_
              refine lv_iconst (v := 2) hx hb dX10_lies_32 (by decide) ?_
              refine lv_iload_n hx hb dX10_lies_33 rfl (lv_at hl 2 rfl) ?_
              refine lv_imul hx hb dX10_lies_34 ?_
              rw [show ((2 * a2) : Int32) = (nI (2 * a2.toNatClampNeg)) from ((congrArg (fun z => (2 : Int32) * z) e_a2).trans (n_mul 2 _))]
              refine r_calli hW hA (va_runV (As := [.int a1, .int 0, .int (nI (2 * a2.toNatClampNeg))]) (rest := []) ⟨hx, hb, hml, hown, hts⟩ (t_X10_findingOfSpan l D G S _ hG hP a1 0 (nI (2 * a2.toNatClampNeg)) (by omega) (by omega) (by rw [hr_a1.2.1]; exact hle_a1)) (cwV 3 hts gX10_lies_X10_findingOfSpan rfl rfl rfl (by decide +kernel) ⟨Nat.le_of_ble_eq_true rfl, Nat.le_of_ble_eq_true rfl⟩) (r_preV (k := 0) hA hW (ci := 9) (C := RX10) (T := TX10) (N := 10) rfl rfl (g_lt hG (by decide)) (g_kd hG (by decide) rfl) rfl rfl) rfl rfl hl.1 rfl (lv_room (Nat.le_of_ble_eq_true rfl)) dX10_lies_35 ⟨Nat.zero_le _, Nat.zero_le _⟩) (fun r35 S35 H locs hp35 hW => ?_)
              obtain ⟨hs35, rfl⟩ := hp35
              rw [hs35] at hW
              refine lv_istore (lv' := [(4, .int (fos (gi S 11 a1.toNatClampNeg) 0 (nI (2 * a2.toNatClampNeg)))), (0, .ref (gA G 0)), (1, .int a1), (2, .int a2), (3, .int a3)]) hx hb dX10_lies_38 hl (by decide) rfl (fun ls hl => ?_)
              refine lv_iload hx hb dX10_lies_40 (lv_at hl 0 rfl) ?_
              refine lv_if_eq (tgt := 52) hx hb dX10_lies_42 (by decide) (fun c42 => ?_) (fun c42 => ?_)
              · skip
                rw [t_eq, show (0 : Int32).toInt = 0 from by decide] at c42
                have hf0 : fos (le a1.toNatClampNeg) 0 (nI (2 * a2.toNatClampNeg)) = 0 := by rw [← hr_a1.2.1, t_eq]; exact c42
                obtain ⟨z0, z1, z2, z3⟩ := fos_0 hf0
                rw [n_toInt (by omega)] at z3
                refine lv_iconst (v := 0) hx hb dX10_lies_52 (by decide) ?_
                refine lv_istore (lv' := [(5, .int 0), (4, .int (fos (gi S 11 a1.toNatClampNeg) 0 (nI (2 * a2.toNatClampNeg)))), (0, .ref (gA G 0)), (1, .int a1), (2, .int a2), (3, .int a3)]) hx hb dX10_lies_53 hl (by decide) rfl (fun ls hl => ?_)
                have L55 : ∀ (n : Nat) (k : Nat) (H : Heap) (locs : List Loc) (ls : Array Slot), (2 * a2.toNatClampNeg - k) < n → k ≤ 2 * a2.toNatClampNeg → (∀ j, j < k → 0 ≤ (it a1.toNatClampNeg j).toInt ∧ (it a1.toNatClampNeg j).toInt ≤ 999) → Wd D (AW G s.heap.size) s G S H locs → lv_has ls 11 [(5, .int (nI k)), (0, .ref (gA G 0)), (1, .int a1), (2, .int a2), (3, .int a3)] → W pP l eE (headSpec wsX10_lies rmX10_lies).room s mM ([.ref (gA G 0), .int a1, .int a2, .int a3] : List Value).toArray bl mT cD H locs 0 0 Q0 (F0 mM 55 ls []) := by
                  intro n
                  induction n with
                  | zero => intro k H locs ls hm; exact absurd hm (Nat.not_lt_zero _)
                  | succ n ih55 =>
                    intro k H locs ls hm55 hk hall hW hl
                    refine lv_iload hx hb dX10_lies_55 (lv_at hl 0 rfl) ?_
                    refine lv_iconst (v := 2) hx hb dX10_lies_57 (by decide) ?_
                    refine lv_iload_n hx hb dX10_lies_58 rfl (lv_at hl 3 rfl) ?_
                    refine lv_imul hx hb dX10_lies_59 ?_
                    rw [show ((2 * a2) : Int32) = (nI (2 * a2.toNatClampNeg)) from ((congrArg (fun z => (2 : Int32) * z) e_a2).trans (n_mul 2 _))]
                    refine lv_icmp_ge (tgt := 88) hx hb dX10_lies_60 (by decide) (fun c60 => ?_) (fun c60 => ?_)
                    · skip
                      have hge : 2 * a2.toNatClampNeg ≤ k := (n_le (by omega) (by omega)).mp c60
                      have hk2 : k = 2 * a2.toNatClampNeg := by omega
                      subst hk2
                      refine lv_lconst (v := 0) hx hb dX10_lies_88 (by decide) ?_
                      refine lv_lstore (lv' := [(5, .long 0), (0, .ref (gA G 0)), (1, .int a1), (2, .int a2), (3, .int a3)]) hx hb dX10_lies_89 hl (by decide) rfl (fun ls hl => ?_)
                      refine lv_iconst (v := 0) hx hb dX10_lies_91 (by decide) ?_
                      refine lv_istore (lv' := [(7, .int 0), (5, .long 0), (0, .ref (gA G 0)), (1, .int a1), (2, .int a2), (3, .int a3)]) hx hb dX10_lies_92 hl (by decide) rfl (fun ls hl => ?_)
                      refine lv_ldc (v := (-1000000)) hx hb hown q1 dX10_lies_94 ?_
                      refine lv_istore (lv' := [(8, .int (-1000000)), (7, .int 0), (5, .long 0), (0, .ref (gA G 0)), (1, .int a1), (2, .int a2), (3, .int a3)]) hx hb dX10_lies_96 hl (by decide) rfl (fun ls hl => ?_)
                      refine lv_iconst (v := 0) hx hb dX10_lies_98 (by decide) ?_
                      refine lv_istore (lv' := [(9, .int 0), (8, .int (-1000000)), (7, .int 0), (5, .long 0), (0, .ref (gA G 0)), (1, .int a1), (2, .int a2), (3, .int a3)]) hx hb dX10_lies_99 hl (by decide) rfl (fun ls hl => ?_)
                      have L101 : ∀ (n : Nat) (k : Nat) (H : Heap) (locs : List Loc) (ls : Array Slot), (a2.toNatClampNeg - k) < n → k ≤ a2.toNatClampNeg → Wd D (AW G s.heap.size) s G S H locs → lv_has ls 11 [(9, .int (nI k)), (5, .long (whoF (fun k => 0 < tmN (it a1.toNatClampNeg) k) k)), (7, .int (nI (tmM (it a1.toNatClampNeg) k).1)), (8, .int (wrI (tmM (it a1.toNatClampNeg) k).2)), (0, .ref (gA G 0)), (1, .int a1), (2, .int a2), (3, .int a3)] → W pP l eE (headSpec wsX10_lies rmX10_lies).room s mM ([.ref (gA G 0), .int a1, .int a2, .int a3] : List Value).toArray bl mT cD H locs 0 0 Q0 (F0 mM 101 ls []) := by
                        intro n
                        induction n with
                        | zero => intro k H locs ls hm; exact absurd hm (Nat.not_lt_zero _)
                        | succ n ih101 =>
                          intro k H locs ls hm101 hk hW hl
                          refine lv_iload hx hb dX10_lies_101 (lv_at hl 0 rfl) ?_
                          refine lv_iload_n hx hb dX10_lies_103 rfl (lv_at hl 6 rfl) ?_
                          refine lv_icmp_ge (tgt := 169) hx hb dX10_lies_104 (by decide) (fun c104 => ?_) (fun c104 => ?_)
                          · skip
                            rw [t_le] at c104
                            have hka : k = a2.toNatClampNeg := by rw [n_toInt (by omega)] at c104; omega
                            refine lv_aload_n hx hb dX10_lies_169 rfl (lv_at hl 4 rfl) ?_
                            refine lv_iload_n hx hb dX10_lies_170 rfl (lv_at hl 7 rfl) ?_
                            refine lv_if_ne (tgt := 179) hx hb dX10_lies_171 (by decide) (fun c171 => ?_) (fun c171 => ?_)
                            · skip
                              rw [t_eq, show (0 : Int32).toInt = 0 from by decide] at c171
                              refine lv_iload hx hb dX10_lies_179 (lv_at hl 3 rfl) ?_
                              refine lv_i2l hx hb dX10_lies_181 rfl ?_
                              refine r_calll hW hA (va_runV (As := [.long (Int32.toInt64 (wrI (tmM (it a1.toNatClampNeg) k).2))]) (rest := []) ⟨hx, hb, hml, hown, hts⟩ (t_X10_fine l D G S _ hG hP (Int32.toInt64 (wrI (tmM (it a1.toNatClampNeg) k).2))) (cwV 1 hts gX10_lies_X10_fine rfl rfl rfl (by decide +kernel) ⟨Nat.le_of_ble_eq_true rfl, Nat.le_of_ble_eq_true rfl⟩) (r_preV (k := 0) hA hW (ci := 9) (C := RX10) (T := TX10) (N := 10) rfl rfl (g_lt hG (by decide)) (g_kd hG (by decide) rfl) rfl rfl) rfl rfl hl.1 rfl (lv_room (Nat.le_of_ble_eq_true rfl)) dX10_lies_182 ⟨Nat.zero_le _, Nat.zero_le _⟩) (fun r182 S182 H locs hp182 hW => ?_)
                              obtain ⟨hs182, rfl⟩ := hp182
                              rw [hs182] at hW
                              rw [← hQ0]
                              refine r_lret hx hb hr hlocks hW ?_ dX10_lies_185
                              subst hka
                              have e : fLies it le st a1 a2 a3 = ((wrI (tmM (it a1.toNatClampNeg) a2.toNatClampNeg).2).toInt64, 0) := by unfold fLies; rw [if_pos (by omega), if_pos hf0, if_pos hall, if_neg c171]
                              rw [e]
                              exact ⟨rfl, congrFun (e_is _ _ _) 9, (Ch.ri Ch.rf (by omega))⟩
                            · skip
                              rw [t_eq, show (0 : Int32).toInt = 0 from by decide] at c171
                              refine lv_lload hx hb dX10_lies_174 (lv_at hl 1 rfl) ?_
                              refine lv_goto (tgt := 182) hx hb dX10_lies_176 (by decide) ?_
                              refine r_calll hW hA (va_runV (As := [.long (whoF (fun k => 0 < tmN (it a1.toNatClampNeg) k) k)]) (rest := []) ⟨hx, hb, hml, hown, hts⟩ (t_X10_fine l D G S _ hG hP (whoF (fun k => 0 < tmN (it a1.toNatClampNeg) k) k)) (cwV 1 hts gX10_lies_X10_fine rfl rfl rfl (by decide +kernel) ⟨Nat.le_of_ble_eq_true rfl, Nat.le_of_ble_eq_true rfl⟩) (r_preV (k := 0) hA hW (ci := 9) (C := RX10) (T := TX10) (N := 10) rfl rfl (g_lt hG (by decide)) (g_kd hG (by decide) rfl) rfl rfl) rfl rfl hl.1 rfl (lv_room (Nat.le_of_ble_eq_true rfl)) dX10_lies_182 ⟨Nat.zero_le _, Nat.zero_le _⟩) (fun r182 S182 H locs hp182 hW => ?_)
                              obtain ⟨hs182, rfl⟩ := hp182
                              rw [hs182] at hW
                              rw [← hQ0]
                              refine r_lret hx hb hr hlocks hW ?_ dX10_lies_185
                              subst hka
                              have e : fLies it le st a1 a2 a3 = (whoF (fun k => 0 < tmN (it a1.toNatClampNeg) k) a2.toNatClampNeg, 0) := by unfold fLies; rw [if_pos (by omega), if_pos hf0, if_pos hall, if_pos c171]
                              rw [e]
                              exact ⟨rfl, congrFun (e_is _ _ _) 9, (Ch.ri Ch.rf (by omega))⟩
                          · skip
                            rw [t_le] at c104
                            have hkl : k < a2.toNatClampNeg := by rw [n_toInt (by omega)] at c104; omega
                            refine lv_aload_n hx hb dX10_lies_107 rfl (lv_at hl 4 rfl) ?_
                            refine r_getr (ci := 9) (C := RX10) (T := TX10) (N := 10) hx hb hts iX10 hown hW rfl 0 0 rfl (g_lt hG (by decide)) (g_kd hG (by decide) rfl) (by decide) q2 (fun _ h9 => h9) (hP _ (List.mem_of_getElem? (i := 0) rfl)) rfl rfl dX10_lies_108 ?_
                            refine lv_iload_n hx hb dX10_lies_111 rfl (lv_at hl 5 rfl) ?_
                            refine r_aald hx hb hW 1 rfl (g_lt hG (by decide)) 16 5 (g_kd hG (by decide) rfl) rfl rfl (fun _ _ _ _ => rfl) (g_ix hG (c := 8) (by decide) rfl (t_in (by omega) (by omega))) (some (gA G (2 + a1.toNatClampNeg))) (rw_lk hP (by omega)) dX10_lies_112 ?_
                            refine W.eq (g2 := F0 mM 113 ls [.ref (gA G (2 + a1.toNatClampNeg))]) rfl ?_
                            refine lv_iconst (v := 2) hx hb dX10_lies_113 (by decide) ?_
                            refine lv_iload hx hb dX10_lies_114 (lv_at hl 0 rfl) ?_
                            refine lv_imul hx hb dX10_lies_116 ?_
                            rw [show ((2 * (nI k)) : Int32) = (nI (2 * k)) from n_mul 2 k]
                            refine r_iald hx hb hW (2 + a1.toNatClampNeg) rfl (rw_lt hG (r := a1.toNatClampNeg) (by omega)) (rw_kd hG (r := a1.toNatClampNeg) (by omega)) (by rw [rw_z hG (by omega)]; exact n_inI (by omega) (by decide)) (it a1.toNatClampNeg (2 * k)) (by rw [n_clamp (by omega)]; exact hr_a1.2.2 _ (by omega)) dX10_lies_117 ?_
                            refine lv_aload_n hx hb dX10_lies_118 rfl (lv_at hl 4 rfl) ?_
                            refine r_getr (ci := 9) (C := RX10) (T := TX10) (N := 10) hx hb hts iX10 hown hW rfl 0 0 rfl (g_lt hG (by decide)) (g_kd hG (by decide) rfl) (by decide) q2 (fun _ h9 => h9) (hP _ (List.mem_of_getElem? (i := 0) rfl)) rfl rfl dX10_lies_119 ?_
                            refine lv_iload_n hx hb dX10_lies_122 rfl (lv_at hl 5 rfl) ?_
                            refine r_aald hx hb hW 1 rfl (g_lt hG (by decide)) 16 5 (g_kd hG (by decide) rfl) rfl rfl (fun _ _ _ _ => rfl) (g_ix hG (c := 8) (by decide) rfl (t_in (by omega) (by omega))) (some (gA G (2 + a1.toNatClampNeg))) (rw_lk hP (by omega)) dX10_lies_123 ?_
                            refine W.eq (g2 := F0 mM 124 ls [.ref (gA G (2 + a1.toNatClampNeg)), .int (it a1.toNatClampNeg (2 * k))]) rfl ?_
                            refine lv_iconst (v := 2) hx hb dX10_lies_124 (by decide) ?_
                            refine lv_iload hx hb dX10_lies_125 (lv_at hl 0 rfl) ?_
                            refine lv_imul hx hb dX10_lies_127 ?_
                            rw [show ((2 * (nI k)) : Int32) = (nI (2 * k)) from n_mul 2 k]
                            refine lv_iconst (v := 1) hx hb dX10_lies_128 (by decide) ?_
                            refine lv_iadd hx hb dX10_lies_129 ?_
                            rw [show (((nI (2 * k)) + 1) : Int32) = (nI (2 * k + 1)) from n_add _ 1]
                            refine r_iald hx hb hW (2 + a1.toNatClampNeg) rfl (rw_lt hG (r := a1.toNatClampNeg) (by omega)) (rw_kd hG (r := a1.toNatClampNeg) (by omega)) (by rw [rw_z hG (by omega)]; exact n_inI (by omega) (by decide)) (it a1.toNatClampNeg (2 * k + 1)) (by rw [n_clamp (by omega)]; exact hr_a1.2.2 _ (by omega)) dX10_lies_130 ?_
                            refine lv_isub hx hb dX10_lies_131 ?_
                            have w0 := hall (2 * k) (by omega)
                            have w1 := hall (2 * k + 1) (by omega)
                            have htm : (((it a1.toNatClampNeg (2 * k)) - (it a1.toNatClampNeg (2 * k + 1)))).toInt = (it a1.toNatClampNeg (2 * k)).toInt - (it a1.toNatClampNeg (2 * k + 1)).toInt := t_sub (by omega) (by omega)
                            have f0 := n_nat (x := it a1.toNatClampNeg (2 * k)) w0.1
                            have f1 := n_nat (x := it a1.toNatClampNeg (2 * k + 1)) w1.1
                            have htN : tmN (it a1.toNatClampNeg) k = (((it a1.toNatClampNeg (2 * k)) - (it a1.toNatClampNeg (2 * k + 1)))).toInt.toNat := by unfold tmN; omega
                            have hM1 := tmM_1 (it a1.toNatClampNeg) k (fun j hj => hall j (by omega))
                            have hM2 : (nI (tmM (it a1.toNatClampNeg) k).1).toInt = ((tmM (it a1.toNatClampNeg) k).1 : Int) := n_toInt (by omega)
                            refine lv_istore (lv' := [(10, .int ((it a1.toNatClampNeg (2 * k)) - (it a1.toNatClampNeg (2 * k + 1)))), (9, .int (nI k)), (5, .long (whoF (fun k => 0 < tmN (it a1.toNatClampNeg) k) k)), (7, .int (nI (tmM (it a1.toNatClampNeg) k).1)), (8, .int (wrI (tmM (it a1.toNatClampNeg) k).2)), (0, .ref (gA G 0)), (1, .int a1), (2, .int a2), (3, .int a3)]) hx hb dX10_lies_132 hl (by decide) rfl (fun ls hl => ?_)
                            refine lv_iload hx hb dX10_lies_134 (lv_at hl 0 rfl) ?_
                            refine lv_if_le (tgt := 148) hx hb dX10_lies_136 (by decide) (fun c136 => ?_) (fun c136 => ?_)
                            · skip
                              rw [t_le, show (0 : Int32).toInt = 0 from by decide] at c136
                              refine lv_iload hx hb dX10_lies_148 (lv_at hl 0 rfl) ?_
                              refine lv_iload hx hb dX10_lies_150 (lv_at hl 3 rfl) ?_
                              refine lv_icmp_le (tgt := 163) hx hb dX10_lies_152 (by decide) (fun c152 => ?_) (fun c152 => ?_)
                              · skip
                                rw [t_le] at c152
                                have ew : (whoF (fun k => 0 < tmN (it a1.toNatClampNeg) k) k) = whoF (fun k => 0 < tmN (it a1.toNatClampNeg) k) (k + 1) := by show _ = (if 0 < tmN (it a1.toNatClampNeg) k then _ else _); rw [if_neg (by omega)]
                                have eM : tmM (it a1.toNatClampNeg) (k + 1) = tmM (it a1.toNatClampNeg) k := by show (if _ then _ else _) = _; rw [if_neg (by omega)]
                                have em : (nI (tmM (it a1.toNatClampNeg) k).1) = nI (tmM (it a1.toNatClampNeg) (k + 1)).1 := by rw [eM]
                                have eo : (wrI (tmM (it a1.toNatClampNeg) k).2) = wrI (tmM (it a1.toNatClampNeg) (k + 1)).2 := by rw [eM]
                                have hl : lv_has ls 11 [(10, .int ((it a1.toNatClampNeg (2 * k)) - (it a1.toNatClampNeg (2 * k + 1)))), (9, .int (nI k)), (5, .long (whoF (fun k => 0 < tmN (it a1.toNatClampNeg) k) (k + 1))), (7, .int (nI (tmM (it a1.toNatClampNeg) (k + 1)).1)), (8, .int (wrI (tmM (it a1.toNatClampNeg) (k + 1)).2)), (0, .ref (gA G 0)), (1, .int a1), (2, .int a2), (3, .int a3)] := by rw [← ew, ← em, ← eo]; exact hl
                                refine lv_iinc (v := (nI (k + 1))) (lv' := [(9, .int (nI (k + 1))), (10, .int ((it a1.toNatClampNeg (2 * k)) - (it a1.toNatClampNeg (2 * k + 1)))), (5, .long (whoF (fun k => 0 < tmN (it a1.toNatClampNeg) k) (k + 1))), (7, .int (nI (tmM (it a1.toNatClampNeg) (k + 1)).1)), (8, .int (wrI (tmM (it a1.toNatClampNeg) (k + 1)).2)), (0, .ref (gA G 0)), (1, .int a1), (2, .int a2), (3, .int a3)]) hx hb dX10_lies_163 hl (k := 1) rfl (nI_1 k) (by decide) rfl (fun ls hl => ?_)
                                refine lv_goto (tgt := 101) hx hb dX10_lies_166 (by decide) ?_
                                exact ih101 (k + 1) _ _ ls (by omega) hkl hW (lv_sub hl [0, 2, 3, 4, 5, 6, 7, 8] rfl)
                              · skip
                                rw [t_le] at c152
                                refine lv_iload hx hb dX10_lies_155 (lv_at hl 0 rfl) ?_
                                refine lv_istore (lv' := [(7, .int ((it a1.toNatClampNeg (2 * k)) - (it a1.toNatClampNeg (2 * k + 1)))), (10, .int ((it a1.toNatClampNeg (2 * k)) - (it a1.toNatClampNeg (2 * k + 1)))), (9, .int (nI k)), (5, .long (whoF (fun k => 0 < tmN (it a1.toNatClampNeg) k) k)), (8, .int (wrI (tmM (it a1.toNatClampNeg) k).2)), (0, .ref (gA G 0)), (1, .int a1), (2, .int a2), (3, .int a3)]) hx hb dX10_lies_157 hl (by decide) rfl (fun ls hl => ?_)
                                refine lv_iload hx hb dX10_lies_159 (lv_at hl 2 rfl) ?_
                                refine lv_istore (lv' := [(8, .int (nI k)), (7, .int ((it a1.toNatClampNeg (2 * k)) - (it a1.toNatClampNeg (2 * k + 1)))), (10, .int ((it a1.toNatClampNeg (2 * k)) - (it a1.toNatClampNeg (2 * k + 1)))), (9, .int (nI k)), (5, .long (whoF (fun k => 0 < tmN (it a1.toNatClampNeg) k) k)), (0, .ref (gA G 0)), (1, .int a1), (2, .int a2), (3, .int a3)]) hx hb dX10_lies_161 hl (by decide) rfl (fun ls hl => ?_)
                                have ew : (whoF (fun k => 0 < tmN (it a1.toNatClampNeg) k) k) = whoF (fun k => 0 < tmN (it a1.toNatClampNeg) k) (k + 1) := by show _ = (if 0 < tmN (it a1.toNatClampNeg) k then _ else _); rw [if_neg (by omega)]
                                have eM : tmM (it a1.toNatClampNeg) (k + 1) = (tmN (it a1.toNatClampNeg) k, some k) := by show (if _ then _ else _) = _; rw [if_pos (by omega)]
                                have em : ((it a1.toNatClampNeg (2 * k)) - (it a1.toNatClampNeg (2 * k + 1))) = nI (tmM (it a1.toNatClampNeg) (k + 1)).1 := by rw [eM]; show _ = nI (tmN (it a1.toNatClampNeg) k); rw [htN]; exact n_nI (by omega)
                                have eo : (nI k) = wrI (tmM (it a1.toNatClampNeg) (k + 1)).2 := by rw [eM]; rfl
                                have hl : lv_has ls 11 [(8, .int (wrI (tmM (it a1.toNatClampNeg) (k + 1)).2)), (7, .int (nI (tmM (it a1.toNatClampNeg) (k + 1)).1)), (10, .int ((it a1.toNatClampNeg (2 * k)) - (it a1.toNatClampNeg (2 * k + 1)))), (9, .int (nI k)), (5, .long (whoF (fun k => 0 < tmN (it a1.toNatClampNeg) k) (k + 1))), (0, .ref (gA G 0)), (1, .int a1), (2, .int a2), (3, .int a3)] := by rw [← ew, ← em, ← eo]; exact hl
                                refine lv_iinc (v := (nI (k + 1))) (lv' := [(9, .int (nI (k + 1))), (8, .int (wrI (tmM (it a1.toNatClampNeg) (k + 1)).2)), (7, .int (nI (tmM (it a1.toNatClampNeg) (k + 1)).1)), (10, .int ((it a1.toNatClampNeg (2 * k)) - (it a1.toNatClampNeg (2 * k + 1)))), (5, .long (whoF (fun k => 0 < tmN (it a1.toNatClampNeg) k) (k + 1))), (0, .ref (gA G 0)), (1, .int a1), (2, .int a2), (3, .int a3)]) hx hb dX10_lies_163 hl (k := 3) rfl (nI_1 k) (by decide) rfl (fun ls hl => ?_)
                                refine lv_goto (tgt := 101) hx hb dX10_lies_166 (by decide) ?_
                                exact ih101 (k + 1) _ _ ls (by omega) hkl hW (lv_sub hl [0, 4, 2, 1, 5, 6, 7, 8] rfl)
                            · skip
                              rw [t_le, show (0 : Int32).toInt = 0 from by decide] at c136
                              refine lv_lload hx hb dX10_lies_139 (lv_at hl 2 rfl) ?_
                              refine lv_lconst (v := 1) hx hb dX10_lies_141 (by decide) ?_
                              refine lv_iload hx hb dX10_lies_142 (lv_at hl 1 rfl) ?_
                              refine lv_lshl hx hb dX10_lies_144 rfl ?_
                              refine lv_lor hx hb dX10_lies_145 ?_
                              refine lv_lstore (lv' := [(5, .long ((whoF (fun k => 0 < tmN (it a1.toNatClampNeg) k) k) ||| (1 <<< (Int32.toInt64 (nI k) &&& 63)))), (10, .int ((it a1.toNatClampNeg (2 * k)) - (it a1.toNatClampNeg (2 * k + 1)))), (9, .int (nI k)), (7, .int (nI (tmM (it a1.toNatClampNeg) k).1)), (8, .int (wrI (tmM (it a1.toNatClampNeg) k).2)), (0, .ref (gA G 0)), (1, .int a1), (2, .int a2), (3, .int a3)]) hx hb dX10_lies_146 hl (by decide) rfl (fun ls hl => ?_)
                              refine lv_iload hx hb dX10_lies_148 (lv_at hl 1 rfl) ?_
                              refine lv_iload hx hb dX10_lies_150 (lv_at hl 3 rfl) ?_
                              refine lv_icmp_le (tgt := 163) hx hb dX10_lies_152 (by decide) (fun c152 => ?_) (fun c152 => ?_)
                              · skip
                                rw [t_le] at c152
                                have ew : ((whoF (fun k => 0 < tmN (it a1.toNatClampNeg) k) k) ||| (1 <<< (Int32.toInt64 (nI k) &&& 63))) = whoF (fun k => 0 < tmN (it a1.toNatClampNeg) k) (k + 1) := by show _ = (if 0 < tmN (it a1.toNatClampNeg) k then _ else _); rw [if_pos (by omega)]
                                have eM : tmM (it a1.toNatClampNeg) (k + 1) = tmM (it a1.toNatClampNeg) k := by show (if _ then _ else _) = _; rw [if_neg (by omega)]
                                have em : (nI (tmM (it a1.toNatClampNeg) k).1) = nI (tmM (it a1.toNatClampNeg) (k + 1)).1 := by rw [eM]
                                have eo : (wrI (tmM (it a1.toNatClampNeg) k).2) = wrI (tmM (it a1.toNatClampNeg) (k + 1)).2 := by rw [eM]
                                have hl : lv_has ls 11 [(5, .long (whoF (fun k => 0 < tmN (it a1.toNatClampNeg) k) (k + 1))), (10, .int ((it a1.toNatClampNeg (2 * k)) - (it a1.toNatClampNeg (2 * k + 1)))), (9, .int (nI k)), (7, .int (nI (tmM (it a1.toNatClampNeg) (k + 1)).1)), (8, .int (wrI (tmM (it a1.toNatClampNeg) (k + 1)).2)), (0, .ref (gA G 0)), (1, .int a1), (2, .int a2), (3, .int a3)] := by rw [← ew, ← em, ← eo]; exact hl
                                refine lv_iinc (v := (nI (k + 1))) (lv' := [(9, .int (nI (k + 1))), (5, .long (whoF (fun k => 0 < tmN (it a1.toNatClampNeg) k) (k + 1))), (10, .int ((it a1.toNatClampNeg (2 * k)) - (it a1.toNatClampNeg (2 * k + 1)))), (7, .int (nI (tmM (it a1.toNatClampNeg) (k + 1)).1)), (8, .int (wrI (tmM (it a1.toNatClampNeg) (k + 1)).2)), (0, .ref (gA G 0)), (1, .int a1), (2, .int a2), (3, .int a3)]) hx hb dX10_lies_163 hl (k := 2) rfl (nI_1 k) (by decide) rfl (fun ls hl => ?_)
                                refine lv_goto (tgt := 101) hx hb dX10_lies_166 (by decide) ?_
                                exact ih101 (k + 1) _ _ ls (by omega) hkl hW (lv_sub hl [0, 1, 3, 4, 5, 6, 7, 8] rfl)
                              · skip
                                rw [t_le] at c152
                                refine lv_iload hx hb dX10_lies_155 (lv_at hl 1 rfl) ?_
                                refine lv_istore (lv' := [(7, .int ((it a1.toNatClampNeg (2 * k)) - (it a1.toNatClampNeg (2 * k + 1)))), (5, .long ((whoF (fun k => 0 < tmN (it a1.toNatClampNeg) k) k) ||| (1 <<< (Int32.toInt64 (nI k) &&& 63)))), (10, .int ((it a1.toNatClampNeg (2 * k)) - (it a1.toNatClampNeg (2 * k + 1)))), (9, .int (nI k)), (8, .int (wrI (tmM (it a1.toNatClampNeg) k).2)), (0, .ref (gA G 0)), (1, .int a1), (2, .int a2), (3, .int a3)]) hx hb dX10_lies_157 hl (by decide) rfl (fun ls hl => ?_)
                                refine lv_iload hx hb dX10_lies_159 (lv_at hl 3 rfl) ?_
                                refine lv_istore (lv' := [(8, .int (nI k)), (7, .int ((it a1.toNatClampNeg (2 * k)) - (it a1.toNatClampNeg (2 * k + 1)))), (5, .long ((whoF (fun k => 0 < tmN (it a1.toNatClampNeg) k) k) ||| (1 <<< (Int32.toInt64 (nI k) &&& 63)))), (10, .int ((it a1.toNatClampNeg (2 * k)) - (it a1.toNatClampNeg (2 * k + 1)))), (9, .int (nI k)), (0, .ref (gA G 0)), (1, .int a1), (2, .int a2), (3, .int a3)]) hx hb dX10_lies_161 hl (by decide) rfl (fun ls hl => ?_)
                                have ew : ((whoF (fun k => 0 < tmN (it a1.toNatClampNeg) k) k) ||| (1 <<< (Int32.toInt64 (nI k) &&& 63))) = whoF (fun k => 0 < tmN (it a1.toNatClampNeg) k) (k + 1) := by show _ = (if 0 < tmN (it a1.toNatClampNeg) k then _ else _); rw [if_pos (by omega)]
                                have eM : tmM (it a1.toNatClampNeg) (k + 1) = (tmN (it a1.toNatClampNeg) k, some k) := by show (if _ then _ else _) = _; rw [if_pos (by omega)]
                                have em : ((it a1.toNatClampNeg (2 * k)) - (it a1.toNatClampNeg (2 * k + 1))) = nI (tmM (it a1.toNatClampNeg) (k + 1)).1 := by rw [eM]; show _ = nI (tmN (it a1.toNatClampNeg) k); rw [htN]; exact n_nI (by omega)
                                have eo : (nI k) = wrI (tmM (it a1.toNatClampNeg) (k + 1)).2 := by rw [eM]; rfl
                                have hl : lv_has ls 11 [(8, .int (wrI (tmM (it a1.toNatClampNeg) (k + 1)).2)), (7, .int (nI (tmM (it a1.toNatClampNeg) (k + 1)).1)), (5, .long (whoF (fun k => 0 < tmN (it a1.toNatClampNeg) k) (k + 1))), (10, .int ((it a1.toNatClampNeg (2 * k)) - (it a1.toNatClampNeg (2 * k + 1)))), (9, .int (nI k)), (0, .ref (gA G 0)), (1, .int a1), (2, .int a2), (3, .int a3)] := by rw [← ew, ← em, ← eo]; exact hl
                                refine lv_iinc (v := (nI (k + 1))) (lv' := [(9, .int (nI (k + 1))), (8, .int (wrI (tmM (it a1.toNatClampNeg) (k + 1)).2)), (7, .int (nI (tmM (it a1.toNatClampNeg) (k + 1)).1)), (5, .long (whoF (fun k => 0 < tmN (it a1.toNatClampNeg) k) (k + 1))), (10, .int ((it a1.toNatClampNeg (2 * k)) - (it a1.toNatClampNeg (2 * k + 1)))), (0, .ref (gA G 0)), (1, .int a1), (2, .int a2), (3, .int a3)]) hx hb dX10_lies_163 hl (k := 4) rfl (nI_1 k) (by decide) rfl (fun ls hl => ?_)
                                refine lv_goto (tgt := 101) hx hb dX10_lies_166 (by decide) ?_
                                exact ih101 (k + 1) _ _ ls (by omega) hkl hW (lv_sub hl [0, 3, 2, 1, 5, 6, 7, 8] rfl)
                      exact L101 _ 0 _ _ ls (Nat.lt_succ_self _) (Nat.zero_le _) hW (lv_sub hl [0, 3, 2, 1, 4, 5, 6, 7] rfl)
                    · skip
                      have hkl : k < 2 * a2.toNatClampNeg := by
                        have h9 : ¬ 2 * a2.toNatClampNeg ≤ k := fun q => c60 ((n_le (by omega) (by omega)).mpr q)
                        omega
                      refine lv_aload_n hx hb dX10_lies_63 rfl (lv_at hl 1 rfl) ?_
                      refine r_getr (ci := 9) (C := RX10) (T := TX10) (N := 10) hx hb hts iX10 hown hW rfl 0 0 rfl (g_lt hG (by decide)) (g_kd hG (by decide) rfl) (by decide) q2 (fun _ h9 => h9) (hP _ (List.mem_of_getElem? (i := 0) rfl)) rfl rfl dX10_lies_64 ?_
                      refine lv_iload_n hx hb dX10_lies_67 rfl (lv_at hl 2 rfl) ?_
                      refine r_aald hx hb hW 1 rfl (g_lt hG (by decide)) 16 5 (g_kd hG (by decide) rfl) rfl rfl (fun _ _ _ _ => rfl) (g_ix hG (c := 8) (by decide) rfl (t_in (by omega) (by omega))) (some (gA G (2 + a1.toNatClampNeg))) (rw_lk hP (by omega)) dX10_lies_68 ?_
                      refine W.eq (g2 := F0 mM 69 ls [.ref (gA G (2 + a1.toNatClampNeg))]) rfl ?_
                      refine lv_iload hx hb dX10_lies_69 (lv_at hl 0 rfl) ?_
                      refine r_iald hx hb hW (2 + a1.toNatClampNeg) rfl (rw_lt hG (r := a1.toNatClampNeg) (by omega)) (rw_kd hG (r := a1.toNatClampNeg) (by omega)) (by rw [rw_z hG (by omega)]; exact n_inI (by omega) (by decide)) (it a1.toNatClampNeg (k)) (by rw [n_clamp (by omega)]; exact hr_a1.2.2 _ (by omega)) dX10_lies_71 ?_
                      refine r_calli hW hA (va_runS (As := [.int (it a1.toNatClampNeg (k))]) (rest := []) ⟨hx, hb, hml, hown, hts⟩ (t_X10_isWood l D G S _ (it a1.toNatClampNeg (k))) (va_cwS 1 hts gX10_lies_X10_isWood rfl rfl rfl (by decide +kernel) ⟨Nat.le_of_ble_eq_true rfl, Nat.le_of_ble_eq_true rfl⟩) (r_preS hA hW) rfl rfl hl.1 rfl (lv_room (Nat.le_of_ble_eq_true rfl)) dX10_lies_72 ⟨Nat.zero_le _, Nat.zero_le _⟩) (fun r72 S72 H locs hp72 hW => ?_)
                      obtain ⟨hs72, hp72⟩ := hp72
                      rw [hs72] at hW
                      rcases hp72 with ⟨rfl, h72⟩ | ⟨rfl, h72⟩
                      · skip
                        refine lv_if_ne (tgt := 82) hx hb dX10_lies_75 (by decide) (fun c75 => ?_) (fun c75 => ?_)
                        · skip
                          refine lv_iinc (v := (nI (k + 1))) (lv' := [(5, .int (nI (k + 1))), (0, .ref (gA G 0)), (1, .int a1), (2, .int a2), (3, .int a3)]) hx hb dX10_lies_82 hl (k := 0) rfl (nI_1 k) (by decide) rfl (fun ls hl => ?_)
                          refine lv_goto (tgt := 55) hx hb dX10_lies_85 (by decide) ?_
                          exact ih55 (k + 1) _ _ ls (by omega) hkl (fun j hj => by rcases Nat.lt_or_eq_of_le (Nat.lt_succ_iff.mp hj) with z | z; exact hall j z; rw [z]; exact h72) hW (lv_sub hl [0, 1, 2, 3, 4] rfl)
                        · exact absurd c75 (by decide)
                      · skip
                        refine lv_if_ne (tgt := 82) hx hb dX10_lies_75 (by decide) (fun c75 => ?_) (fun c75 => ?_)
                        · exact absurd (by decide) c75
                        · skip
                          refine lv_ldc2 (v := (-9000000000000000001)) hx hb hown q0 dX10_lies_78 ?_
                          rw [← hQ0]
                          refine r_lret hx hb hr hlocks hW ?_ dX10_lies_81
                          have e : fLies it le st a1 a2 a3 = (BADL, st) := by unfold fLies; rw [if_pos (by omega), if_pos hf0, if_neg (fun z => h72 (z k hkl))]
                          rw [e]
                          exact ⟨rfl, hst, Ch.rf⟩
                exact L55 _ 0 _ _ ls (Nat.lt_succ_self _) (Nat.zero_le _) (fun j hj => absurd hj (Nat.not_lt_zero _)) hW (lv_sub hl [0, 2, 3, 4, 5] rfl)
              · skip
                rw [t_eq, show (0 : Int32).toInt = 0 from by decide] at c42
                refine lv_aload_n hx hb dX10_lies_45 rfl (lv_at hl 1 rfl) ?_
                refine lv_iload hx hb dX10_lies_46 (lv_at hl 0 rfl) ?_
                refine r_calll hW hA (va_runV (As := [.int (fos (gi S 11 a1.toNatClampNeg) 0 (nI (2 * a2.toNatClampNeg)))]) (rest := []) ⟨hx, hb, hml, hown, hts⟩ (t_X10_found l D G S _ hG hP (fos (gi S 11 a1.toNatClampNeg) 0 (nI (2 * a2.toNatClampNeg)))) (cwV 1 hts gX10_lies_X10_found rfl rfl rfl (by decide +kernel) ⟨Nat.le_of_ble_eq_true rfl, Nat.le_of_ble_eq_true rfl⟩) (r_preV (k := 0) hA hW (ci := 9) (C := RX10) (T := TX10) (N := 10) rfl rfl (g_lt hG (by decide)) (g_kd hG (by decide) rfl) rfl rfl) rfl rfl hl.1 rfl (lv_room (Nat.le_of_ble_eq_true rfl)) dX10_lies_48 ⟨Nat.zero_le _, Nat.zero_le _⟩) (fun r48 S48 H locs hp48 hW => ?_)
                obtain ⟨hs48, rfl⟩ := hp48
                rw [hs48] at hW
                rw [← hQ0]
                refine r_lret hx hb hr hlocks hW ?_ dX10_lies_51
                have e : fLies it le st a1 a2 a3 = (FND (fos (le a1.toNatClampNeg) 0 (nI (2 * a2.toNatClampNeg))), fos (le a1.toNatClampNeg) 0 (nI (2 * a2.toNatClampNeg))) := by unfold fLies; rw [if_pos (by omega), if_neg (fun z => by rw [hr_a1.2.1, z] at c42; exact c42 (by decide))]
                rw [e, ← hr_a1.2.1]
                exact ⟨rfl, congrFun (e_is _ _ _) 9, (Ch.ri Ch.rf (by omega))⟩
            · exact absurd c22 (by decide)
          · skip
            refine lv_if_ne (tgt := 29) hx hb dX10_lies_22 (by decide) (fun c22 => ?_) (fun c22 => ?_)
            · exact absurd (by decide) c22
            · skip
              refine lv_ldc2 (v := (-9000000000000000001)) hx hb hown q0 dX10_lies_25 ?_
              rw [← hQ0]
              refine r_lret hx hb hr hlocks hW ?_ dX10_lies_28
              have e : fLies it le st a1 a2 a3 = (BADL, st) := by unfold fLies; rw [if_neg (by omega)]
              rw [e]
              exact ⟨rfl, hst, Ch.rf⟩
  · skip
    refine lv_if_eq (tgt := 25) hx hb dX10_lies_4 (by decide) (fun c4 => ?_) (fun c4 => ?_)
    · skip
      refine lv_ldc2 (v := (-9000000000000000001)) hx hb hown q0 dX10_lies_25 ?_
      rw [← hQ0]
      refine r_lret hx hb hr hlocks hW ?_ dX10_lies_28
      have e : fLies it le st a1 a2 a3 = (BADL, st) := by unfold fLies; rw [if_neg (by omega)]
      rw [e]
      exact ⟨rfl, hst, Ch.rf⟩
    · exact absurd (by decide) c4
