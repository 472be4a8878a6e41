/-! the same walks once more: what stays as it was -/
set_option maxHeartbeats 4000000 in
set_option maxRecDepth 100000 in
theorem t_X11_row_s (l : Launch) (D : Dc) (G : Gg) (S : Sg) (z : Nat) (hG : GrG G) (hP : GrP G S) (it : Nat → Nat → Int32) (la le : Nat → Int32) (hR : RowsM S it la le) (hL : LeOK le) (st : Int32) (hst : gi S 65 4 = st) (a1 a2 a3 : Int32) : ML l yX11_row wsX11_row rmX11_row D G S z [.ref (gA G 65), .int a1, .int a2, .int a3] (fun r S' => (RowsM S' (fRow it la le st a1 a2 a3).2.1 (fRow it la le st a1 a2 a3).2.2.1 (fRow it la le st a1 a2 a3).2.2.2.1 ∧ gi S' 65 4 = (fRow it la le st a1 a2 a3).2.2.2.2 ∧ r = (fRow it la le st a1 a2 a3).1 ∧ Ch (fun k => 65 ≤ k ∧ k ≤ 74) S S') ∧ ((∀ j, j ≠ 4 → gi S' 65 j = gi S 65 j) ∧ Ch (fun k => k = 65 ∨ (67 ≤ k ∧ k ≤ 70)) S S')) := by
  refine Met.ofW (cc := cX11_row) (maxL := 5) (ret := (some .long)) (by decide +kernel) rfl ?_
  intro pP eE s mM args bl mT cD s₁ bD hml hv
  obtain ⟨rfl, hv⟩ := hv
  have hz := hv.1
  subst hz
  have hx := bD.exec
  have hb := bD.bytes
  have hr := bD.returns
  have hts := atoms_spec (ws := wsX11_row) bD.pre
  have hown : s.vm.findClass RX11 = some mM.cls := findClass_of_methodNamed bD.named
  have hlocks := bD.notSynchronized
  have hW := Wd.start hv
  have hA : ∀ q, s.heap.size ≤ q → AW G s.heap.size q := fun q h => Or.inr h
  have hl := lv_entry ([.ref (gA G 65), .int a1, .int a2, .int a3]) (n := 5) (Nat.le_of_ble_eq_true rfl)
  rw [lg_entry_eq]
  generalize (lg_sl ([.ref (gA G 65), .int a1, .int a2, .int a3]) ++ List.replicate (5 - (lg_sl ([.ref (gA G 65), .int a1, .int a2, .int a3])).length) Slot.unset).toArray = ls at hl ⊢
  have hl : lv_has ls 5 [(0, .ref (gA G 65)), (1, .int a1), (2, .int a2), (3, .int a3)] := hl
  have q0 := hts (.constantLong RX11 54 (2)) (List.mem_of_getElem? (i := 1) rfl)
  have q1 := hts (.fieldLink RX11 17 "WoodForTwoModel" "lane" "[I") (List.mem_of_getElem? (i := 3) rfl)
  have q2 := hts (.fieldLink RX11 20 "WoodForTwoModel" "length" "[I") (List.mem_of_getElem? (i := 4) rfl)
  have q3 := hts (.fieldLink RX11 13 "WoodForTwoModel" "items" "[I") (List.mem_of_getElem? (i := 5) rfl)
  have q4 := hts (.constantLong RX11 56 (-9000000000000000001)) (List.mem_of_getElem? (i := 2) rfl)
  have iX11 : ∀ w ∈ wsX110, w ∈ wsX11_row := fun _ h => List.mem_cons_of_mem _ (List.mem_append_right _ (h))
  generalize hQ0 : MQ bl _ _ s _ _ _ = Q0
  refine lv_aload_n hx hb dX11_row_0 rfl (lv_at hl 0 rfl) ?_
  refine lv_iload_n hx hb dX11_row_1 rfl (lv_at hl 1 rfl) ?_
  refine r_calli hW hA (va_runV (As := [.int a1]) (rest := []) ⟨hx, hb, hml, hown, hts⟩ (t_X11_isRow l D G S _ hG hP a1) (cwV 1 hts gX11_row_X11_isRow rfl rfl rfl (by decide +kernel) ⟨Nat.le_of_ble_eq_true rfl, Nat.le_of_ble_eq_true rfl⟩) (r_preV (k := 65) hA hW (ci := 10) (C := RX11) (T := TX11) (N := 20) rfl rfl (g_lt hG (by decide)) (g_kd hG (by decide) rfl) rfl rfl) rfl rfl hl.1 rfl (lv_room (Nat.le_of_ble_eq_true rfl)) dX11_row_2 ⟨Nat.zero_le _, Nat.zero_le _⟩) (fun r2 S2 H locs hp2 hW => ?_)
  obtain ⟨hs2, hp2⟩ := hp2
  rw [hs2] at hW
  rcases hp2 with ⟨rfl, h2⟩ | ⟨rfl, h2⟩
  · skip
    refine lv_if_eq (tgt := 26) hx hb dX11_row_5 (by decide) (fun c5 => ?_) (fun c5 => ?_)
    · exact absurd c5 (by decide)
    · skip
      refine lv_iload_n hx hb dX11_row_8 rfl (lv_at hl 2 rfl) ?_
      refine lv_i2l hx hb dX11_row_9 rfl ?_
      refine lv_lconst (v := 0) hx hb dX11_row_10 (by decide) ?_
      refine lv_ldc2 (v := (2)) hx hb hown q0 dX11_row_11 ?_
      refine r_calli hW hA (va_runS (As := [.long (Int32.toInt64 a2), .long 0, .long (2)]) (rest := []) ⟨hx, hb, hml, hown, hts⟩ (t_X11_in l D G S _ (Int32.toInt64 a2) 0 (2) (a2).toInt 0 2 (Int32.toInt_toInt64 _) (by decide) (by decide)) (va_cwS 3 hts gX11_row_X11_in rfl rfl rfl (by decide +kernel) ⟨Nat.le_of_ble_eq_true rfl, Nat.le_of_ble_eq_true rfl⟩) (r_preS hA hW) rfl rfl hl.1 rfl (lv_room (Nat.le_of_ble_eq_true rfl)) dX11_row_14 ⟨Nat.zero_le _, Nat.zero_le _⟩) (fun r14 S14 H locs hp14 hW => ?_)
      obtain ⟨hs14, hp14⟩ := hp14
      rw [hs14] at hW
      rcases hp14 with ⟨rfl, h14⟩ | ⟨rfl, h14⟩
      · skip
        refine lv_if_eq (tgt := 26) hx hb dX11_row_17 (by decide) (fun c17 => ?_) (fun c17 => ?_)
        · exact absurd c17 (by decide)
        · skip
          refine lv_iload_n hx hb dX11_row_20 rfl (lv_at hl 3 rfl) ?_
          refine lv_bipush (v := 40) hx hb dX11_row_21 (by decide) ?_
          refine lv_icmp_le (tgt := 30) hx hb dX11_row_23 (by decide) (fun c23 => ?_) (fun c23 => ?_)
          · skip
            rw [t_le, show (40 : Int32).toInt = 40 from by decide] at c23
            refine lv_iload_n hx hb dX11_row_30 rfl (lv_at hl 3 rfl) ?_
            refine lv_if_ge (tgt := 40) hx hb dX11_row_31 (by decide) (fun c31 => ?_) (fun c31 => ?_)
            · skip
              rw [t_le, show (0 : Int32).toInt = 0 from by decide] at c31
              have hn_a1 := n_nat (x := a1) (by omega)
              refine lv_aload_n hx hb dX11_row_40 rfl (lv_at hl 0 rfl) ?_
              refine r_getr (ci := 10) (C := RX11) (T := TX11) (N := 20) hx hb hts iX11 hown hW rfl 65 2 rfl (g_lt hG (by decide)) (g_kd hG (by decide) rfl) (by decide) q1 (fun _ h9 => h9) (hP _ (List.mem_of_getElem? (i := 62) rfl)) rfl rfl dX11_row_41 ?_
              refine lv_iload_n hx hb dX11_row_44 rfl (lv_at hl 1 rfl) ?_
              refine lv_iload_n hx hb dX11_row_45 rfl (lv_at hl 2 rfl) ?_
              refine r_iast hx hb hW 68 rfl (g_lt hG (by decide)) (g_kd hG (by decide) rfl) (g_ix hG (c := 8) (by decide) rfl (t_in (by omega) (by omega))) (ri S 68 (va_up (gi S 68) (a1).toNatClampNeg a2)) (gi S 68) rfl (e_is _ _ _) rfl rfl c_i0 dX11_row_46 (fun H locs hW => ?_)
              refine lv_aload_n hx hb dX11_row_47 rfl (lv_at hl 0 rfl) ?_
              refine r_getr (ci := 10) (C := RX11) (T := TX11) (N := 20) hx hb hts iX11 hown hW rfl 65 3 rfl (g_lt hG (by decide)) (g_kd hG (by decide) rfl) (by decide) q2 (fun _ h9 => h9) (hP _ (List.mem_of_getElem? (i := 63) rfl)) rfl rfl dX11_row_48 ?_
              refine lv_iload_n hx hb dX11_row_51 rfl (lv_at hl 1 rfl) ?_
              refine lv_iload_n hx hb dX11_row_52 rfl (lv_at hl 3 rfl) ?_
              refine r_iast hx hb hW 69 rfl (g_lt hG (by decide)) (g_kd hG (by decide) rfl) (g_ix hG (c := 8) (by decide) rfl (t_in (by omega) (by omega))) (ri (ri S 68 (va_up (gi S 68) (a1).toNatClampNeg a2)) 69 (va_up (gi S 69) (a1).toNatClampNeg a3)) (gi S 69) (e_in (by decide) rfl) (e_is _ _ _) rfl rfl c_i0 dX11_row_53 (fun H locs hW => ?_)
              refine lv_iconst (v := 0) hx hb dX11_row_54 (by decide) ?_
              refine lv_istore (lv' := [(4, .int 0), (0, .ref (gA G 65)), (1, .int a1), (2, .int a2), (3, .int a3)]) hx hb dX11_row_55 hl (by decide) rfl (fun ls hl => ?_)
              rw [show (ri (ri S 68 (va_up (gi S 68) (a1).toNatClampNeg a2)) 69 (va_up (gi S 69) (a1).toNatClampNeg a3)) = (ri (ri (ri S 68 (va_up (gi S 68) (a1).toNatClampNeg a2)) 69 (va_up (gi S 69) (a1).toNatClampNeg a3)) 67 (gi S 67)) from ((ri_id (ri (ri S 68 (va_up (gi S 68) (a1).toNatClampNeg a2)) 69 (va_up (gi S 69) (a1).toNatClampNeg a3)) 67).symm.trans (congrArg (fun z => ri (ri (ri S 68 (va_up (gi S 68) (a1).toNatClampNeg a2)) 69 (va_up (gi S 69) (a1).toNatClampNeg a3)) 67 z) (e_in (by decide) (e_in (by decide) rfl))))] at hW
              have L57 : ∀ (n : Nat) (i : Nat) (t : Nat → Int32) (H : Heap) (locs : List Loc) (ls : Array Slot), (40 - i) < n → i ≤ 40 → (∀ j, j < i → t (40 * a1.toNatClampNeg + j) = 0) → (∀ x, x < 40 * a1.toNatClampNeg ∨ 40 * a1.toNatClampNeg + 40 ≤ x → t x = gi S 67 x) → Wd D (AW G s.heap.size) s G (ri (ri (ri S 68 (va_up (gi S 68) (a1).toNatClampNeg a2)) 69 (va_up (gi S 69) (a1).toNatClampNeg a3)) 67 t) H locs → lv_has ls 5 [(4, .int (nI i)), (0, .ref (gA G 65)), (1, .int a1), (2, .int a2), (3, .int a3)] → W pP l eE (headSpec wsX11_row rmX11_row).room s mM ([.ref (gA G 65), .int a1, .int a2, .int a3] : List Value).toArray bl mT cD H locs 0 0 Q0 (F0 mM 57 ls []) := by
                intro n
                induction n with
                | zero => intro i t H locs ls hm; exact absurd hm (Nat.not_lt_zero _)
                | succ n ih57 =>
                  intro i t H locs ls hm57 hi ht0 ht1 hW hl
                  refine lv_iload hx hb dX11_row_57 (lv_at hl 0 rfl) ?_
                  refine lv_bipush (v := 40) hx hb dX11_row_59 (by decide) ?_
                  refine lv_icmp_ge (tgt := 83) hx hb dX11_row_61 (by decide) (fun c61 => ?_) (fun c61 => ?_)
                  · skip
                    have hge : 40 ≤ i := (n_le (a := 40) (by omega) (by omega)).mp c61
                    refine lv_aload_n hx hb dX11_row_83 rfl (lv_at hl 1 rfl) ?_
                    refine lv_iload_n hx hb dX11_row_84 rfl (lv_at hl 4 rfl) ?_
                    refine lv_i2l hx hb dX11_row_85 rfl ?_
                    refine r_calll hW hA (va_runV (As := [.long (Int32.toInt64 a3)]) (rest := []) ⟨hx, hb, hml, hown, hts⟩ (t_X11_good l D G (ri (ri (ri S 68 (va_up (gi S 68) (a1).toNatClampNeg a2)) 69 (va_up (gi S 69) (a1).toNatClampNeg a3)) 67 t) _ hG hP (Int32.toInt64 a3)) (cwV 1 hts gX11_row_X11_good rfl rfl rfl (by decide +kernel) ⟨Nat.le_of_ble_eq_true rfl, Nat.le_of_ble_eq_true rfl⟩) (r_preV (k := 65) hA hW (ci := 10) (C := RX11) (T := TX11) (N := 20) rfl rfl (g_lt hG (by decide)) (g_kd hG (by decide) rfl) rfl rfl) rfl rfl hl.1 rfl (lv_room (Nat.le_of_ble_eq_true rfl)) dX11_row_86 ⟨Nat.zero_le _, Nat.zero_le _⟩) (fun r86 S86 H locs hp86 hW => ?_)
                    obtain ⟨hs86, rfl⟩ := hp86
                    rw [hs86] at hW
                    rw [← hQ0]
                    refine r_lret hx hb hr hlocks hW ?_ dX11_row_89
                    refine ⟨?_, (fun j hj => (congrFun (e_is _ _ _) j).trans ((up_n _ _ hj).trans rfl)), (Ch.ri (Ch.ri (Ch.ri (Ch.ri Ch.rf (by omega)) (by omega)) (by omega)) (by omega))⟩
                    have e : fRow it la le st a1 a2 a3 = (a3.toInt64, va_up it a1.toNatClampNeg (fun _ => 0), va_up la a1.toNatClampNeg a2, va_up le a1.toNatClampNeg a3, 0) := by unfold fRow; rw [if_pos (by omega), if_neg (by omega)]
                    rw [e]; dsimp only
                    have hi40 : i = 40 := by omega
                    subst hi40
                    refine ⟨?_, (congrFun (e_is _ _ _) 4).trans rfl, rfl, (Ch.ri (Ch.ri (Ch.ri (Ch.ri Ch.rf (by omega)) (by omega)) (by omega)) (by omega))⟩
                    intro j hj
                    obtain ⟨y1, y2, y3⟩ := hR j hj
                    refine ⟨?_, ?_, fun x hx => ?_⟩
                    · rw [(e_in (by decide) (e_in (by decide) (e_in (by decide) (e_is _ _ _))))]; exact up_cg _ _ y1
                    · rw [(e_in (by decide) (e_in (by decide) (e_is _ _ _)))]; exact up_cg _ _ y2
                    · rw [(e_in (by decide) (e_is _ _ _))]
                      by_cases hja : j = a1.toNatClampNeg
                      · rw [hja, up_s]; exact ht0 x hx
                      · rw [up_n _ _ hja]; exact (ht1 _ (by omega)).trans (y3 x hx)
                  · skip
                    have hlt : i < 40 := by
                      have h9 : ¬ 40 ≤ i := fun q => c61 ((n_le (a := 40) (by omega) (by omega)).mpr q)
                      omega
                    refine lv_aload_n hx hb dX11_row_64 rfl (lv_at hl 1 rfl) ?_
                    refine r_getr (ci := 10) (C := RX11) (T := TX11) (N := 20) hx hb hts iX11 hown hW rfl 65 1 rfl (g_lt hG (by decide)) (g_kd hG (by decide) rfl) (by decide) q3 (fun _ h9 => h9) (hP _ (List.mem_of_getElem? (i := 61) rfl)) rfl rfl dX11_row_65 ?_
                    refine lv_bipush (v := 40) hx hb dX11_row_68 (by decide) ?_
                    refine lv_iload_n hx hb dX11_row_70 rfl (lv_at hl 2 rfl) ?_
                    refine lv_imul hx hb dX11_row_71 ?_
                    refine lv_iload hx hb dX11_row_72 (lv_at hl 0 rfl) ?_
                    refine lv_iadd hx hb dX11_row_74 ?_
                    rw [show ((40 * a1) + (nI i) : Int32) = (nI (40 * a1.toNatClampNeg + i)) from by conv => lhs; rw [n_nI (x := a1) (by omega), show (40 : Int32) = nI 40 from by decide, n_mul, n_add]]
                    refine lv_iconst (v := 0) hx hb dX11_row_75 (by decide) ?_
                    refine r_iast hx hb hW 67 rfl (g_lt hG (by decide)) (g_kd hG (by decide) rfl) (g_ix hG (c := 320) (by decide) rfl (n_inI (by omega) (by decide))) (ri (ri (ri S 68 (va_up (gi S 68) (a1).toNatClampNeg a2)) 69 (va_up (gi S 69) (a1).toNatClampNeg a3)) 67 (va_up t ((nI (40 * a1.toNatClampNeg + i))).toNatClampNeg 0)) t (e_is _ _ _) (e_is _ _ _) rfl rfl c_i dX11_row_76 (fun H locs hW => ?_)
                    rw [show ((nI (40 * a1.toNatClampNeg + i))).toNatClampNeg = (40 * a1.toNatClampNeg + i) from n_clamp (by omega)] at hW
                    refine lv_iinc (v := (nI (i + 1))) (lv' := [(4, .int (nI (i + 1))), (0, .ref (gA G 65)), (1, .int a1), (2, .int a2), (3, .int a3)]) hx hb dX11_row_77 hl (k := 0) rfl (nI_1 i) (by decide) rfl (fun ls hl => ?_)
                    refine lv_goto (tgt := 57) hx hb dX11_row_80 (by decide) ?_
                    exact ih57 (i + 1) (va_up t (40 * a1.toNatClampNeg + i) 0) _ _ ls (by omega) (by omega) (fun j hj => by by_cases z : j = i; (subst z; exact up_s _ _ _); exact (up_n _ _ (by omega)).trans (ht0 j (by omega))) (fun x hx => (up_n _ _ (by omega)).trans (ht1 x hx)) hW (lv_sub hl [0, 1, 2, 3, 4] rfl)
              exact L57 _ 0 (gi S 67) _ _ ls (Nat.lt_succ_self _) (Nat.zero_le _) (fun j hj => absurd hj (Nat.not_lt_zero _)) (fun _ _ => rfl) hW (lv_sub hl [0, 1, 2, 3, 4] rfl)
            · skip
              rw [t_le, show (0 : Int32).toInt = 0 from by decide] at c31
              refine lv_aload_n hx hb dX11_row_34 rfl (lv_at hl 0 rfl) ?_
              refine lv_iconst (v := 4) hx hb dX11_row_35 (by decide) ?_
              refine r_calll hW hA (va_runV (As := [.int 4]) (rest := []) ⟨hx, hb, hml, hown, hts⟩ (t_X11_found l D G S _ hG hP 4) (cwV 1 hts gX11_row_X11_found rfl rfl rfl (by decide +kernel) ⟨Nat.le_of_ble_eq_true rfl, Nat.le_of_ble_eq_true rfl⟩) (r_preV (k := 65) hA hW (ci := 10) (C := RX11) (T := TX11) (N := 20) rfl rfl (g_lt hG (by decide)) (g_kd hG (by decide) rfl) rfl rfl) rfl rfl hl.1 rfl (lv_room (Nat.le_of_ble_eq_true rfl)) dX11_row_36 ⟨Nat.zero_le _, Nat.zero_le _⟩) (fun r36 S36 H locs hp36 hW => ?_)
              obtain ⟨hs36, rfl⟩ := hp36
              rw [hs36] at hW
              rw [← hQ0]
              refine r_lret hx hb hr hlocks hW ?_ dX11_row_39
              refine ⟨?_, (fun j hj => (congrFun (e_is _ _ _) j).trans ((up_n _ _ hj).trans rfl)), (Ch.ri Ch.rf (by omega))⟩
              have e : fRow it la le st a1 a2 a3 = (FND 4, it, la, le, 4) := by unfold fRow; rw [if_pos (by omega), if_pos (by omega)]
              rw [e]; dsimp only
              refine ⟨?_, congrFun (e_is _ _ _) 4, rfl, (Ch.ri Ch.rf (by omega))⟩
              intro j hj
              obtain ⟨y1, y2, y3⟩ := hR j hj
              exact ⟨(congrFun (e_in (by omega) rfl) j).trans y1, (congrFun (e_in (by omega) rfl) j).trans y2, fun i hi => (congrFun (e_in (by omega) rfl) (40 * j + i)).trans (y3 i hi)⟩
          · skip
            rw [t_le, show (40 : Int32).toInt = 40 from by decide] at c23
            refine lv_ldc2 (v := (-9000000000000000001)) hx hb hown q4 dX11_row_26 ?_
            rw [← hQ0]
            refine r_lret hx hb hr hlocks hW ?_ dX11_row_29
            refine ⟨?_, (fun j hj => rfl), Ch.rf⟩
            have e : fRow it la le st a1 a2 a3 = (BADL, it, la, le, st) := by unfold fRow; rw [if_neg (by omega)]
            rw [e]; dsimp only
            exact ⟨hR, hst, rfl, Ch.rf⟩
      · skip
        refine lv_if_eq (tgt := 26) hx hb dX11_row_17 (by decide) (fun c17 => ?_) (fun c17 => ?_)
        · skip
          refine lv_ldc2 (v := (-9000000000000000001)) hx hb hown q4 dX11_row_26 ?_
          rw [← hQ0]
          refine r_lret hx hb hr hlocks hW ?_ dX11_row_29
          refine ⟨?_, (fun j hj => rfl), Ch.rf⟩
          have e : fRow it la le st a1 a2 a3 = (BADL, it, la, le, st) := by unfold fRow; rw [if_neg (by omega)]
          rw [e]; dsimp only
          exact ⟨hR, hst, rfl, Ch.rf⟩
        · exact absurd (by decide) c17
  · skip
    refine lv_if_eq (tgt := 26) hx hb dX11_row_5 (by decide) (fun c5 => ?_) (fun c5 => ?_)
    · skip
      refine lv_ldc2 (v := (-9000000000000000001)) hx hb hown q4 dX11_row_26 ?_
      rw [← hQ0]
      refine r_lret hx hb hr hlocks hW ?_ dX11_row_29
      refine ⟨?_, (fun j hj => rfl), Ch.rf⟩
      have e : fRow it la le st a1 a2 a3 = (BADL, it, la, le, st) := by unfold fRow; rw [if_neg (by omega)]
      rw [e]; dsimp only
      exact ⟨hR, hst, rfl, Ch.rf⟩
    · exact absurd (by decide) c5

set_option maxHeartbeats 4000000 in
set_option maxRecDepth 100000 in
theorem t_X11_set_s (l : Launch) (D : Dc) (G : Gg) (S : Sg) (z : Nat) (hG : GrG G) (hP : GrP G S) (it : Nat → Nat → Int32) (la le : Nat → Int32) (hR : RowsM S it la le) (hL : LeOK le) (st : Int32) (hst : gi S 65 4 = st) (a1 a2 a3 : Int32) : ML l yX11_set wsX11_set rmX11_set D G S z [.ref (gA G 65), .int a1, .int a2, .int a3] (fun r S' => (RowsM S' (fSet it la le st a1 a2 a3).2.1 la le ∧ gi S' 65 4 = (fSet it la le st a1 a2 a3).2.2 ∧ r = (fSet it la le st a1 a2 a3).1 ∧ Ch (fun k => 65 ≤ k ∧ k ≤ 74) S S') ∧ ((∀ j, j ≠ 4 → gi S' 65 j = gi S 65 j) ∧ Ch (fun k => k = 65 ∨ (67 ≤ k ∧ k ≤ 70)) S S')) := by
  refine Met.ofW (cc := cX11_set) (maxL := 4) (ret := (some .long)) (by decide +kernel) rfl ?_
  intro pP eE s mM args bl mT cD s₁ bD hml hv
  obtain ⟨rfl, hv⟩ := hv
  have hz := hv.1
  subst hz
  have hx := bD.exec
  have hb := bD.bytes
  have hr := bD.returns
  have hts := atoms_spec (ws := wsX11_set) bD.pre
  have hown : s.vm.findClass RX11 = some mM.cls := findClass_of_methodNamed bD.named
  have hlocks := bD.notSynchronized
  have hW := Wd.start hv
  have hA : ∀ q, s.heap.size ≤ q → AW G s.heap.size q := fun q h => Or.inr h
  have hl := lv_entry ([.ref (gA G 65), .int a1, .int a2, .int a3]) (n := 4) (Nat.le_of_ble_eq_true rfl)
  rw [lg_entry_eq]
  generalize (lg_sl ([.ref (gA G 65), .int a1, .int a2, .int a3]) ++ List.replicate (4 - (lg_sl ([.ref (gA G 65), .int a1, .int a2, .int a3])).length) Slot.unset).toArray = ls at hl ⊢
  have hl : lv_has ls 4 [(0, .ref (gA G 65)), (1, .int a1), (2, .int a2), (3, .int a3)] := hl
  have q0 := hts (.fieldLink RX11 20 "WoodForTwoModel" "length" "[I") (List.mem_of_getElem? (i := 2) rfl)
  have q1 := hts (.fieldLink RX11 13 "WoodForTwoModel" "items" "[I") (List.mem_of_getElem? (i := 3) rfl)
  have q2 := hts (.fieldLink RX11 17 "WoodForTwoModel" "lane" "[I") (List.mem_of_getElem? (i := 4) rfl)
  have q3 := hts (.constantLong RX11 56 (-9000000000000000001)) (List.mem_of_getElem? (i := 1) rfl)
  have iX11 : ∀ w ∈ wsX110, w ∈ wsX11_set := fun _ h => List.mem_cons_of_mem _ (List.mem_append_right _ (h))
  refine lv_aload_n hx hb dX11_set_0 rfl (lv_at hl 0 rfl) ?_
  refine lv_iload_n hx hb dX11_set_1 rfl (lv_at hl 1 rfl) ?_
  refine r_calli hW hA (va_runV (As := [.int a1]) (rest := []) ⟨hx, hb, hml, hown, hts⟩ (t_X11_isRow l D G S _ hG hP a1) (cwV 1 hts gX11_set_X11_isRow rfl rfl rfl (by decide +kernel) ⟨Nat.le_of_ble_eq_true rfl, Nat.le_of_ble_eq_true rfl⟩) (r_preV (k := 65) hA hW (ci := 10) (C := RX11) (T := TX11) (N := 20) rfl rfl (g_lt hG (by decide)) (g_kd hG (by decide) rfl) rfl rfl) rfl rfl hl.1 rfl (lv_room (Nat.le_of_ble_eq_true rfl)) dX11_set_2 ⟨Nat.zero_le _, Nat.zero_le _⟩) (fun r2 S2 H locs hp2 hW => ?_)
  obtain ⟨hs2, hp2⟩ := hp2
  rw [hs2] at hW
  rcases hp2 with ⟨rfl, h2⟩ | ⟨rfl, h2⟩
  · skip
    refine lv_if_ne (tgt := 12) hx hb dX11_set_5 (by decide) (fun c5 => ?_) (fun c5 => ?_)
    · skip
      have hn_a1 := n_nat (x := a1) (by omega)
      have hr_a1 := hR a1.toNatClampNeg (by omega)
      have hle_a1 := hL a1.toNatClampNeg (by omega)
      have hgl : (gi S 69 a1.toNatClampNeg).toInt = (le a1.toNatClampNeg).toInt := by rw [hr_a1.2.1]
      refine lv_aload_n hx hb dX11_set_12 rfl (lv_at hl 0 rfl) ?_
      refine r_getr (ci := 10) (C := RX11) (T := TX11) (N := 20) hx hb hts iX11 hown hW rfl 65 3 rfl (g_lt hG (by decide)) (g_kd hG (by decide) rfl) (by decide) q0 (fun _ h9 => h9) (hP _ (List.mem_of_getElem? (i := 63) rfl)) rfl rfl dX11_set_13 ?_
      refine lv_iload_n hx hb dX11_set_16 rfl (lv_at hl 1 rfl) ?_
      refine r_iald hx hb hW 69 rfl (g_lt hG (by decide)) (g_kd hG (by decide) rfl) (g_ix hG (c := 8) (by decide) rfl (t_in (by omega) (by omega))) ((gi S 69) (a1).toNatClampNeg) rfl dX11_set_17 ?_
      refine lv_if_ge (tgt := 27) hx hb dX11_set_18 (by decide) (fun c18 => ?_) (fun c18 => ?_)
      · skip
        rw [t_le, show (0 : Int32).toInt = 0 from by decide] at c18
        have hsub : (gi S 69 a1.toNatClampNeg - 1).toInt = (gi S 69 a1.toNatClampNeg).toInt - 1 := by rw [hr_a1.2.1]; exact t_sub (by rw [show (1 : Int32).toInt = 1 from by decide]; omega) (by rw [show (1 : Int32).toInt = 1 from by decide]; omega)
        refine lv_iload_n hx hb dX11_set_27 rfl (lv_at hl 2 rfl) ?_
        refine lv_i2l hx hb dX11_set_28 rfl ?_
        refine lv_lconst (v := 0) hx hb dX11_set_29 (by decide) ?_
        refine lv_aload_n hx hb dX11_set_30 rfl (lv_at hl 0 rfl) ?_
        refine r_getr (ci := 10) (C := RX11) (T := TX11) (N := 20) hx hb hts iX11 hown hW rfl 65 3 rfl (g_lt hG (by decide)) (g_kd hG (by decide) rfl) (by decide) q0 (fun _ h9 => h9) (hP _ (List.mem_of_getElem? (i := 63) rfl)) rfl rfl dX11_set_31 ?_
        refine lv_iload_n hx hb dX11_set_34 rfl (lv_at hl 1 rfl) ?_
        refine r_iald hx hb hW 69 rfl (g_lt hG (by decide)) (g_kd hG (by decide) rfl) (g_ix hG (c := 8) (by decide) rfl (t_in (by omega) (by omega))) ((gi S 69) (a1).toNatClampNeg) rfl dX11_set_35 ?_
        refine lv_iconst (v := 1) hx hb dX11_set_36 (by decide) ?_
        refine lv_isub hx hb dX11_set_37 ?_
        refine lv_i2l hx hb dX11_set_38 rfl ?_
        refine r_calli hW hA (va_runS (As := [.long (Int32.toInt64 a2), .long 0, .long (Int32.toInt64 (((gi S 69) (a1).toNatClampNeg) - 1))]) (rest := []) ⟨hx, hb, hml, hown, hts⟩ (t_X11_in l D G S _ (Int32.toInt64 a2) 0 (Int32.toInt64 (((gi S 69) (a1).toNatClampNeg) - 1)) (a2).toInt 0 ((((gi S 69) (a1).toNatClampNeg) - 1)).toInt (Int32.toInt_toInt64 _) (by decide) (Int32.toInt_toInt64 _)) (va_cwS 3 hts gX11_set_X11_in rfl rfl rfl (by decide +kernel) ⟨Nat.le_of_ble_eq_true rfl, Nat.le_of_ble_eq_true rfl⟩) (r_preS hA hW) rfl rfl hl.1 rfl (lv_room (Nat.le_of_ble_eq_true rfl)) dX11_set_39 ⟨Nat.zero_le _, Nat.zero_le _⟩) (fun r39 S39 H locs hp39 hW => ?_)
        obtain ⟨hs39, hp39⟩ := hp39
        rw [hs39] at hW
        rcases hp39 with ⟨rfl, h39⟩ | ⟨rfl, h39⟩
        · skip
          refine lv_if_ne (tgt := 51) hx hb dX11_set_42 (by decide) (fun c42 => ?_) (fun c42 => ?_)
          · skip
            rw [hsub] at h39
            have hn_a2 := n_nat (x := a2) (by omega)
            rw [hr_a1.2.1] at h39
            have hle40 : (le a1.toNatClampNeg).toInt ≤ 40 := by omega
            refine lv_aload_n hx hb dX11_set_51 rfl (lv_at hl 0 rfl) ?_
            refine r_getr (ci := 10) (C := RX11) (T := TX11) (N := 20) hx hb hts iX11 hown hW rfl 65 1 rfl (g_lt hG (by decide)) (g_kd hG (by decide) rfl) (by decide) q1 (fun _ h9 => h9) (hP _ (List.mem_of_getElem? (i := 61) rfl)) rfl rfl dX11_set_52 ?_
            refine lv_bipush (v := 40) hx hb dX11_set_55 (by decide) ?_
            refine lv_iload_n hx hb dX11_set_57 rfl (lv_at hl 1 rfl) ?_
            refine lv_imul hx hb dX11_set_58 ?_
            refine lv_iload_n hx hb dX11_set_59 rfl (lv_at hl 2 rfl) ?_
            refine lv_iadd hx hb dX11_set_60 ?_
            rw [show ((40 * a1) + a2 : Int32) = (nI (40 * a1.toNatClampNeg + a2.toNatClampNeg)) from ix40 (by omega) (by omega)]
            refine lv_aload_n hx hb dX11_set_61 rfl (lv_at hl 0 rfl) ?_
            refine r_getr (ci := 10) (C := RX11) (T := TX11) (N := 20) hx hb hts iX11 hown hW rfl 65 2 rfl (g_lt hG (by decide)) (g_kd hG (by decide) rfl) (by decide) q2 (fun _ h9 => h9) (hP _ (List.mem_of_getElem? (i := 62) rfl)) rfl rfl dX11_set_62 ?_
            refine lv_iload_n hx hb dX11_set_65 rfl (lv_at hl 1 rfl) ?_
            refine r_iald hx hb hW 68 rfl (g_lt hG (by decide)) (g_kd hG (by decide) rfl) (g_ix hG (c := 8) (by decide) rfl (t_in (by omega) (by omega))) ((gi S 68) (a1).toNatClampNeg) rfl dX11_set_66 ?_
            refine lv_iload_n hx hb dX11_set_67 rfl (lv_at hl 3 rfl) ?_
            refine r_calli hW hA (va_runS (As := [.int ((gi S 68) (a1).toNatClampNeg), .int a3]) (rest := [.int (nI (40 * a1.toNatClampNeg + a2.toNatClampNeg)), .ref (gA G 67)]) ⟨hx, hb, hml, hown, hts⟩ (t_X11_held l D G S _ ((gi S 68) (a1).toNatClampNeg) a3) (va_cwS 2 hts gX11_set_X11_held rfl rfl rfl (by decide +kernel) ⟨Nat.le_of_ble_eq_true rfl, Nat.le_of_ble_eq_true rfl⟩) (r_preS hA hW) rfl rfl hl.1 rfl (lv_room (Nat.le_of_ble_eq_true rfl)) dX11_set_68 ⟨Nat.zero_le _, Nat.zero_le _⟩) (fun r68 S68 H locs hp68 hW => ?_)
            obtain ⟨hs68, rfl⟩ := hp68
            rw [hs68] at hW
            refine r_iast hx hb hW 67 rfl (g_lt hG (by decide)) (g_kd hG (by decide) rfl) (g_ix hG (c := 320) (by decide) rfl (n_inI (by omega) (by decide))) (ri S 67 (va_up (gi S 67) ((nI (40 * a1.toNatClampNeg + a2.toNatClampNeg))).toNatClampNeg (lowB ((gi S 68) (a1).toNatClampNeg) a3))) (gi S 67) rfl (e_is _ _ _) rfl rfl c_i0 dX11_set_71 (fun H locs hW => ?_)
            rw [show ((nI (40 * a1.toNatClampNeg + a2.toNatClampNeg))).toNatClampNeg = (40 * a1.toNatClampNeg + a2.toNatClampNeg) from n_clamp (by omega)] at hW
            refine lv_aload_n hx hb dX11_set_72 rfl (lv_at hl 0 rfl) ?_
            refine lv_aload_n hx hb dX11_set_73 rfl (lv_at hl 0 rfl) ?_
            refine r_getr (ci := 10) (C := RX11) (T := TX11) (N := 20) hx hb hts iX11 hown hW rfl 65 1 rfl (g_lt hG (by decide)) (g_kd hG (by decide) rfl) (by decide) q1 (fun _ h9 => h9) (hP _ (List.mem_of_getElem? (i := 61) rfl)) rfl rfl dX11_set_74 ?_
            refine lv_bipush (v := 40) hx hb dX11_set_77 (by decide) ?_
            refine lv_iload_n hx hb dX11_set_79 rfl (lv_at hl 1 rfl) ?_
            refine lv_imul hx hb dX11_set_80 ?_
            refine lv_iload_n hx hb dX11_set_81 rfl (lv_at hl 2 rfl) ?_
            refine lv_iadd hx hb dX11_set_82 ?_
            rw [show ((40 * a1) + a2 : Int32) = (nI (40 * a1.toNatClampNeg + a2.toNatClampNeg)) from ix40 (by omega) (by omega)]
            refine r_iald hx hb hW 67 rfl (g_lt hG (by decide)) (g_kd hG (by decide) rfl) (g_ix hG (c := 320) (by decide) rfl (n_inI (by omega) (by decide))) ((va_up (gi S 67) (40 * a1.toNatClampNeg + a2.toNatClampNeg) (lowB ((gi S 68) (a1).toNatClampNeg) a3)) (40 * a1.toNatClampNeg + a2.toNatClampNeg)) ((congrFun (e_is _ _ _) _).trans (congrArg (va_up (gi S 67) (40 * a1.toNatClampNeg + a2.toNatClampNeg) (lowB ((gi S 68) (a1).toNatClampNeg) a3)) (n_clamp (by omega)))) dX11_set_83 ?_
            refine lv_i2l hx hb dX11_set_84 rfl ?_
            refine r_calll hW hA (va_runV (As := [.long (Int32.toInt64 ((va_up (gi S 67) (40 * a1.toNatClampNeg + a2.toNatClampNeg) (lowB ((gi S 68) (a1).toNatClampNeg) a3)) (40 * a1.toNatClampNeg + a2.toNatClampNeg)))]) (rest := []) ⟨hx, hb, hml, hown, hts⟩ (t_X11_good l D G (ri S 67 (va_up (gi S 67) (40 * a1.toNatClampNeg + a2.toNatClampNeg) (lowB ((gi S 68) (a1).toNatClampNeg) a3))) _ hG hP (Int32.toInt64 ((va_up (gi S 67) (40 * a1.toNatClampNeg + a2.toNatClampNeg) (lowB ((gi S 68) (a1).toNatClampNeg) a3)) (40 * a1.toNatClampNeg + a2.toNatClampNeg)))) (cwV 1 hts gX11_set_X11_good rfl rfl rfl (by decide +kernel) ⟨Nat.le_of_ble_eq_true rfl, Nat.le_of_ble_eq_true rfl⟩) (r_preV (k := 65) hA hW (ci := 10) (C := RX11) (T := TX11) (N := 20) rfl rfl (g_lt hG (by decide)) (g_kd hG (by decide) rfl) rfl rfl) rfl rfl hl.1 rfl (lv_room (Nat.le_of_ble_eq_true rfl)) dX11_set_85 ⟨Nat.zero_le _, Nat.zero_le _⟩) (fun r85 S85 H locs hp85 hW => ?_)
            obtain ⟨hs85, rfl⟩ := hp85
            rw [hs85] at hW
            refine r_lret hx hb hr hlocks hW ?_ dX11_set_88
            refine ⟨?_, (fun j hj => (congrFun (e_is _ _ _) j).trans ((up_n _ _ hj).trans rfl)), (Ch.ri (Ch.ri Ch.rf (by omega)) (by omega))⟩
            have ef : fos (le a1.toNatClampNeg) a2 1 = 0 := by unfold fos; rw [if_neg (by omega), if_pos (by rw [show (1 : Int32).toInt = 1 from by decide]; omega)]
            have e : fSet it la le st a1 a2 a3 = ((lowB (la a1.toNatClampNeg) a3).toInt64, va_up it a1.toNatClampNeg (va_up (it a1.toNatClampNeg) a2.toNatClampNeg (lowB (la a1.toNatClampNeg) a3)), 0) := by unfold fSet; rw [if_pos (by omega), if_pos ef]
            rw [e, ← hr_a1.1]; dsimp only
            refine ⟨?_, rfl, by rw [up_s], (Ch.ri (Ch.ri Ch.rf (by omega)) (by omega))⟩
            intro j hj
            obtain ⟨y1, y2, y3⟩ := hR j hj
            refine ⟨?_, ?_, fun i hi => ?_⟩
            · refine Eq.trans ?_ y1; simp only [gi_ri]; rw [up_n _ _ (by omega), up_n _ _ (by omega)]
            · refine Eq.trans ?_ y2; simp only [gi_ri]; rw [up_n _ _ (by omega), up_n _ _ (by omega)]
            · rw [(e_in (by decide) (e_is _ _ _))]
              by_cases hja : j = a1.toNatClampNeg
              · rw [hja, up_s]
                by_cases hia : i = a2.toNatClampNeg
                · rw [hia, up_s, up_s]
                · rw [up_n _ _ (by omega), up_n _ _ hia]; exact hr_a1.2.2 i hi
              · rw [up_n _ _ hja, up_n _ _ (by omega)]; exact y3 i hi
          · exact absurd c42 (by decide)
        · skip
          refine lv_if_ne (tgt := 51) hx hb dX11_set_42 (by decide) (fun c42 => ?_) (fun c42 => ?_)
          · exact absurd (by decide) c42
          · skip
            rw [hsub] at h39
            refine lv_aload_n hx hb dX11_set_45 rfl (lv_at hl 0 rfl) ?_
            refine lv_iconst (v := 2) hx hb dX11_set_46 (by decide) ?_
            refine r_calll hW hA (va_runV (As := [.int 2]) (rest := []) ⟨hx, hb, hml, hown, hts⟩ (t_X11_found l D G S _ hG hP 2) (cwV 1 hts gX11_set_X11_found rfl rfl rfl (by decide +kernel) ⟨Nat.le_of_ble_eq_true rfl, Nat.le_of_ble_eq_true rfl⟩) (r_preV (k := 65) hA hW (ci := 10) (C := RX11) (T := TX11) (N := 20) rfl rfl (g_lt hG (by decide)) (g_kd hG (by decide) rfl) rfl rfl) rfl rfl hl.1 rfl (lv_room (Nat.le_of_ble_eq_true rfl)) dX11_set_47 ⟨Nat.zero_le _, Nat.zero_le _⟩) (fun r47 S47 H locs hp47 hW => ?_)
            obtain ⟨hs47, rfl⟩ := hp47
            rw [hs47] at hW
            refine r_lret hx hb hr hlocks hW ?_ dX11_set_50
            refine ⟨?_, (fun j hj => (congrFun (e_is _ _ _) j).trans ((up_n _ _ hj).trans rfl)), (Ch.ri Ch.rf (by omega))⟩
            have ef : fos (le a1.toNatClampNeg) a2 1 = 2 := by unfold fos; rw [if_neg (by omega), if_neg (by rw [show (1 : Int32).toInt = 1 from by decide]; omega)]
            have e : fSet it la le st a1 a2 a3 = (FND 2, it, 2) := by unfold fSet; rw [if_pos (by omega), ef, if_neg (by decide)]
            rw [e]; dsimp only
            refine ⟨?_, congrFun (e_is _ _ _) 4, rfl, (Ch.ri Ch.rf (by omega))⟩
            intro j hj
            obtain ⟨y1, y2, y3⟩ := hR j hj
            exact ⟨(congrFun (e_in (by omega) rfl) j).trans y1, (congrFun (e_in (by omega) rfl) j).trans y2, fun i hi => (congrFun (e_in (by omega) rfl) (40 * j + i)).trans (y3 i hi)⟩
      · skip
        rw [t_le, show (0 : Int32).toInt = 0 from by decide] at c18
        refine lv_aload_n hx hb dX11_set_21 rfl (lv_at hl 0 rfl) ?_
        refine lv_iconst (v := 1) hx hb dX11_set_22 (by decide) ?_
        refine r_calll hW hA (va_runV (As := [.int 1]) (rest := []) ⟨hx, hb, hml, hown, hts⟩ (t_X11_found l D G S _ hG hP 1) (cwV 1 hts gX11_set_X11_found rfl rfl rfl (by decide +kernel) ⟨Nat.le_of_ble_eq_true rfl, Nat.le_of_ble_eq_true rfl⟩) (r_preV (k := 65) hA hW (ci := 10) (C := RX11) (T := TX11) (N := 20) rfl rfl (g_lt hG (by decide)) (g_kd hG (by decide) rfl) rfl rfl) rfl rfl hl.1 rfl (lv_room (Nat.le_of_ble_eq_true rfl)) dX11_set_23 ⟨Nat.zero_le _, Nat.zero_le _⟩) (fun r23 S23 H locs hp23 hW => ?_)
        obtain ⟨hs23, rfl⟩ := hp23
        rw [hs23] at hW
        refine r_lret hx hb hr hlocks hW ?_ dX11_set_26
        refine ⟨?_, (fun j hj => (congrFun (e_is _ _ _) j).trans ((up_n _ _ hj).trans rfl)), (Ch.ri Ch.rf (by omega))⟩
        have ef : fos (le a1.toNatClampNeg) a2 1 = 1 := by unfold fos; rw [if_pos (by omega)]
        have e : fSet it la le st a1 a2 a3 = (FND 1, it, 1) := by unfold fSet; rw [if_pos (by omega), ef, if_neg (by decide)]
        rw [e]; dsimp only
        refine ⟨?_, congrFun (e_is _ _ _) 4, rfl, (Ch.ri Ch.rf (by omega))⟩
        intro j hj
        obtain ⟨y1, y2, y3⟩ := hR j hj
        exact ⟨(congrFun (e_in (by omega) rfl) j).trans y1, (congrFun (e_in (by omega) rfl) j).trans y2, fun i hi => (congrFun (e_in (by omega) rfl) (40 * j + i)).trans (y3 i hi)⟩
    · exact absurd c5 (by decide)
  · skip
    refine lv_if_ne (tgt := 12) hx hb dX11_set_5 (by decide) (fun c5 => ?_) (fun c5 => ?_)
    · exact absurd (by decide) c5
    · skip
      refine lv_ldc2 (v := (-9000000000000000001)) hx hb hown q3 dX11_set_8 ?_
      refine r_lret hx hb hr hlocks hW ?_ dX11_set_11
      refine ⟨?_, (fun j hj => rfl), Ch.rf⟩
      have e : fSet it la le st a1 a2 a3 = (BADL, it, st) := by unfold fSet; rw [if_neg (by omega)]
      rw [e]; dsimp only
      exact ⟨hR, hst, rfl, Ch.rf⟩

set_option maxHeartbeats 4000000 in
set_option maxRecDepth 100000 in
theorem t_X11_copy_s (l : Launch) (D : Dc) (G : Gg) (S : Sg) (z : Nat) (hG : GrG G) (hP : GrP G S) (it : Nat → Nat → Int32) (la le : Nat → Int32) (hR : RowsM S it la le) (hL : LeOK le) (st : Int32) (hst : gi S 65 4 = st) (a1 a2 a3 a4 a5 : Int32) : ML l yX11_copy wsX11_copy rmX11_copy D G S z [.ref (gA G 65), .int a1, .int a2, .int a3, .int a4, .int a5] (fun r S' => (RowsM S' (fCopy it la le st a1 a2 a3 a4 a5).2.1 la le ∧ gi S' 65 4 = (fCopy it la le st a1 a2 a3 a4 a5).2.2 ∧ r = (fCopy it la le st a1 a2 a3 a4 a5).1 ∧ Ch (fun k => 65 ≤ k ∧ k ≤ 74) S S') ∧ ((∀ j, j ≠ 4 → gi S' 65 j = gi S 65 j) ∧ Ch (fun k => k = 65 ∨ (67 ≤ k ∧ k ≤ 70)) S S')) := by
  refine Met.ofW (cc := cX11_copy) (maxL := 7) (ret := (some .long)) (by decide +kernel) rfl ?_
  intro pP eE s mM args bl mT cD s₁ bD hml hv
  obtain ⟨rfl, hv⟩ := hv
  have hz := hv.1
  subst hz
  have hx := bD.exec
  have hb := bD.bytes
  have hr := bD.returns
  have hts := atoms_spec (ws := wsX11_copy) bD.pre
  have hown : s.vm.findClass RX11 = some mM.cls := findClass_of_methodNamed bD.named
  have hlocks := bD.notSynchronized
  have hW := Wd.start hv
  have hA : ∀ q, s.heap.size ≤ q → AW G s.heap.size q := fun q h => Or.inr h
  have hl := lv_entry ([.ref (gA G 65), .int a1, .int a2, .int a3, .int a4, .int a5]) (n := 7) (Nat.le_of_ble_eq_true rfl)
  rw [lg_entry_eq]
  generalize (lg_sl ([.ref (gA G 65), .int a1, .int a2, .int a3, .int a4, .int a5]) ++ List.replicate (7 - (lg_sl ([.ref (gA G 65), .int a1, .int a2, .int a3, .int a4, .int a5])).length) Slot.unset).toArray = ls at hl ⊢
  have hl : lv_has ls 7 [(0, .ref (gA G 65)), (1, .int a1), (2, .int a2), (3, .int a3), (4, .int a4), (5, .int a5)] := hl
  have q0 := hts (.fieldLink RX11 20 "WoodForTwoModel" "length" "[I") (List.mem_of_getElem? (i := 2) rfl)
  have q1 := hts (.fieldLink RX11 17 "WoodForTwoModel" "lane" "[I") (List.mem_of_getElem? (i := 3) rfl)
  have q2 := hts (.fieldLink RX11 13 "WoodForTwoModel" "items" "[I") (List.mem_of_getElem? (i := 5) rfl)
  have q3 := hts (.fieldLink RX11 23 "WoodForTwoModel" "spare" "[I") (List.mem_of_getElem? (i := 4) rfl)
  have q4 := hts (.constantLong RX11 56 (-9000000000000000001)) (List.mem_of_getElem? (i := 1) rfl)
  have iX11 : ∀ w ∈ wsX110, w ∈ wsX11_copy := fun _ h => List.mem_cons_of_mem _ (List.mem_append_right _ (h))
  generalize hQ0 : MQ bl _ _ s _ _ _ = Q0
  refine lv_aload_n hx hb dX11_copy_0 rfl (lv_at hl 0 rfl) ?_
  refine lv_iload_n hx hb dX11_copy_1 rfl (lv_at hl 1 rfl) ?_
  refine r_calli hW hA (va_runV (As := [.int a1]) (rest := []) ⟨hx, hb, hml, hown, hts⟩ (t_X11_isRow l D G S _ hG hP a1) (cwV 1 hts gX11_copy_X11_isRow rfl rfl rfl (by decide +kernel) ⟨Nat.le_of_ble_eq_true rfl, Nat.le_of_ble_eq_true rfl⟩) (r_preV (k := 65) hA hW (ci := 10) (C := RX11) (T := TX11) (N := 20) rfl rfl (g_lt hG (by decide)) (g_kd hG (by decide) rfl) rfl rfl) rfl rfl hl.1 rfl (lv_room (Nat.le_of_ble_eq_true rfl)) dX11_copy_2 ⟨Nat.zero_le _, Nat.zero_le _⟩) (fun r2 S2 H locs hp2 hW => ?_)
  obtain ⟨hs2, hp2⟩ := hp2
  rw [hs2] at hW
  rcases hp2 with ⟨rfl, h2⟩ | ⟨rfl, h2⟩
  · skip
    refine lv_if_eq (tgt := 16) hx hb dX11_copy_5 (by decide) (fun c5 => ?_) (fun c5 => ?_)
    · exact absurd c5 (by decide)
    · skip
      refine lv_aload_n hx hb dX11_copy_8 rfl (lv_at hl 0 rfl) ?_
      refine lv_iload_n hx hb dX11_copy_9 rfl (lv_at hl 3 rfl) ?_
      refine r_calli hW hA (va_runV (As := [.int a3]) (rest := []) ⟨hx, hb, hml, hown, hts⟩ (t_X11_isRow l D G S _ hG hP a3) (cwV 1 hts gX11_copy_X11_isRow rfl rfl rfl (by decide +kernel) ⟨Nat.le_of_ble_eq_true rfl, Nat.le_of_ble_eq_true rfl⟩) (r_preV (k := 65) hA hW (ci := 10) (C := RX11) (T := TX11) (N := 20) rfl rfl (g_lt hG (by decide)) (g_kd hG (by decide) rfl) rfl rfl) rfl rfl hl.1 rfl (lv_room (Nat.le_of_ble_eq_true rfl)) dX11_copy_10 ⟨Nat.zero_le _, Nat.zero_le _⟩) (fun r10 S10 H locs hp10 hW => ?_)
      obtain ⟨hs10, hp10⟩ := hp10
      rw [hs10] at hW
      rcases hp10 with ⟨rfl, h10⟩ | ⟨rfl, h10⟩
      · skip
        refine lv_if_ne (tgt := 20) hx hb dX11_copy_13 (by decide) (fun c13 => ?_) (fun c13 => ?_)
        · skip
          have hn_a1 := n_nat (x := a1) (by omega)
          have hr_a1 := hR a1.toNatClampNeg (by omega)
          have hle_a1 := hL a1.toNatClampNeg (by omega)
          have hn_a3 := n_nat (x := a3) (by omega)
          have hr_a3 := hR a3.toNatClampNeg (by omega)
          have hle_a3 := hL a3.toNatClampNeg (by omega)
          refine lv_aload_n hx hb dX11_copy_20 rfl (lv_at hl 0 rfl) ?_
          refine r_getr (ci := 10) (C := RX11) (T := TX11) (N := 20) hx hb hts iX11 hown hW rfl 65 3 rfl (g_lt hG (by decide)) (g_kd hG (by decide) rfl) (by decide) q0 (fun _ h9 => h9) (hP _ (List.mem_of_getElem? (i := 63) rfl)) rfl rfl dX11_copy_21 ?_
          refine lv_iload_n hx hb dX11_copy_24 rfl (lv_at hl 1 rfl) ?_
          refine r_iald hx hb hW 69 rfl (g_lt hG (by decide)) (g_kd hG (by decide) rfl) (g_ix hG (c := 8) (by decide) rfl (t_in (by omega) (by omega))) ((gi S 69) (a1).toNatClampNeg) rfl dX11_copy_25 ?_
          refine lv_if_lt (tgt := 38) hx hb dX11_copy_26 (by decide) (fun c26 => ?_) (fun c26 => ?_)
          · skip
            rw [t_lt, show (0 : Int32).toInt = 0 from by decide] at c26
            refine lv_aload_n hx hb dX11_copy_38 rfl (lv_at hl 0 rfl) ?_
            refine lv_iconst (v := 1) hx hb dX11_copy_39 (by decide) ?_
            refine r_calll hW hA (va_runV (As := [.int 1]) (rest := []) ⟨hx, hb, hml, hown, hts⟩ (t_X11_found l D G S _ hG hP 1) (cwV 1 hts gX11_copy_X11_found rfl rfl rfl (by decide +kernel) ⟨Nat.le_of_ble_eq_true rfl, Nat.le_of_ble_eq_true rfl⟩) (r_preV (k := 65) hA hW (ci := 10) (C := RX11) (T := TX11) (N := 20) rfl rfl (g_lt hG (by decide)) (g_kd hG (by decide) rfl) rfl rfl) rfl rfl hl.1 rfl (lv_room (Nat.le_of_ble_eq_true rfl)) dX11_copy_40 ⟨Nat.zero_le _, Nat.zero_le _⟩) (fun r40 S40 H locs hp40 hW => ?_)
            obtain ⟨hs40, rfl⟩ := hp40
            rw [hs40] at hW
            rw [← hQ0]
            refine r_lret hx hb hr hlocks hW ?_ dX11_copy_43
            refine ⟨?_, (fun j hj => (congrFun (e_is _ _ _) j).trans ((up_n _ _ hj).trans rfl)), (Ch.ri Ch.rf (by omega))⟩
            have e : fCopy it la le st a1 a2 a3 a4 a5 = (FND 1, it, 1) := by unfold fCopy; rw [if_pos (by omega), if_pos (by rw [← hr_a1.2.1, ← hr_a3.2.1]; rw [← hr_a1.2.1] at hle_a1; rw [← hr_a3.2.1] at hle_a3; omega)]
            rw [e]; dsimp only
            refine ⟨?_, congrFun (e_is _ _ _) 4, rfl, (Ch.ri Ch.rf (by omega))⟩
            intro j hj
            obtain ⟨y1, y2, y3⟩ := hR j hj
            exact ⟨(congrFun (e_in (by omega) rfl) j).trans y1, (congrFun (e_in (by omega) rfl) j).trans y2, fun i hi => (congrFun (e_in (by omega) rfl) (40 * j + i)).trans (y3 i hi)⟩
          · skip
            rw [t_lt, show (0 : Int32).toInt = 0 from by decide] at c26
            refine lv_aload_n hx hb dX11_copy_29 rfl (lv_at hl 0 rfl) ?_
            refine r_getr (ci := 10) (C := RX11) (T := TX11) (N := 20) hx hb hts iX11 hown hW rfl 65 3 rfl (g_lt hG (by decide)) (g_kd hG (by decide) rfl) (by decide) q0 (fun _ h9 => h9) (hP _ (List.mem_of_getElem? (i := 63) rfl)) rfl rfl dX11_copy_30 ?_
            refine lv_iload_n hx hb dX11_copy_33 rfl (lv_at hl 3 rfl) ?_
            refine r_iald hx hb hW 69 rfl (g_lt hG (by decide)) (g_kd hG (by decide) rfl) (g_ix hG (c := 8) (by decide) rfl (t_in (by omega) (by omega))) ((gi S 69) (a3).toNatClampNeg) rfl dX11_copy_34 ?_
            refine lv_if_ge (tgt := 44) hx hb dX11_copy_35 (by decide) (fun c35 => ?_) (fun c35 => ?_)
            · skip
              rw [t_le, show (0 : Int32).toInt = 0 from by decide] at c35
              refine lv_aload_n hx hb dX11_copy_44 rfl (lv_at hl 0 rfl) ?_
              refine r_getr (ci := 10) (C := RX11) (T := TX11) (N := 20) hx hb hts iX11 hown hW rfl 65 2 rfl (g_lt hG (by decide)) (g_kd hG (by decide) rfl) (by decide) q1 (fun _ h9 => h9) (hP _ (List.mem_of_getElem? (i := 62) rfl)) rfl rfl dX11_copy_45 ?_
              refine lv_iload_n hx hb dX11_copy_48 rfl (lv_at hl 1 rfl) ?_
              refine r_iald hx hb hW 68 rfl (g_lt hG (by decide)) (g_kd hG (by decide) rfl) (g_ix hG (c := 8) (by decide) rfl (t_in (by omega) (by omega))) ((gi S 68) (a1).toNatClampNeg) rfl dX11_copy_49 ?_
              refine lv_aload_n hx hb dX11_copy_50 rfl (lv_at hl 0 rfl) ?_
              refine r_getr (ci := 10) (C := RX11) (T := TX11) (N := 20) hx hb hts iX11 hown hW rfl 65 2 rfl (g_lt hG (by decide)) (g_kd hG (by decide) rfl) (by decide) q1 (fun _ h9 => h9) (hP _ (List.mem_of_getElem? (i := 62) rfl)) rfl rfl dX11_copy_51 ?_
              refine lv_iload_n hx hb dX11_copy_54 rfl (lv_at hl 3 rfl) ?_
              refine r_iald hx hb hW 68 rfl (g_lt hG (by decide)) (g_kd hG (by decide) rfl) (g_ix hG (c := 8) (by decide) rfl (t_in (by omega) (by omega))) ((gi S 68) (a3).toNatClampNeg) rfl dX11_copy_55 ?_
              refine lv_icmp_eq (tgt := 65) hx hb dX11_copy_56 (by decide) (fun c56 => ?_) (fun c56 => ?_)
              · skip
                rw [t_eq] at c56
                refine lv_iload_n hx hb dX11_copy_65 rfl (lv_at hl 2 rfl) ?_
                refine lv_iload hx hb dX11_copy_66 (lv_at hl 5 rfl) ?_
                refine lv_aload_n hx hb dX11_copy_68 rfl (lv_at hl 0 rfl) ?_
                refine r_getr (ci := 10) (C := RX11) (T := TX11) (N := 20) hx hb hts iX11 hown hW rfl 65 3 rfl (g_lt hG (by decide)) (g_kd hG (by decide) rfl) (by decide) q0 (fun _ h9 => h9) (hP _ (List.mem_of_getElem? (i := 63) rfl)) rfl rfl dX11_copy_69 ?_
                refine lv_iload_n hx hb dX11_copy_72 rfl (lv_at hl 1 rfl) ?_
                refine r_iald hx hb hW 69 rfl (g_lt hG (by decide)) (g_kd hG (by decide) rfl) (g_ix hG (c := 8) (by decide) rfl (t_in (by omega) (by omega))) ((gi S 69) (a1).toNatClampNeg) rfl dX11_copy_73 ?_
                refine r_calli hW hA (va_runS (As := [.int a2, .int a5, .int ((gi S 69) (a1).toNatClampNeg)]) (rest := []) ⟨hx, hb, hml, hown, hts⟩ (t_X11_isWithin l D G S _ a2 a5 ((gi S 69) (a1).toNatClampNeg)) (va_cwS 3 hts gX11_copy_X11_isWithin rfl rfl rfl (by decide +kernel) ⟨Nat.le_of_ble_eq_true rfl, Nat.le_of_ble_eq_true rfl⟩) (r_preS hA hW) rfl rfl hl.1 rfl (lv_room (Nat.le_of_ble_eq_true rfl)) dX11_copy_74 ⟨Nat.zero_le _, Nat.zero_le _⟩) (fun r74 S74 H locs hp74 hW => ?_)
                obtain ⟨hs74, hp74⟩ := hp74
                rw [hs74] at hW
                rcases hp74 with ⟨rfl, h74⟩ | ⟨rfl, h74⟩
                · skip
                  refine lv_if_eq (tgt := 96) hx hb dX11_copy_77 (by decide) (fun c77 => ?_) (fun c77 => ?_)
                  · exact absurd c77 (by decide)
                  · skip
                    refine lv_iload hx hb dX11_copy_80 (lv_at hl 4 rfl) ?_
                    refine lv_iload hx hb dX11_copy_82 (lv_at hl 5 rfl) ?_
                    refine lv_aload_n hx hb dX11_copy_84 rfl (lv_at hl 0 rfl) ?_
                    refine r_getr (ci := 10) (C := RX11) (T := TX11) (N := 20) hx hb hts iX11 hown hW rfl 65 3 rfl (g_lt hG (by decide)) (g_kd hG (by decide) rfl) (by decide) q0 (fun _ h9 => h9) (hP _ (List.mem_of_getElem? (i := 63) rfl)) rfl rfl dX11_copy_85 ?_
                    refine lv_iload_n hx hb dX11_copy_88 rfl (lv_at hl 3 rfl) ?_
                    refine r_iald hx hb hW 69 rfl (g_lt hG (by decide)) (g_kd hG (by decide) rfl) (g_ix hG (c := 8) (by decide) rfl (t_in (by omega) (by omega))) ((gi S 69) (a3).toNatClampNeg) rfl dX11_copy_89 ?_
                    refine r_calli hW hA (va_runS (As := [.int a4, .int a5, .int ((gi S 69) (a3).toNatClampNeg)]) (rest := []) ⟨hx, hb, hml, hown, hts⟩ (t_X11_isWithin l D G S _ a4 a5 ((gi S 69) (a3).toNatClampNeg)) (va_cwS 3 hts gX11_copy_X11_isWithin rfl rfl rfl (by decide +kernel) ⟨Nat.le_of_ble_eq_true rfl, Nat.le_of_ble_eq_true rfl⟩) (r_preS hA hW) rfl rfl hl.1 rfl (lv_room (Nat.le_of_ble_eq_true rfl)) dX11_copy_90 ⟨Nat.zero_le _, Nat.zero_le _⟩) (fun r90 S90 H locs hp90 hW => ?_)
                    obtain ⟨hs90, hp90⟩ := hp90
                    rw [hs90] at hW
                    rcases hp90 with ⟨rfl, h90⟩ | ⟨rfl, h90⟩
                    · skip
                      refine lv_if_ne (tgt := 102) hx hb dX11_copy_93 (by decide) (fun c93 => ?_) (fun c93 => ?_)
                      · skip
                        refine lv_iconst (v := 0) hx hb dX11_copy_102 (by decide) ?_
                        refine lv_istore (lv' := [(6, .int 0), (0, .ref (gA G 65)), (1, .int a1), (2, .int a2), (3, .int a3), (4, .int a4), (5, .int a5)]) hx hb dX11_copy_103 hl (by decide) rfl (fun ls hl => ?_)
                        have hn_a2 := n_nat (x := a2) (by omega)
                        have hn_a4 := n_nat (x := a4) (by omega)
                        have hn_a5 := n_nat (x := a5) (by omega)
                        have e5 : a5 = nI a5.toNatClampNeg := n_nI (by omega)
                        have h40a : (gi S 69 a1.toNatClampNeg).toInt ≤ 40 := by rw [hr_a1.2.1]; omega
                        have h40b : (gi S 69 a3.toNatClampNeg).toInt ≤ 40 := by rw [hr_a3.2.1]; omega
                        rw [show S = (ri S 70 (gi S 70)) from (ri_id S 70).symm] at hW
                        have L105 : ∀ (n : Nat) (i : Nat) (t : Nat → Int32) (H : Heap) (locs : List Loc) (ls : Array Slot), (a5.toNatClampNeg - i) < n → i ≤ a5.toNatClampNeg → (∀ j, j < i → t j = gi S 67 (40 * a1.toNatClampNeg + a2.toNatClampNeg + j)) → Wd D (AW G s.heap.size) s G (ri S 70 t) H locs → lv_has ls 7 [(6, .int (nI i)), (0, .ref (gA G 65)), (1, .int a1), (2, .int a2), (3, .int a3), (4, .int a4), (5, .int a5)] → W pP l eE (headSpec wsX11_copy rmX11_copy).room s mM ([.ref (gA G 65), .int a1, .int a2, .int a3, .int a4, .int a5] : List Value).toArray bl mT cD H locs 0 0 Q0 (F0 mM 105 ls []) := by
                          intro n
                          induction n with
                          | zero => intro i t H locs ls hm; exact absurd hm (Nat.not_lt_zero _)
                          | succ n ih105 =>
                            intro i t H locs ls hm105 hi ht hW hl
                            refine lv_iload hx hb dX11_copy_105 (lv_at hl 0 rfl) ?_
                            refine lv_iload hx hb dX11_copy_107 (lv_at hl 6 rfl) ?_
                            refine lv_icmp_ge (tgt := 139) hx hb dX11_copy_109 (by decide) (fun c109 => ?_) (fun c109 => ?_)
                            · skip
                              have hge : a5.toNatClampNeg ≤ i := by
                                have h9 := c109
                                rw [e5] at h9
                                exact (n_le (by omega) (by omega)).mp h9
                              refine lv_iconst (v := 0) hx hb dX11_copy_139 (by decide) ?_
                              refine lv_istore (lv' := [(6, .int 0), (0, .ref (gA G 65)), (1, .int a1), (2, .int a2), (3, .int a3), (4, .int a4), (5, .int a5)]) hx hb dX11_copy_140 hl (by decide) rfl (fun ls hl => ?_)
                              have hi5 : i = a5.toNatClampNeg := by omega
                              rw [show (ri S 70 t) = (ri (ri S 70 t) 67 (gi S 67)) from ((ri_id (ri S 70 t) 67).symm.trans (congrArg (fun z => ri (ri S 70 t) 67 z) (e_in (by decide) rfl)))] at hW
                              have L142 : ∀ (n : Nat) (k : Nat) (u : Nat → Int32) (H : Heap) (locs : List Loc) (ls : Array Slot), (a5.toNatClampNeg - k) < n → k ≤ a5.toNatClampNeg → (∀ j, j < k → u (40 * a3.toNatClampNeg + a4.toNatClampNeg + j) = t j) → (∀ x, x < 40 * a3.toNatClampNeg + a4.toNatClampNeg ∨ 40 * a3.toNatClampNeg + a4.toNatClampNeg + a5.toNatClampNeg ≤ x → u x = gi S 67 x) → Wd D (AW G s.heap.size) s G (ri (ri S 70 t) 67 u) H locs → lv_has ls 7 [(6, .int (nI k)), (0, .ref (gA G 65)), (1, .int a1), (2, .int a2), (3, .int a3), (4, .int a4), (5, .int a5)] → W pP l eE (headSpec wsX11_copy rmX11_copy).room s mM ([.ref (gA G 65), .int a1, .int a2, .int a3, .int a4, .int a5] : List Value).toArray bl mT cD H locs 0 0 Q0 (F0 mM 142 ls []) := by
                                intro n
                                induction n with
                                | zero => intro k u H locs ls hm; exact absurd hm (Nat.not_lt_zero _)
                                | succ n ih142 =>
                                  intro k u H locs ls hm142 hk hu0 hu1 hW hl
                                  refine lv_iload hx hb dX11_copy_142 (lv_at hl 0 rfl) ?_
                                  refine lv_iload hx hb dX11_copy_144 (lv_at hl 6 rfl) ?_
                                  refine lv_icmp_ge (tgt := 177) hx hb dX11_copy_146 (by decide) (fun c146 => ?_) (fun c146 => ?_)
                                  · skip
                                    have hge : a5.toNatClampNeg ≤ k := by
                                      have h9 := c146
                                      rw [e5] at h9
                                      exact (n_le (by omega) (by omega)).mp h9
                                    refine lv_aload_n hx hb dX11_copy_177 rfl (lv_at hl 1 rfl) ?_
                                    refine lv_iload hx hb dX11_copy_178 (lv_at hl 6 rfl) ?_
                                    refine lv_i2l hx hb dX11_copy_180 rfl ?_
                                    refine r_calll hW hA (va_runV (As := [.long (Int32.toInt64 a5)]) (rest := []) ⟨hx, hb, hml, hown, hts⟩ (t_X11_good l D G (ri (ri S 70 t) 67 u) _ hG hP (Int32.toInt64 a5)) (cwV 1 hts gX11_copy_X11_good rfl rfl rfl (by decide +kernel) ⟨Nat.le_of_ble_eq_true rfl, Nat.le_of_ble_eq_true rfl⟩) (r_preV (k := 65) hA hW (ci := 10) (C := RX11) (T := TX11) (N := 20) rfl rfl (g_lt hG (by decide)) (g_kd hG (by decide) rfl) rfl rfl) rfl rfl hl.1 rfl (lv_room (Nat.le_of_ble_eq_true rfl)) dX11_copy_181 ⟨Nat.zero_le _, Nat.zero_le _⟩) (fun r181 S181 H locs hp181 hW => ?_)
                                    obtain ⟨hs181, rfl⟩ := hp181
                                    rw [hs181] at hW
                                    rw [← hQ0]
                                    refine r_lret hx hb hr hlocks hW ?_ dX11_copy_184
                                    refine ⟨?_, (fun j hj => (congrFun (e_is _ _ _) j).trans ((up_n _ _ hj).trans rfl)), (Ch.ri (Ch.ri (Ch.ri Ch.rf (by omega)) (by omega)) (by omega))⟩
                                    have e : fCopy it la le st a1 a2 a3 a4 a5 = (a5.toInt64, va_up it a3.toNatClampNeg (va_cpy (it a1.toNatClampNeg) (it a3.toNatClampNeg) a2.toNatClampNeg a4.toNatClampNeg a5.toNatClampNeg), 0) := by unfold fCopy; rw [if_pos (by omega), if_neg (by rw [← hr_a1.2.1, ← hr_a3.2.1]; omega), if_neg (by rw [← hr_a1.1, ← hr_a3.1, t_eq]; omega), if_pos (by rw [← hr_a1.2.1, ← hr_a3.2.1]; omega)]
                                    rw [e]; dsimp only
                                    have hk5 : k = a5.toNatClampNeg := by omega
                                    refine ⟨?_, rfl, rfl, (Ch.ri (Ch.ri (Ch.ri Ch.rf (by omega)) (by omega)) (by omega))⟩
                                    intro j hj
                                    obtain ⟨y1, y2, y3⟩ := hR j hj
                                    refine ⟨?_, ?_, fun x hx => ?_⟩
                                    · refine Eq.trans ?_ y1; simp only [gi_ri]; rw [up_n _ _ (by omega), up_n _ _ (by omega), up_n _ _ (by omega)]
                                    · refine Eq.trans ?_ y2; simp only [gi_ri]; rw [up_n _ _ (by omega), up_n _ _ (by omega), up_n _ _ (by omega)]
                                    · rw [(e_in (by decide) (e_is _ _ _))]
                                      by_cases hja : j = a3.toNatClampNeg
                                      · rw [hja, up_s]
                                        unfold va_cpy
                                        by_cases hin : a4.toNatClampNeg ≤ x ∧ x < a4.toNatClampNeg + a5.toNatClampNeg
                                        · rw [if_pos hin, show 40 * a3.toNatClampNeg + x = 40 * a3.toNatClampNeg + a4.toNatClampNeg + (x - a4.toNatClampNeg) by omega, hu0 _ (by omega), ht _ (by omega), ← hr_a1.2.2 _ (by omega), Nat.add_assoc]
                                        · rw [if_neg hin, hu1 _ (by omega)]; exact hr_a3.2.2 x hx
                                      · rw [up_n _ _ hja, hu1 _ (by omega)]; exact y3 x hx
                                  · skip
                                    have hlt : k < a5.toNatClampNeg := by
                                      have h9 := c146
                                      rw [e5, n_le (by omega) (by omega)] at h9
                                      omega
                                    refine lv_aload_n hx hb dX11_copy_149 rfl (lv_at hl 1 rfl) ?_
                                    refine r_getr (ci := 10) (C := RX11) (T := TX11) (N := 20) hx hb hts iX11 hown hW rfl 65 1 rfl (g_lt hG (by decide)) (g_kd hG (by decide) rfl) (by decide) q2 (fun _ h9 => h9) (hP _ (List.mem_of_getElem? (i := 61) rfl)) rfl rfl dX11_copy_150 ?_
                                    refine lv_bipush (v := 40) hx hb dX11_copy_153 (by decide) ?_
                                    refine lv_iload_n hx hb dX11_copy_155 rfl (lv_at hl 4 rfl) ?_
                                    refine lv_imul hx hb dX11_copy_156 ?_
                                    refine lv_iload hx hb dX11_copy_157 (lv_at hl 5 rfl) ?_
                                    refine lv_iadd hx hb dX11_copy_159 ?_
                                    refine lv_iload hx hb dX11_copy_160 (lv_at hl 0 rfl) ?_
                                    refine lv_iadd hx hb dX11_copy_162 ?_
                                    rw [show (((40 * a3) + a4) + (nI k) : Int32) = (nI (40 * a3.toNatClampNeg + a4.toNatClampNeg + k)) from by rw [ix40 (by omega) (by omega), n_add]]
                                    refine lv_aload_n hx hb dX11_copy_163 rfl (lv_at hl 1 rfl) ?_
                                    refine r_getr (ci := 10) (C := RX11) (T := TX11) (N := 20) hx hb hts iX11 hown hW rfl 65 5 rfl (g_lt hG (by decide)) (g_kd hG (by decide) rfl) (by decide) q3 (fun _ h9 => h9) (hP _ (List.mem_of_getElem? (i := 64) rfl)) rfl rfl dX11_copy_164 ?_
                                    refine lv_iload hx hb dX11_copy_167 (lv_at hl 0 rfl) ?_
                                    refine r_iald hx hb hW 70 rfl (g_lt hG (by decide)) (g_kd hG (by decide) rfl) (g_ix hG (c := 40) (by decide) rfl (n_inI (by omega) (by decide))) (t k) ((congrFun (e_in (by decide) (e_is _ _ _)) _).trans (congrArg t (n_clamp (by omega)))) dX11_copy_169 ?_
                                    refine r_iast hx hb hW 67 rfl (g_lt hG (by decide)) (g_kd hG (by decide) rfl) (g_ix hG (c := 320) (by decide) rfl (n_inI (by omega) (by decide))) (ri (ri S 70 t) 67 (va_up u ((nI (40 * a3.toNatClampNeg + a4.toNatClampNeg + k))).toNatClampNeg (t k))) u (e_is _ _ _) (e_is _ _ _) rfl rfl c_i dX11_copy_170 (fun H locs hW => ?_)
                                    rw [show ((nI (40 * a3.toNatClampNeg + a4.toNatClampNeg + k))).toNatClampNeg = (40 * a3.toNatClampNeg + a4.toNatClampNeg + k) from n_clamp (by omega)] at hW
                                    refine lv_iinc (v := (nI (k + 1))) (lv' := [(6, .int (nI (k + 1))), (0, .ref (gA G 65)), (1, .int a1), (2, .int a2), (3, .int a3), (4, .int a4), (5, .int a5)]) hx hb dX11_copy_171 hl (k := 0) rfl (nI_1 k) (by decide) rfl (fun ls hl => ?_)
                                    refine lv_goto (tgt := 142) hx hb dX11_copy_174 (by decide) ?_
                                    exact ih142 (k + 1) (va_up u (40 * a3.toNatClampNeg + a4.toNatClampNeg + k) (t k)) _ _ ls (by omega) (by omega) (fun j hj => by by_cases z : j = k; (subst z; exact up_s _ _ _); exact (up_n _ _ (by omega)).trans (hu0 j (by omega))) (fun x hx => (up_n _ _ (by omega)).trans (hu1 x hx)) hW (lv_sub hl [0, 1, 2, 3, 4, 5, 6] rfl)
                              exact L142 _ 0 (gi S 67) _ _ ls (Nat.lt_succ_self _) (Nat.zero_le _) (fun j hj => absurd hj (Nat.not_lt_zero _)) (fun _ _ => rfl) hW (lv_sub hl [0, 1, 2, 3, 4, 5, 6] rfl)
                            · skip
                              have hlt : i < a5.toNatClampNeg := by
                                have h9 := c109
                                rw [e5, n_le (by omega) (by omega)] at h9
                                omega
                              refine lv_aload_n hx hb dX11_copy_112 rfl (lv_at hl 1 rfl) ?_
                              refine r_getr (ci := 10) (C := RX11) (T := TX11) (N := 20) hx hb hts iX11 hown hW rfl 65 5 rfl (g_lt hG (by decide)) (g_kd hG (by decide) rfl) (by decide) q3 (fun _ h9 => h9) (hP _ (List.mem_of_getElem? (i := 64) rfl)) rfl rfl dX11_copy_113 ?_
                              refine lv_iload hx hb dX11_copy_116 (lv_at hl 0 rfl) ?_
                              refine lv_aload_n hx hb dX11_copy_118 rfl (lv_at hl 1 rfl) ?_
                              refine r_getr (ci := 10) (C := RX11) (T := TX11) (N := 20) hx hb hts iX11 hown hW rfl 65 1 rfl (g_lt hG (by decide)) (g_kd hG (by decide) rfl) (by decide) q2 (fun _ h9 => h9) (hP _ (List.mem_of_getElem? (i := 61) rfl)) rfl rfl dX11_copy_119 ?_
                              refine lv_bipush (v := 40) hx hb dX11_copy_122 (by decide) ?_
                              refine lv_iload_n hx hb dX11_copy_124 rfl (lv_at hl 2 rfl) ?_
                              refine lv_imul hx hb dX11_copy_125 ?_
                              refine lv_iload_n hx hb dX11_copy_126 rfl (lv_at hl 3 rfl) ?_
                              refine lv_iadd hx hb dX11_copy_127 ?_
                              refine lv_iload hx hb dX11_copy_128 (lv_at hl 0 rfl) ?_
                              refine lv_iadd hx hb dX11_copy_130 ?_
                              rw [show (((40 * a1) + a2) + (nI i) : Int32) = (nI (40 * a1.toNatClampNeg + a2.toNatClampNeg + i)) from by rw [ix40 (by omega) (by omega), n_add]]
                              refine r_iald hx hb hW 67 rfl (g_lt hG (by decide)) (g_kd hG (by decide) rfl) (g_ix hG (c := 320) (by decide) rfl (n_inI (by omega) (by decide))) (gi S 67 (40 * a1.toNatClampNeg + a2.toNatClampNeg + i)) ((congrFun (e_in (by decide) rfl) _).trans (congrArg (gi S 67) (n_clamp (by omega)))) dX11_copy_131 ?_
                              refine r_iast hx hb hW 70 rfl (g_lt hG (by decide)) (g_kd hG (by decide) rfl) (g_ix hG (c := 40) (by decide) rfl (n_inI (by omega) (by decide))) (ri S 70 (va_up t ((nI i)).toNatClampNeg (gi S 67 (40 * a1.toNatClampNeg + a2.toNatClampNeg + i)))) t (e_is _ _ _) (e_is _ _ _) rfl rfl c_i dX11_copy_132 (fun H locs hW => ?_)
                              rw [show ((nI i)).toNatClampNeg = i from n_clamp (by omega)] at hW
                              refine lv_iinc (v := (nI (i + 1))) (lv' := [(6, .int (nI (i + 1))), (0, .ref (gA G 65)), (1, .int a1), (2, .int a2), (3, .int a3), (4, .int a4), (5, .int a5)]) hx hb dX11_copy_133 hl (k := 0) rfl (nI_1 i) (by decide) rfl (fun ls hl => ?_)
                              refine lv_goto (tgt := 105) hx hb dX11_copy_136 (by decide) ?_
                              exact ih105 (i + 1) (va_up t i (gi S 67 (40 * a1.toNatClampNeg + a2.toNatClampNeg + i))) _ _ ls (by omega) (by omega) (fun j hj => by by_cases z : j = i; (subst z; exact up_s _ _ _); exact (up_n _ _ z).trans (ht j (by omega))) hW (lv_sub hl [0, 1, 2, 3, 4, 5, 6] rfl)
                        exact L105 _ 0 (gi S 70) _ _ ls (Nat.lt_succ_self _) (Nat.zero_le _) (fun j hj => absurd hj (Nat.not_lt_zero _)) hW (lv_sub hl [0, 1, 2, 3, 4, 5, 6] rfl)
                      · exact absurd c93 (by decide)
                    · skip
                      refine lv_if_ne (tgt := 102) hx hb dX11_copy_93 (by decide) (fun c93 => ?_) (fun c93 => ?_)
                      · exact absurd (by decide) c93
                      · skip
                        refine lv_aload_n hx hb dX11_copy_96 rfl (lv_at hl 0 rfl) ?_
                        refine lv_iconst (v := 2) hx hb dX11_copy_97 (by decide) ?_
                        refine r_calll hW hA (va_runV (As := [.int 2]) (rest := []) ⟨hx, hb, hml, hown, hts⟩ (t_X11_found l D G S _ hG hP 2) (cwV 1 hts gX11_copy_X11_found rfl rfl rfl (by decide +kernel) ⟨Nat.le_of_ble_eq_true rfl, Nat.le_of_ble_eq_true rfl⟩) (r_preV (k := 65) hA hW (ci := 10) (C := RX11) (T := TX11) (N := 20) rfl rfl (g_lt hG (by decide)) (g_kd hG (by decide) rfl) rfl rfl) rfl rfl hl.1 rfl (lv_room (Nat.le_of_ble_eq_true rfl)) dX11_copy_98 ⟨Nat.zero_le _, Nat.zero_le _⟩) (fun r98 S98 H locs hp98 hW => ?_)
                        obtain ⟨hs98, rfl⟩ := hp98
                        rw [hs98] at hW
                        rw [← hQ0]
                        refine r_lret hx hb hr hlocks hW ?_ dX11_copy_101
                        refine ⟨?_, (fun j hj => (congrFun (e_is _ _ _) j).trans ((up_n _ _ hj).trans rfl)), (Ch.ri Ch.rf (by omega))⟩
                        have e : fCopy it la le st a1 a2 a3 a4 a5 = (FND 2, it, 2) := by unfold fCopy; rw [if_pos (by omega), if_neg (by rw [← hr_a1.2.1, ← hr_a3.2.1]; omega), if_neg (by rw [← hr_a1.1, ← hr_a3.1, t_eq]; omega), if_neg (by rw [← hr_a1.2.1, ← hr_a3.2.1]; omega)]
                        rw [e]; dsimp only
                        refine ⟨?_, congrFun (e_is _ _ _) 4, rfl, (Ch.ri Ch.rf (by omega))⟩
                        intro j hj
                        obtain ⟨y1, y2, y3⟩ := hR j hj
                        exact ⟨(congrFun (e_in (by omega) rfl) j).trans y1, (congrFun (e_in (by omega) rfl) j).trans y2, fun i hi => (congrFun (e_in (by omega) rfl) (40 * j + i)).trans (y3 i hi)⟩
                · skip
                  refine lv_if_eq (tgt := 96) hx hb dX11_copy_77 (by decide) (fun c77 => ?_) (fun c77 => ?_)
                  · skip
                    refine lv_aload_n hx hb dX11_copy_96 rfl (lv_at hl 0 rfl) ?_
                    refine lv_iconst (v := 2) hx hb dX11_copy_97 (by decide) ?_
                    refine r_calll hW hA (va_runV (As := [.int 2]) (rest := []) ⟨hx, hb, hml, hown, hts⟩ (t_X11_found l D G S _ hG hP 2) (cwV 1 hts gX11_copy_X11_found rfl rfl rfl (by decide +kernel) ⟨Nat.le_of_ble_eq_true rfl, Nat.le_of_ble_eq_true rfl⟩) (r_preV (k := 65) hA hW (ci := 10) (C := RX11) (T := TX11) (N := 20) rfl rfl (g_lt hG (by decide)) (g_kd hG (by decide) rfl) rfl rfl) rfl rfl hl.1 rfl (lv_room (Nat.le_of_ble_eq_true rfl)) dX11_copy_98 ⟨Nat.zero_le _, Nat.zero_le _⟩) (fun r98 S98 H locs hp98 hW => ?_)
                    obtain ⟨hs98, rfl⟩ := hp98
                    rw [hs98] at hW
                    rw [← hQ0]
                    refine r_lret hx hb hr hlocks hW ?_ dX11_copy_101
                    refine ⟨?_, (fun j hj => (congrFun (e_is _ _ _) j).trans ((up_n _ _ hj).trans rfl)), (Ch.ri Ch.rf (by omega))⟩
                    have e : fCopy it la le st a1 a2 a3 a4 a5 = (FND 2, it, 2) := by unfold fCopy; rw [if_pos (by omega), if_neg (by rw [← hr_a1.2.1, ← hr_a3.2.1]; omega), if_neg (by rw [← hr_a1.1, ← hr_a3.1, t_eq]; omega), if_neg (by rw [← hr_a1.2.1, ← hr_a3.2.1]; omega)]
                    rw [e]; dsimp only
                    refine ⟨?_, congrFun (e_is _ _ _) 4, rfl, (Ch.ri Ch.rf (by omega))⟩
                    intro j hj
                    obtain ⟨y1, y2, y3⟩ := hR j hj
                    exact ⟨(congrFun (e_in (by omega) rfl) j).trans y1, (congrFun (e_in (by omega) rfl) j).trans y2, fun i hi => (congrFun (e_in (by omega) rfl) (40 * j + i)).trans (y3 i hi)⟩
                  · exact absurd (by decide) c77
              · skip
                rw [t_eq] at c56
                refine lv_aload_n hx hb dX11_copy_59 rfl (lv_at hl 0 rfl) ?_
                refine lv_iconst (v := 5) hx hb dX11_copy_60 (by decide) ?_
                refine r_calll hW hA (va_runV (As := [.int 5]) (rest := []) ⟨hx, hb, hml, hown, hts⟩ (t_X11_found l D G S _ hG hP 5) (cwV 1 hts gX11_copy_X11_found rfl rfl rfl (by decide +kernel) ⟨Nat.le_of_ble_eq_true rfl, Nat.le_of_ble_eq_true rfl⟩) (r_preV (k := 65) hA hW (ci := 10) (C := RX11) (T := TX11) (N := 20) rfl rfl (g_lt hG (by decide)) (g_kd hG (by decide) rfl) rfl rfl) rfl rfl hl.1 rfl (lv_room (Nat.le_of_ble_eq_true rfl)) dX11_copy_61 ⟨Nat.zero_le _, Nat.zero_le _⟩) (fun r61 S61 H locs hp61 hW => ?_)
                obtain ⟨hs61, rfl⟩ := hp61
                rw [hs61] at hW
                rw [← hQ0]
                refine r_lret hx hb hr hlocks hW ?_ dX11_copy_64
                refine ⟨?_, (fun j hj => (congrFun (e_is _ _ _) j).trans ((up_n _ _ hj).trans rfl)), (Ch.ri Ch.rf (by omega))⟩
                have e : fCopy it la le st a1 a2 a3 a4 a5 = (FND 5, it, 5) := by unfold fCopy; rw [if_pos (by omega), if_neg (by rw [← hr_a1.2.1, ← hr_a3.2.1]; omega), if_pos (by rw [← hr_a1.1, ← hr_a3.1, t_eq]; exact c56)]
                rw [e]; dsimp only
                refine ⟨?_, congrFun (e_is _ _ _) 4, rfl, (Ch.ri Ch.rf (by omega))⟩
                intro j hj
                obtain ⟨y1, y2, y3⟩ := hR j hj
                exact ⟨(congrFun (e_in (by omega) rfl) j).trans y1, (congrFun (e_in (by omega) rfl) j).trans y2, fun i hi => (congrFun (e_in (by omega) rfl) (40 * j + i)).trans (y3 i hi)⟩
            · skip
              rw [t_le, show (0 : Int32).toInt = 0 from by decide] at c35
              refine lv_aload_n hx hb dX11_copy_38 rfl (lv_at hl 0 rfl) ?_
              refine lv_iconst (v := 1) hx hb dX11_copy_39 (by decide) ?_
              refine r_calll hW hA (va_runV (As := [.int 1]) (rest := []) ⟨hx, hb, hml, hown, hts⟩ (t_X11_found l D G S _ hG hP 1) (cwV 1 hts gX11_copy_X11_found rfl rfl rfl (by decide +kernel) ⟨Nat.le_of_ble_eq_true rfl, Nat.le_of_ble_eq_true rfl⟩) (r_preV (k := 65) hA hW (ci := 10) (C := RX11) (T := TX11) (N := 20) rfl rfl (g_lt hG (by decide)) (g_kd hG (by decide) rfl) rfl rfl) rfl rfl hl.1 rfl (lv_room (Nat.le_of_ble_eq_true rfl)) dX11_copy_40 ⟨Nat.zero_le _, Nat.zero_le _⟩) (fun r40 S40 H locs hp40 hW => ?_)
              obtain ⟨hs40, rfl⟩ := hp40
              rw [hs40] at hW
              rw [← hQ0]
              refine r_lret hx hb hr hlocks hW ?_ dX11_copy_43
              refine ⟨?_, (fun j hj => (congrFun (e_is _ _ _) j).trans ((up_n _ _ hj).trans rfl)), (Ch.ri Ch.rf (by omega))⟩
              have e : fCopy it la le st a1 a2 a3 a4 a5 = (FND 1, it, 1) := by unfold fCopy; rw [if_pos (by omega), if_pos (by rw [← hr_a1.2.1, ← hr_a3.2.1]; rw [← hr_a1.2.1] at hle_a1; rw [← hr_a3.2.1] at hle_a3; omega)]
              rw [e]; dsimp only
              refine ⟨?_, congrFun (e_is _ _ _) 4, rfl, (Ch.ri Ch.rf (by omega))⟩
              intro j hj
              obtain ⟨y1, y2, y3⟩ := hR j hj
              exact ⟨(congrFun (e_in (by omega) rfl) j).trans y1, (congrFun (e_in (by omega) rfl) j).trans y2, fun i hi => (congrFun (e_in (by omega) rfl) (40 * j + i)).trans (y3 i hi)⟩
        · exact absurd c13 (by decide)
      · skip
        refine lv_if_ne (tgt := 20) hx hb dX11_copy_13 (by decide) (fun c13 => ?_) (fun c13 => ?_)
        · exact absurd (by decide) c13
        · skip
          refine lv_ldc2 (v := (-9000000000000000001)) hx hb hown q4 dX11_copy_16 ?_
          rw [← hQ0]
          refine r_lret hx hb hr hlocks hW ?_ dX11_copy_19
          refine ⟨?_, (fun j hj => rfl), Ch.rf⟩
          have e : fCopy it la le st a1 a2 a3 a4 a5 = (BADL, it, st) := by unfold fCopy; rw [if_neg (by omega)]
          rw [e]; dsimp only
          exact ⟨hR, hst, rfl, Ch.rf⟩
  · skip
    refine lv_if_eq (tgt := 16) hx hb dX11_copy_5 (by decide) (fun c5 => ?_) (fun c5 => ?_)
    · skip
      refine lv_ldc2 (v := (-9000000000000000001)) hx hb hown q4 dX11_copy_16 ?_
      rw [← hQ0]
      refine r_lret hx hb hr hlocks hW ?_ dX11_copy_19
      refine ⟨?_, (fun j hj => rfl), Ch.rf⟩
      have e : fCopy it la le st a1 a2 a3 a4 a5 = (BADL, it, st) := by unfold fCopy; rw [if_neg (by omega)]
      rw [e]; dsimp only
      exact ⟨hR, hst, rfl, Ch.rf⟩
    · exact absurd (by decide) c5

set_option maxHeartbeats 4000000 in
set_option maxRecDepth 100000 in
theorem t_X11_drop_s (l : Launch) (D : Dc) (G : Gg) (S : Sg) (z : Nat) (hG : GrG G) (hP : GrP G S) (it : Nat → Nat → Int32) (la le : Nat → Int32) (hR : RowsM S it la le) (hL : LeOK le) (st : Int32) (hst : gi S 65 4 = st) (a1 : Int32) : ML l yX11_drop wsX11_drop rmX11_drop D G S z [.ref (gA G 65), .int a1] (fun r S' => (RowsM S' it la (fDrop le st a1).2.1 ∧ gi S' 65 4 = (fDrop le st a1).2.2 ∧ r = (fDrop le st a1).1 ∧ Ch (fun k => 65 ≤ k ∧ k ≤ 74) S S') ∧ ((∀ j, j ≠ 4 → gi S' 65 j = gi S 65 j) ∧ Ch (fun k => k = 65 ∨ (67 ≤ k ∧ k ≤ 70)) S S')) := by
  refine Met.ofW (cc := cX11_drop) (maxL := 3) (ret := (some .long)) (by decide +kernel) rfl ?_
  intro pP eE s mM args bl mT cD s₁ bD hml hv
  obtain ⟨rfl, hv⟩ := hv
  have hz := hv.1
  subst hz
  have hx := bD.exec
  have hb := bD.bytes
  have hr := bD.returns
  have hts := atoms_spec (ws := wsX11_drop) bD.pre
  have hown : s.vm.findClass RX11 = some mM.cls := findClass_of_methodNamed bD.named
  have hlocks := bD.notSynchronized
  have hW := Wd.start hv
  have hA : ∀ q, s.heap.size ≤ q → AW G s.heap.size q := fun q h => Or.inr h
  have hl := lv_entry ([.ref (gA G 65), .int a1]) (n := 3) (Nat.le_of_ble_eq_true rfl)
  rw [lg_entry_eq]
  generalize (lg_sl ([.ref (gA G 65), .int a1]) ++ List.replicate (3 - (lg_sl ([.ref (gA G 65), .int a1])).length) Slot.unset).toArray = ls at hl ⊢
  have hl : lv_has ls 3 [(0, .ref (gA G 65)), (1, .int a1)] := hl
  have q0 := hts (.fieldLink RX11 20 "WoodForTwoModel" "length" "[I") (List.mem_of_getElem? (i := 2) rfl)
  have q1 := hts (.constantLong RX11 56 (-9000000000000000001)) (List.mem_of_getElem? (i := 1) rfl)
  have iX11 : ∀ w ∈ wsX110, w ∈ wsX11_drop := fun _ h => List.mem_cons_of_mem _ (List.mem_append_right _ (h))
  refine lv_aload_n hx hb dX11_drop_0 rfl (lv_at hl 0 rfl) ?_
  refine lv_iload_n hx hb dX11_drop_1 rfl (lv_at hl 1 rfl) ?_
  refine r_calli hW hA (va_runV (As := [.int a1]) (rest := []) ⟨hx, hb, hml, hown, hts⟩ (t_X11_isRow l D G S _ hG hP a1) (cwV 1 hts gX11_drop_X11_isRow rfl rfl rfl (by decide +kernel) ⟨Nat.le_of_ble_eq_true rfl, Nat.le_of_ble_eq_true rfl⟩) (r_preV (k := 65) hA hW (ci := 10) (C := RX11) (T := TX11) (N := 20) rfl rfl (g_lt hG (by decide)) (g_kd hG (by decide) rfl) rfl rfl) rfl rfl hl.1 rfl (lv_room (Nat.le_of_ble_eq_true rfl)) dX11_drop_2 ⟨Nat.zero_le _, Nat.zero_le _⟩) (fun r2 S2 H locs hp2 hW => ?_)
  obtain ⟨hs2, hp2⟩ := hp2
  rw [hs2] at hW
  rcases hp2 with ⟨rfl, h2⟩ | ⟨rfl, h2⟩
  · skip
    refine lv_if_ne (tgt := 12) hx hb dX11_drop_5 (by decide) (fun c5 => ?_) (fun c5 => ?_)
    · skip
      have hn_a1 := n_nat (x := a1) (by omega)
      have hr_a1 := hR a1.toNatClampNeg (by omega)
      have hle_a1 := hL a1.toNatClampNeg (by omega)
      refine lv_aload_n hx hb dX11_drop_12 rfl (lv_at hl 0 rfl) ?_
      refine r_getr (ci := 10) (C := RX11) (T := TX11) (N := 20) hx hb hts iX11 hown hW rfl 65 3 rfl (g_lt hG (by decide)) (g_kd hG (by decide) rfl) (by decide) q0 (fun _ h9 => h9) (hP _ (List.mem_of_getElem? (i := 63) rfl)) rfl rfl dX11_drop_13 ?_
      refine lv_iload_n hx hb dX11_drop_16 rfl (lv_at hl 1 rfl) ?_
      refine r_iald hx hb hW 69 rfl (g_lt hG (by decide)) (g_kd hG (by decide) rfl) (g_ix hG (c := 8) (by decide) rfl (t_in (by omega) (by omega))) ((gi S 69) (a1).toNatClampNeg) rfl dX11_drop_17 ?_
      refine lv_if_ge (tgt := 27) hx hb dX11_drop_18 (by decide) (fun c18 => ?_) (fun c18 => ?_)
      · skip
        rw [t_le, show (0 : Int32).toInt = 0 from by decide] at c18
        refine lv_aload_n hx hb dX11_drop_27 rfl (lv_at hl 0 rfl) ?_
        refine r_getr (ci := 10) (C := RX11) (T := TX11) (N := 20) hx hb hts iX11 hown hW rfl 65 3 rfl (g_lt hG (by decide)) (g_kd hG (by decide) rfl) (by decide) q0 (fun _ h9 => h9) (hP _ (List.mem_of_getElem? (i := 63) rfl)) rfl rfl dX11_drop_28 ?_
        refine lv_iload_n hx hb dX11_drop_31 rfl (lv_at hl 1 rfl) ?_
        refine r_iald hx hb hW 69 rfl (g_lt hG (by decide)) (g_kd hG (by decide) rfl) (g_ix hG (c := 8) (by decide) rfl (t_in (by omega) (by omega))) ((gi S 69) (a1).toNatClampNeg) rfl dX11_drop_32 ?_
        refine lv_istore_n (lv' := [(2, .int ((gi S 69) (a1).toNatClampNeg)), (0, .ref (gA G 65)), (1, .int a1)]) hx hb dX11_drop_33 rfl hl (by decide) rfl (fun ls hl => ?_)
        refine lv_aload_n hx hb dX11_drop_34 rfl (lv_at hl 1 rfl) ?_
        refine r_getr (ci := 10) (C := RX11) (T := TX11) (N := 20) hx hb hts iX11 hown hW rfl 65 3 rfl (g_lt hG (by decide)) (g_kd hG (by decide) rfl) (by decide) q0 (fun _ h9 => h9) (hP _ (List.mem_of_getElem? (i := 63) rfl)) rfl rfl dX11_drop_35 ?_
        refine lv_iload_n hx hb dX11_drop_38 rfl (lv_at hl 2 rfl) ?_
        refine lv_iconst (v := (-1)) hx hb dX11_drop_39 (by decide) ?_
        refine r_iast hx hb hW 69 rfl (g_lt hG (by decide)) (g_kd hG (by decide) rfl) (g_ix hG (c := 8) (by decide) rfl (t_in (by omega) (by omega))) (ri S 69 (va_up (gi S 69) (a1).toNatClampNeg (-1))) (gi S 69) rfl (e_is _ _ _) rfl rfl c_i0 dX11_drop_40 (fun H locs hW => ?_)
        refine lv_aload_n hx hb dX11_drop_41 rfl (lv_at hl 1 rfl) ?_
        refine lv_iload_n hx hb dX11_drop_42 rfl (lv_at hl 0 rfl) ?_
        refine lv_i2l hx hb dX11_drop_43 rfl ?_
        refine r_calll hW hA (va_runV (As := [.long (Int32.toInt64 ((gi S 69) (a1).toNatClampNeg))]) (rest := []) ⟨hx, hb, hml, hown, hts⟩ (t_X11_good l D G (ri S 69 (va_up (gi S 69) (a1).toNatClampNeg (-1))) _ hG hP (Int32.toInt64 ((gi S 69) (a1).toNatClampNeg))) (cwV 1 hts gX11_drop_X11_good rfl rfl rfl (by decide +kernel) ⟨Nat.le_of_ble_eq_true rfl, Nat.le_of_ble_eq_true rfl⟩) (r_preV (k := 65) hA hW (ci := 10) (C := RX11) (T := TX11) (N := 20) rfl rfl (g_lt hG (by decide)) (g_kd hG (by decide) rfl) rfl rfl) rfl rfl hl.1 rfl (lv_room (Nat.le_of_ble_eq_true rfl)) dX11_drop_44 ⟨Nat.zero_le _, Nat.zero_le _⟩) (fun r44 S44 H locs hp44 hW => ?_)
        obtain ⟨hs44, rfl⟩ := hp44
        rw [hs44] at hW
        refine r_lret hx hb hr hlocks hW ?_ dX11_drop_47
        refine ⟨?_, (fun j hj => (congrFun (e_is _ _ _) j).trans ((up_n _ _ hj).trans rfl)), (Ch.ri (Ch.ri Ch.rf (by omega)) (by omega))⟩
        have e : fDrop le st a1 = ((le a1.toNatClampNeg).toInt64, va_up le a1.toNatClampNeg (-1), 0) := by unfold fDrop; rw [if_pos (by omega), if_neg (by rw [← hr_a1.2.1]; omega)]
        rw [e, ← hr_a1.2.1]; dsimp only
        refine ⟨?_, rfl, rfl, (Ch.ri (Ch.ri Ch.rf (by omega)) (by omega))⟩
        intro j hj
        obtain ⟨y1, y2, y3⟩ := hR j hj
        refine ⟨?_, ?_, fun i hi => ?_⟩
        · refine Eq.trans ?_ y1; simp only [gi_ri]; rw [up_n _ _ (by omega), up_n _ _ (by omega)]
        · rw [(e_in (by decide) (e_is _ _ _))]; exact up_cg _ _ y2
        · refine Eq.trans ?_ (y3 i hi); simp only [gi_ri]; rw [up_n _ _ (by omega), up_n _ _ (by omega)]
      · skip
        rw [t_le, show (0 : Int32).toInt = 0 from by decide] at c18
        refine lv_aload_n hx hb dX11_drop_21 rfl (lv_at hl 0 rfl) ?_
        refine lv_iconst (v := 1) hx hb dX11_drop_22 (by decide) ?_
        refine r_calll hW hA (va_runV (As := [.int 1]) (rest := []) ⟨hx, hb, hml, hown, hts⟩ (t_X11_found l D G S _ hG hP 1) (cwV 1 hts gX11_drop_X11_found rfl rfl rfl (by decide +kernel) ⟨Nat.le_of_ble_eq_true rfl, Nat.le_of_ble_eq_true rfl⟩) (r_preV (k := 65) hA hW (ci := 10) (C := RX11) (T := TX11) (N := 20) rfl rfl (g_lt hG (by decide)) (g_kd hG (by decide) rfl) rfl rfl) rfl rfl hl.1 rfl (lv_room (Nat.le_of_ble_eq_true rfl)) dX11_drop_23 ⟨Nat.zero_le _, Nat.zero_le _⟩) (fun r23 S23 H locs hp23 hW => ?_)
        obtain ⟨hs23, rfl⟩ := hp23
        rw [hs23] at hW
        refine r_lret hx hb hr hlocks hW ?_ dX11_drop_26
        refine ⟨?_, (fun j hj => (congrFun (e_is _ _ _) j).trans ((up_n _ _ hj).trans rfl)), (Ch.ri Ch.rf (by omega))⟩
        have e : fDrop le st a1 = (FND 1, le, 1) := by unfold fDrop; rw [if_pos (by omega), if_pos (by rw [← hr_a1.2.1]; rw [← hr_a1.2.1] at hle_a1; omega)]
        rw [e]; dsimp only
        refine ⟨?_, congrFun (e_is _ _ _) 4, rfl, (Ch.ri Ch.rf (by omega))⟩
        intro j hj
        obtain ⟨y1, y2, y3⟩ := hR j hj
        exact ⟨(congrFun (e_in (by omega) rfl) j).trans y1, (congrFun (e_in (by omega) rfl) j).trans y2, fun i hi => (congrFun (e_in (by omega) rfl) (40 * j + i)).trans (y3 i hi)⟩
    · exact absurd c5 (by decide)
  · skip
    refine lv_if_ne (tgt := 12) hx hb dX11_drop_5 (by decide) (fun c5 => ?_) (fun c5 => ?_)
    · exact absurd (by decide) c5
    · skip
      refine lv_ldc2 (v := (-9000000000000000001)) hx hb hown q1 dX11_drop_8 ?_
      refine r_lret hx hb hr hlocks hW ?_ dX11_drop_11
      refine ⟨?_, (fun j hj => rfl), Ch.rf⟩
      have e : fDrop le st a1 = (BADL, le, st) := by unfold fDrop; rw [if_neg (by omega)]
      rw [e]; dsimp only
      exact ⟨hR, hst, rfl, Ch.rf⟩

set_option maxHeartbeats 4000000 in
set_option maxRecDepth 100000 in
theorem t_X11_nights_s (l : Launch) (D : Dc) (G : Gg) (S : Sg) (z : Nat) (hG : GrG G) (hP : GrP G S) (B : Nat → Nat) (c : Nat) (hB : BP B c) (hc : c < 90000) (hM : ∀ k, k < 140 → gj S 66 k = lN (B k)) (it : Nat → Nat → Int32) (la le : Nat → Int32) (hRX : RowsM S it la le) (hL : LeOK le) (st : Int32) (hst : gi S 65 4 = st) (a1 a2 a3 : Int32) : ML l yX11_nights wsX11_nights rmX11_nights D G S z [.ref (gA G 65), .int a1, .int a2, .int a3] (fun r S' => (r = (fNights B it le st a1 a2 a3).1 ∧ (∀ k, k < 140 → gj S' 66 k = lN ((fNights B it le st a1 a2 a3).2.1 k)) ∧ (∀ k, 140 ≤ k → gj S' 66 k = gj S 66 k) ∧ gi S' 65 4 = (fNights B it le st a1 a2 a3).2.2 ∧ Ch (fun k => k = 65 ∨ k = 66) S S') ∧ (∀ j, j ≠ 4 → gi S' 65 j = gi S 65 j)) := by
  refine Met.ofW (cc := cX11_nights) (maxL := 7) (ret := (some .long)) (by decide +kernel) rfl ?_
  intro pP eE s mM args bl mT cD s₁ bD hml hv
  obtain ⟨rfl, hv⟩ := hv
  have hz := hv.1
  subst hz
  have hx := bD.exec
  have hb := bD.bytes
  have hr := bD.returns
  have hts := atoms_spec (ws := wsX11_nights) bD.pre
  have hown : s.vm.findClass RX11 = some mM.cls := findClass_of_methodNamed bD.named
  have hlocks := bD.notSynchronized
  have hW := Wd.start hv
  have hA : ∀ q, s.heap.size ≤ q → AW G s.heap.size q := fun q h => Or.inr h
  have hl := lv_entry ([.ref (gA G 65), .int a1, .int a2, .int a3]) (n := 7) (Nat.le_of_ble_eq_true rfl)
  rw [lg_entry_eq]
  generalize (lg_sl ([.ref (gA G 65), .int a1, .int a2, .int a3]) ++ List.replicate (7 - (lg_sl ([.ref (gA G 65), .int a1, .int a2, .int a3])).length) Slot.unset).toArray = ls at hl ⊢
  have hl : lv_has ls 7 [(0, .ref (gA G 65)), (1, .int a1), (2, .int a2), (3, .int a3)] := hl
  have q0 := hts (.constantLong RX11 178 (-9000000000000000002)) (List.mem_of_getElem? (i := 1) rfl)
  have q1 := hts (.constantLong RX11 180 (40)) (List.mem_of_getElem? (i := 2) rfl)
  have q2 := hts (.fieldLink RX11 20 "WoodForTwoModel" "length" "[I") (List.mem_of_getElem? (i := 4) rfl)
  have q3 := hts (.fieldLink RX11 13 "WoodForTwoModel" "items" "[I") (List.mem_of_getElem? (i := 5) rfl)
  have q4 := hts (.constantLong RX11 56 (-9000000000000000001)) (List.mem_of_getElem? (i := 3) rfl)
  have iX11 : ∀ w ∈ wsX110, w ∈ wsX11_nights := fun _ h => List.mem_cons_of_mem _ (List.mem_append_right _ (h))
  generalize hQ0 : MQ bl _ _ s _ _ _ = Q0
  have hbp := BP_b hB
  obtain ⟨f, hf⟩ : ∃ f : Nat → Nat, f = (fun k => (it a1.toNatClampNeg (a2.toNatClampNeg + k)).toNatClampNeg) := ⟨_, rfl⟩
  refine lv_aload_n hx hb dX11_nights_0 rfl (lv_at hl 0 rfl) ?_
  refine r_calli hW hA (va_runV (As := []) (rest := []) ⟨hx, hb, hml, hown, hts⟩ (t_X11_isNone l D G S _ hG hP B c hB (by omega) hM) (cwV 0 hts gX11_nights_X11_isNone rfl rfl rfl (by decide +kernel) ⟨Nat.le_of_ble_eq_true rfl, Nat.le_of_ble_eq_true rfl⟩) (r_preV (k := 65) hA hW (ci := 10) (C := RX11) (T := TX11) (N := 20) rfl rfl (g_lt hG (by decide)) (g_kd hG (by decide) rfl) rfl rfl) rfl rfl hl.1 rfl (lv_room (Nat.le_of_ble_eq_true rfl)) dX11_nights_1 ⟨Nat.zero_le _, Nat.zero_le _⟩) (fun r1 S1 H locs hp1 hW => ?_)
  obtain ⟨hs1, hp1⟩ := hp1
  rw [hs1] at hW
  rcases hp1 with ⟨rfl, h1⟩ | ⟨rfl, h1⟩
  · skip
    refine lv_if_eq (tgt := 11) hx hb dX11_nights_4 (by decide) (fun c4 => ?_) (fun c4 => ?_)
    · exact absurd c4 (by decide)
    · skip
      refine lv_ldc2 (v := (-9000000000000000002)) hx hb hown q0 dX11_nights_7 ?_
      rw [← hQ0]
      refine r_lret hx hb hr hlocks hW ?_ dX11_nights_10
      refine ⟨?_, (fun j hj => rfl)⟩
      have e : fNights B it le st a1 a2 a3 = (STATEL, B, st) := by unfold fNights; rw [if_pos h1]
      rw [e]
      exact ⟨rfl, hM, fun _ _ => rfl, hst, Ch.rf⟩
  · skip
    refine lv_if_eq (tgt := 11) hx hb dX11_nights_4 (by decide) (fun c4 => ?_) (fun c4 => ?_)
    · skip
      refine lv_aload_n hx hb dX11_nights_11 rfl (lv_at hl 0 rfl) ?_
      refine lv_iload_n hx hb dX11_nights_12 rfl (lv_at hl 1 rfl) ?_
      refine r_calli hW hA (va_runV (As := [.int a1]) (rest := []) ⟨hx, hb, hml, hown, hts⟩ (t_X11_isRow l D G S _ hG hP a1) (cwV 1 hts gX11_nights_X11_isRow rfl rfl rfl (by decide +kernel) ⟨Nat.le_of_ble_eq_true rfl, Nat.le_of_ble_eq_true rfl⟩) (r_preV (k := 65) hA hW (ci := 10) (C := RX11) (T := TX11) (N := 20) rfl rfl (g_lt hG (by decide)) (g_kd hG (by decide) rfl) rfl rfl) rfl rfl hl.1 rfl (lv_room (Nat.le_of_ble_eq_true rfl)) dX11_nights_13 ⟨Nat.zero_le _, Nat.zero_le _⟩) (fun r13 S13 H locs hp13 hW => ?_)
      obtain ⟨hs13, hp13⟩ := hp13
      rw [hs13] at hW
      rcases hp13 with ⟨rfl, h13⟩ | ⟨rfl, h13⟩
      · skip
        refine lv_if_eq (tgt := 31) hx hb dX11_nights_16 (by decide) (fun c16 => ?_) (fun c16 => ?_)
        · exact absurd c16 (by decide)
        · skip
          refine lv_iload_n hx hb dX11_nights_19 rfl (lv_at hl 3 rfl) ?_
          refine lv_i2l hx hb dX11_nights_20 rfl ?_
          refine lv_lconst (v := 1) hx hb dX11_nights_21 (by decide) ?_
          refine lv_ldc2 (v := (40)) hx hb hown q1 dX11_nights_22 ?_
          refine r_calli hW hA (va_runS (As := [.long (Int32.toInt64 a3), .long 1, .long (40)]) (rest := []) ⟨hx, hb, hml, hown, hts⟩ (t_X11_in l D G S _ (Int32.toInt64 a3) 1 (40) (a3).toInt 1 40 (Int32.toInt_toInt64 _) (by decide) (by decide)) (va_cwS 3 hts gX11_nights_X11_in rfl rfl rfl (by decide +kernel) ⟨Nat.le_of_ble_eq_true rfl, Nat.le_of_ble_eq_true rfl⟩) (r_preS hA hW) rfl rfl hl.1 rfl (lv_room (Nat.le_of_ble_eq_true rfl)) dX11_nights_25 ⟨Nat.zero_le _, Nat.zero_le _⟩) (fun r25 S25 H locs hp25 hW => ?_)
          obtain ⟨hs25, hp25⟩ := hp25
          rw [hs25] at hW
          rcases hp25 with ⟨rfl, h25⟩ | ⟨rfl, h25⟩
          · skip
            refine lv_if_ne (tgt := 35) hx hb dX11_nights_28 (by decide) (fun c28 => ?_) (fun c28 => ?_)
            · skip
              have hn_a1 := n_nat (x := a1) (by omega)
              have e_a1 := n_nI (x := a1) (by omega)
              refine lv_aload_n hx hb dX11_nights_35 rfl (lv_at hl 0 rfl) ?_
              refine r_getr (ci := 10) (C := RX11) (T := TX11) (N := 20) hx hb hts iX11 hown hW rfl 65 3 rfl (g_lt hG (by decide)) (g_kd hG (by decide) rfl) (by decide) q2 (fun _ h9 => h9) (hP _ (List.mem_of_getElem? (i := 63) rfl)) rfl rfl dX11_nights_36 ?_
              refine lv_iload_n hx hb dX11_nights_39 rfl (lv_at hl 1 rfl) ?_
              refine r_iald hx hb hW 69 rfl (g_lt hG (by decide)) (g_kd hG (by decide) rfl) (g_ix hG (c := 8) (by decide) rfl (t_in (by omega) (by omega))) (le a1.toNatClampNeg) (hRX a1.toNatClampNeg (by omega)).2.1 dX11_nights_40 ?_
              refine lv_if_ge (tgt := 50) hx hb dX11_nights_41 (by decide) (fun c41 => ?_) (fun c41 => ?_)
              · skip
                rw [t_le, show (0 : Int32).toInt = 0 from by decide] at c41
                refine lv_iload_n hx hb dX11_nights_50 rfl (lv_at hl 2 rfl) ?_
                refine lv_iload_n hx hb dX11_nights_51 rfl (lv_at hl 3 rfl) ?_
                refine lv_aload_n hx hb dX11_nights_52 rfl (lv_at hl 0 rfl) ?_
                refine r_getr (ci := 10) (C := RX11) (T := TX11) (N := 20) hx hb hts iX11 hown hW rfl 65 3 rfl (g_lt hG (by decide)) (g_kd hG (by decide) rfl) (by decide) q2 (fun _ h9 => h9) (hP _ (List.mem_of_getElem? (i := 63) rfl)) rfl rfl dX11_nights_53 ?_
                refine lv_iload_n hx hb dX11_nights_56 rfl (lv_at hl 1 rfl) ?_
                refine r_iald hx hb hW 69 rfl (g_lt hG (by decide)) (g_kd hG (by decide) rfl) (g_ix hG (c := 8) (by decide) rfl (t_in (by omega) (by omega))) (le a1.toNatClampNeg) (hRX a1.toNatClampNeg (by omega)).2.1 dX11_nights_57 ?_
                refine r_calli hW hA (va_runS (As := [.int a2, .int a3, .int (le a1.toNatClampNeg)]) (rest := []) ⟨hx, hb, hml, hown, hts⟩ (t_X11_isWithin l D G S _ a2 a3 (le a1.toNatClampNeg)) (va_cwS 3 hts gX11_nights_X11_isWithin rfl rfl rfl (by decide +kernel) ⟨Nat.le_of_ble_eq_true rfl, Nat.le_of_ble_eq_true rfl⟩) (r_preS hA hW) rfl rfl hl.1 rfl (lv_room (Nat.le_of_ble_eq_true rfl)) dX11_nights_58 ⟨Nat.zero_le _, Nat.zero_le _⟩) (fun r58 S58 H locs hp58 hW => ?_)
                obtain ⟨hs58, hp58⟩ := hp58
                rw [hs58] at hW
                rcases hp58 with ⟨rfl, h58⟩ | ⟨rfl, h58⟩
                · skip
                  refine lv_if_ne (tgt := 70) hx hb dX11_nights_61 (by decide) (fun c61 => ?_) (fun c61 => ?_)
                  · skip
                    have hf0 : fos (le a1.toNatClampNeg) a2 a3 = 0 := by unfold fos; rw [if_neg (by omega), if_pos h58]
                    have hle_a1 := hL a1.toNatClampNeg (by omega)
                    have hn_a2 := n_nat (x := a2) (by omega)
                    have e_a2 := n_nI (x := a2) (by omega)
                    have hn_a3 := n_nat (x := a3) (by omega)
                    have e_a3 := n_nI (x := a3) (by omega)
                    refine lv_iconst (v := 0) hx hb dX11_nights_70 (by decide) ?_
                    refine lv_istore (lv' := [(4, .int 0), (0, .ref (gA G 65)), (1, .int a1), (2, .int a2), (3, .int a3)]) hx hb dX11_nights_71 hl (by decide) rfl (fun ls hl => ?_)
                    have L73 : ∀ (n : Nat) (k : Nat) (H : Heap) (locs : List Loc) (ls : Array Slot), (a3.toNatClampNeg - k) < n → k ≤ a3.toNatClampNeg → (∀ j, j < k → 0 ≤ (it a1.toNatClampNeg (a2.toNatClampNeg + j)).toInt ∧ (it a1.toNatClampNeg (a2.toNatClampNeg + j)).toInt < B 17) → Wd D (AW G s.heap.size) s G S H locs → lv_has ls 7 [(4, .int (nI k)), (0, .ref (gA G 65)), (1, .int a1), (2, .int a2), (3, .int a3)] → W pP l eE (headSpec wsX11_nights rmX11_nights).room s mM ([.ref (gA G 65), .int a1, .int a2, .int a3] : List Value).toArray bl mT cD H locs 0 0 Q0 (F0 mM 73 ls []) := by
                      intro n
                      induction n with
                      | zero => intro k H locs ls hm; exact absurd hm (Nat.not_lt_zero _)
                      | succ n ih73 =>
                        intro k H locs ls hm73 hk hall hW hl
                        refine lv_iload hx hb dX11_nights_73 (lv_at hl 0 rfl) ?_
                        refine lv_iload_n hx hb dX11_nights_75 rfl (lv_at hl 4 rfl) ?_
                        refine lv_icmp_ge (tgt := 111) hx hb dX11_nights_76 (by decide) (fun c76 => ?_) (fun c76 => ?_)
                        · skip
                          rw [t_le] at c76
                          have hka : k = a3.toNatClampNeg := by rw [n_toInt (by omega)] at c76; omega
                          subst hka
                          have hB1 : BP1 B c := hB.resolve_left (fun z => by have z9 := z.2 132; omega)
                          have hfj : ∀ j, j < a3.toNatClampNeg → f j < B 17 := by
                            intro j hj
                            have z := hall j hj
                            rw [hf]
                            have z4 := n_nat z.1
                            show (it a1.toNatClampNeg (a2.toNatClampNeg + j)).toNatClampNeg < B 17
                            omega
                          refine lv_lconst (v := 0) hx hb dX11_nights_111 (by decide) ?_
                          refine lv_lstore (lv' := [(4, .long 0), (0, .ref (gA G 65)), (1, .int a1), (2, .int a2), (3, .int a3)]) hx hb dX11_nights_112 hl (by decide) rfl (fun ls hl => ?_)
                          refine lv_iconst (v := 0) hx hb dX11_nights_114 (by decide) ?_
                          refine lv_istore (lv' := [(6, .int 0), (4, .long 0), (0, .ref (gA G 65)), (1, .int a1), (2, .int a2), (3, .int a3)]) hx hb dX11_nights_115 hl (by decide) rfl (fun ls hl => ?_)
                          have L117 : ∀ (n : Nat) (k : Nat) (T : Sg) (H : Heap) (locs : List Loc) (ls : Array Slot), (a3.toNatClampNeg - k) < n → k ≤ a3.toNatClampNeg → (∀ i, i < 140 → gj T 66 i = lN (ntB B f k i)) → (∀ i, 140 ≤ i → gj T 66 i = gj S 66 i) → Ch (fun j => j = 66) S T → Wd D (AW G s.heap.size) s G T H locs → lv_has ls 7 [(6, .int (nI k)), (4, .long (lN (ntS B f k))), (0, .ref (gA G 65)), (1, .int a1), (2, .int a2), (3, .int a3)] → W pP l eE (headSpec wsX11_nights rmX11_nights).room s mM ([.ref (gA G 65), .int a1, .int a2, .int a3] : List Value).toArray bl mT cD H locs 0 0 Q0 (F0 mM 117 ls []) := by
                            intro n
                            induction n with
                            | zero => intro k T H locs ls hm; exact absurd hm (Nat.not_lt_zero _)
                            | succ n ih117 =>
                              intro k T H locs ls hm117 hk hMT hGT hCT hW hl
                              have hP_T : GrP G T := fun q hq => by rw [hCT.1]; exact hP q hq
                              refine lv_iload hx hb dX11_nights_117 (lv_at hl 0 rfl) ?_
                              refine lv_iload_n hx hb dX11_nights_119 rfl (lv_at hl 5 rfl) ?_
                              refine lv_icmp_ge (tgt := 153) hx hb dX11_nights_120 (by decide) (fun c120 => ?_) (fun c120 => ?_)
                              · skip
                                rw [t_le] at c120
                                have hka : k = a3.toNatClampNeg := by rw [n_toInt (by omega)] at c120; omega
                                refine lv_aload_n hx hb dX11_nights_153 rfl (lv_at hl 2 rfl) ?_
                                refine lv_lload hx hb dX11_nights_154 (lv_at hl 1 rfl) ?_
                                refine r_calll hW hA (va_runV (As := [.long (lN (ntS B f k))]) (rest := []) ⟨hx, hb, hml, hown, hts⟩ (t_X11_good l D G T _ hG hP_T (lN (ntS B f k))) (cwV 1 hts gX11_nights_X11_good rfl rfl rfl (by decide +kernel) ⟨Nat.le_of_ble_eq_true rfl, Nat.le_of_ble_eq_true rfl⟩) (r_preV (k := 65) hA hW (ci := 10) (C := RX11) (T := TX11) (N := 20) rfl rfl (g_lt hG (by decide)) (g_kd hG (by decide) rfl) rfl rfl) rfl rfl hl.1 rfl (lv_room (Nat.le_of_ble_eq_true rfl)) dX11_nights_156 ⟨Nat.zero_le _, Nat.zero_le _⟩) (fun r156 S156 H locs hp156 hW => ?_)
                                obtain ⟨hs156, rfl⟩ := hp156
                                rw [hs156] at hW
                                rw [← hQ0]
                                refine r_lret hx hb hr hlocks hW ?_ dX11_nights_159
                                refine ⟨?_, (fun j hj => (congrFun (e_is _ _ _) j).trans ((up_n _ _ hj).trans (congrFun (hCT.2 65 (by decide)).1 j)))⟩
                                have e : fNights B it le st a1 a2 a3 = (lN (ntS B f k), ntB B f k, 0) := by unfold fNights; rw [if_neg (by omega), if_pos (by omega), if_pos hf0, if_pos hall, ← hf, hka]
                                rw [e]
                                exact ⟨rfl, fun i hi => hMT i hi, fun i hi => hGT i hi, congrFun (e_is _ _ _) 4, Ch.ri (Ch.mono hCT (fun j hj => Or.inr hj)) (Or.inl rfl)⟩
                              · skip
                                rw [t_le] at c120
                                have hkl : k < a3.toNatClampNeg := by rw [n_toInt (by omega)] at c120; omega
                                obtain ⟨hBT, h17T, hST⟩ := ntB_ok hB1 k (fun j hj => hfj j (by omega))
                                refine lv_lload hx hb dX11_nights_123 (lv_at hl 1 rfl) ?_
                                refine lv_aload_n hx hb dX11_nights_125 rfl (lv_at hl 2 rfl) ?_
                                refine lv_aload_n hx hb dX11_nights_126 rfl (lv_at hl 2 rfl) ?_
                                refine r_getr (ci := 10) (C := RX11) (T := TX11) (N := 20) hx hb hts iX11 hown hW rfl 65 1 rfl (g_lt hG (by decide)) (g_kd hG (by decide) rfl) (by decide) q3 (fun _ h9 => h9) (hP_T _ (List.mem_of_getElem? (i := 61) rfl)) rfl rfl dX11_nights_127 ?_
                                refine lv_bipush (v := 40) hx hb dX11_nights_130 (by decide) ?_
                                refine lv_iload_n hx hb dX11_nights_132 rfl (lv_at hl 3 rfl) ?_
                                refine lv_imul hx hb dX11_nights_133 ?_
                                refine lv_iload_n hx hb dX11_nights_134 rfl (lv_at hl 4 rfl) ?_
                                refine lv_iadd hx hb dX11_nights_135 ?_
                                rw [show (((40 * a1) + a2) : Int32) = (nI (40 * a1.toNatClampNeg + a2.toNatClampNeg)) from ix40 (by omega) (by omega)]
                                refine lv_iload hx hb dX11_nights_136 (lv_at hl 0 rfl) ?_
                                refine lv_iadd hx hb dX11_nights_138 ?_
                                rw [show (((nI (40 * a1.toNatClampNeg + a2.toNatClampNeg)) + (nI k)) : Int32) = (nI ((40 * a1.toNatClampNeg + a2.toNatClampNeg) + k)) from n_add (40 * a1.toNatClampNeg + a2.toNatClampNeg) k]
                                refine r_iald hx hb hW 67 rfl (g_lt hG (by decide)) (g_kd hG (by decide) rfl) (g_ix hG (c := 320) (by decide) rfl (n_inI (by omega) (by decide))) (it a1.toNatClampNeg (a2.toNatClampNeg + k)) (by rw [n_clamp (by omega), Nat.add_assoc]; exact (congrFun (hCT.2 67 (by decide)).1 _).trans ((hRX a1.toNatClampNeg (by omega)).2.2 (a2.toNatClampNeg + k) (by omega))) dX11_nights_139 ?_
                                have e_f : (it a1.toNatClampNeg (a2.toNatClampNeg + k)) = nI (f k) := by rw [hf]; exact n_nI (hall k hkl).1
                                rw [e_f]
                                refine r_calli hW hA (va_runV (As := [.int (nI (f k))]) (rest := [.long (lN (ntS B f k))]) ⟨hx, hb, hml, hown, hts⟩ (t_X11_sleep l D G T _ hG hP_T (ntB B f k) (c + k) hBT (by omega) hMT (f k) (by rw [h17T]; exact hfj k hkl)) (cwV 1 hts gX11_nights_X11_sleep rfl rfl rfl (by decide +kernel) ⟨Nat.le_of_ble_eq_true rfl, Nat.le_of_ble_eq_true rfl⟩) (r_preV (k := 65) hA hW (ci := 10) (C := RX11) (T := TX11) (N := 20) rfl rfl (g_lt hG (by decide)) (g_kd hG (by decide) rfl) rfl rfl) rfl rfl hl.1 rfl (lv_room (Nat.le_of_ble_eq_true rfl)) dX11_nights_140 ⟨Nat.zero_le _, Nat.zero_le _⟩) (fun r140 S140 H locs hp140 hW => ?_)
                                obtain ⟨rfl, rw140, hs140, hk140, hg140⟩ := hp140
                                rw [hs140] at hW
                                have hF9 := slF_le (B := ntB B f k) (p := f k) hBT.2.2.1 (hBT.2.2.2.2.2.2.2.2.2.1 (f k) (by rw [h17T]; exact hfj k hkl)).2.1
                                refine lv_i2l hx hb dX11_nights_143 rfl ?_
                                rw [show (Int32.toInt64 (nI (slF (ntB B f k) (f k))) : Int64) = lN (slF (ntB B f k) (f k)) from lN_of (by omega)]
                                refine lv_ladd hx hb dX11_nights_144 ?_
                                rw [show (((lN (ntS B f k)) + (lN (slF (ntB B f k) (f k)))) : Int64) = (lN ((ntS B f k) + (slF (ntB B f k) (f k)))) from lN_add (ntS B f k) (slF (ntB B f k) (f k))]
                                rw [show ((lN ((ntS B f k) + (slF (ntB B f k) (f k)))) : Int64) = (lN (ntS B f (k + 1))) from rfl]
                                refine lv_lstore (lv' := [(4, .long (lN (ntS B f (k + 1)))), (6, .int (nI k)), (0, .ref (gA G 65)), (1, .int a1), (2, .int a2), (3, .int a3)]) hx hb dX11_nights_145 hl (by decide) rfl (fun ls hl => ?_)
                                refine lv_iinc (v := (nI (k + 1))) (lv' := [(6, .int (nI (k + 1))), (4, .long (lN (ntS B f (k + 1)))), (0, .ref (gA G 65)), (1, .int a1), (2, .int a2), (3, .int a3)]) hx hb dX11_nights_147 hl (k := 1) rfl (nI_1 k) (by decide) rfl (fun ls hl => ?_)
                                refine lv_goto (tgt := 117) hx hb dX11_nights_150 (by decide) ?_
                                exact ih117 (k + 1) (rj T 66 rw140) _ _ ls (by omega) hkl (fun i hi => (congrFun (e_js _ _ _) i).trans (hk140 i hi)) (fun i hi => (congrFun (e_js _ _ _) i).trans ((hg140 i hi).trans (hGT i hi))) (Ch.tr hCT (Ch.rj Ch.rf rfl)) hW (lv_sub hl [0, 1, 2, 3, 4, 5] rfl)
                          exact L117 _ 0 S _ _ ls (Nat.lt_succ_self _) (Nat.zero_le _) hM (fun _ _ => rfl) Ch.rf hW (lv_sub hl [0, 1, 2, 3, 4, 5] rfl)
                        · skip
                          rw [t_le] at c76
                          have hkl : k < a3.toNatClampNeg := by rw [n_toInt (by omega)] at c76; omega
                          refine lv_aload_n hx hb dX11_nights_79 rfl (lv_at hl 1 rfl) ?_
                          refine lv_aload_n hx hb dX11_nights_80 rfl (lv_at hl 1 rfl) ?_
                          refine r_getr (ci := 10) (C := RX11) (T := TX11) (N := 20) hx hb hts iX11 hown hW rfl 65 1 rfl (g_lt hG (by decide)) (g_kd hG (by decide) rfl) (by decide) q3 (fun _ h9 => h9) (hP _ (List.mem_of_getElem? (i := 61) rfl)) rfl rfl dX11_nights_81 ?_
                          refine lv_bipush (v := 40) hx hb dX11_nights_84 (by decide) ?_
                          refine lv_iload_n hx hb dX11_nights_86 rfl (lv_at hl 2 rfl) ?_
                          refine lv_imul hx hb dX11_nights_87 ?_
                          refine lv_iload_n hx hb dX11_nights_88 rfl (lv_at hl 3 rfl) ?_
                          refine lv_iadd hx hb dX11_nights_89 ?_
                          rw [show (((40 * a1) + a2) : Int32) = (nI (40 * a1.toNatClampNeg + a2.toNatClampNeg)) from ix40 (by omega) (by omega)]
                          refine lv_iload hx hb dX11_nights_90 (lv_at hl 0 rfl) ?_
                          refine lv_iadd hx hb dX11_nights_92 ?_
                          rw [show (((nI (40 * a1.toNatClampNeg + a2.toNatClampNeg)) + (nI k)) : Int32) = (nI ((40 * a1.toNatClampNeg + a2.toNatClampNeg) + k)) from n_add (40 * a1.toNatClampNeg + a2.toNatClampNeg) k]
                          refine r_iald hx hb hW 67 rfl (g_lt hG (by decide)) (g_kd hG (by decide) rfl) (g_ix hG (c := 320) (by decide) rfl (n_inI (by omega) (by decide))) (it a1.toNatClampNeg (a2.toNatClampNeg + k)) (by rw [n_clamp (by omega), Nat.add_assoc]; exact (hRX a1.toNatClampNeg (by omega)).2.2 (a2.toNatClampNeg + k) (by omega)) dX11_nights_93 ?_
                          refine lv_i2l hx hb dX11_nights_94 rfl ?_
                          refine r_calli hW hA (va_runV (As := [.long (Int32.toInt64 (it a1.toNatClampNeg (a2.toNatClampNeg + k)))]) (rest := []) ⟨hx, hb, hml, hown, hts⟩ (t_X11_isParty l D G S _ hG hP B c hB (by omega) hM (Int32.toInt64 (it a1.toNatClampNeg (a2.toNatClampNeg + k))) ((it a1.toNatClampNeg (a2.toNatClampNeg + k))).toInt (Int32.toInt_toInt64 _)) (cwV 1 hts gX11_nights_X11_isParty rfl rfl rfl (by decide +kernel) ⟨Nat.le_of_ble_eq_true rfl, Nat.le_of_ble_eq_true rfl⟩) (r_preV (k := 65) hA hW (ci := 10) (C := RX11) (T := TX11) (N := 20) rfl rfl (g_lt hG (by decide)) (g_kd hG (by decide) rfl) rfl rfl) rfl rfl hl.1 rfl (lv_room (Nat.le_of_ble_eq_true rfl)) dX11_nights_95 ⟨Nat.zero_le _, Nat.zero_le _⟩) (fun r95 S95 H locs hp95 hW => ?_)
                          obtain ⟨hs95, hp95⟩ := hp95
                          rw [hs95] at hW
                          rcases hp95 with ⟨rfl, h95⟩ | ⟨rfl, h95⟩
                          · skip
                            refine lv_if_ne (tgt := 105) hx hb dX11_nights_98 (by decide) (fun c98 => ?_) (fun c98 => ?_)
                            · skip
                              refine lv_iinc (v := (nI (k + 1))) (lv' := [(4, .int (nI (k + 1))), (0, .ref (gA G 65)), (1, .int a1), (2, .int a2), (3, .int a3)]) hx hb dX11_nights_105 hl (k := 0) rfl (nI_1 k) (by decide) rfl (fun ls hl => ?_)
                              refine lv_goto (tgt := 73) hx hb dX11_nights_108 (by decide) ?_
                              exact ih73 (k + 1) _ _ ls (by omega) hkl (fun j hj => by rcases Nat.lt_or_eq_of_le (Nat.lt_succ_iff.mp hj) with z | z; exact hall j z; rw [z]; exact h95) hW (lv_sub hl [0, 1, 2, 3, 4] rfl)
                            · exact absurd c98 (by decide)
                          · skip
                            refine lv_if_ne (tgt := 105) hx hb dX11_nights_98 (by decide) (fun c98 => ?_) (fun c98 => ?_)
                            · exact absurd (by decide) c98
                            · skip
                              refine lv_ldc2 (v := (-9000000000000000001)) hx hb hown q4 dX11_nights_101 ?_
                              rw [← hQ0]
                              refine r_lret hx hb hr hlocks hW ?_ dX11_nights_104
                              refine ⟨?_, (fun j hj => rfl)⟩
                              have e : fNights B it le st a1 a2 a3 = (BADL, B, st) := by unfold fNights; rw [if_neg (by omega), if_pos (by omega), if_pos hf0, if_neg (fun z => h95 (z k hkl))]
                              rw [e]
                              exact ⟨rfl, hM, fun _ _ => rfl, hst, Ch.rf⟩
                    exact L73 _ 0 _ _ ls (Nat.lt_succ_self _) (Nat.zero_le _) (fun j hj => absurd hj (Nat.not_lt_zero _)) hW (lv_sub hl [0, 1, 2, 3, 4] rfl)
                  · exact absurd c61 (by decide)
                · skip
                  refine lv_if_ne (tgt := 70) hx hb dX11_nights_61 (by decide) (fun c61 => ?_) (fun c61 => ?_)
                  · exact absurd (by decide) c61
                  · skip
                    refine lv_aload_n hx hb dX11_nights_64 rfl (lv_at hl 0 rfl) ?_
                    refine lv_iconst (v := 2) hx hb dX11_nights_65 (by decide) ?_
                    refine r_calll hW hA (va_runV (As := [.int 2]) (rest := []) ⟨hx, hb, hml, hown, hts⟩ (t_X11_found l D G S _ hG hP 2) (cwV 1 hts gX11_nights_X11_found rfl rfl rfl (by decide +kernel) ⟨Nat.le_of_ble_eq_true rfl, Nat.le_of_ble_eq_true rfl⟩) (r_preV (k := 65) hA hW (ci := 10) (C := RX11) (T := TX11) (N := 20) rfl rfl (g_lt hG (by decide)) (g_kd hG (by decide) rfl) rfl rfl) rfl rfl hl.1 rfl (lv_room (Nat.le_of_ble_eq_true rfl)) dX11_nights_66 ⟨Nat.zero_le _, Nat.zero_le _⟩) (fun r66 S66 H locs hp66 hW => ?_)
                    obtain ⟨hs66, rfl⟩ := hp66
                    rw [hs66] at hW
                    rw [← hQ0]
                    refine r_lret hx hb hr hlocks hW ?_ dX11_nights_69
                    refine ⟨?_, (fun j hj => (congrFun (e_is _ _ _) j).trans ((up_n _ _ hj).trans rfl))⟩
                    have ef : fos (le a1.toNatClampNeg) a2 a3 = 2 := by unfold fos; rw [if_neg (by omega), if_neg h58]
                    have e : fNights B it le st a1 a2 a3 = (FND 2, B, 2) := by unfold fNights; rw [if_neg (by omega), if_pos (by omega), ef, if_neg (by decide)]
                    rw [e]
                    exact ⟨rfl, hM, fun _ _ => rfl, congrFun (e_is _ _ _) 4, Ch.ri Ch.rf (Or.inl rfl)⟩
              · skip
                rw [t_le, show (0 : Int32).toInt = 0 from by decide] at c41
                refine lv_aload_n hx hb dX11_nights_44 rfl (lv_at hl 0 rfl) ?_
                refine lv_iconst (v := 1) hx hb dX11_nights_45 (by decide) ?_
                refine r_calll hW hA (va_runV (As := [.int 1]) (rest := []) ⟨hx, hb, hml, hown, hts⟩ (t_X11_found l D G S _ hG hP 1) (cwV 1 hts gX11_nights_X11_found rfl rfl rfl (by decide +kernel) ⟨Nat.le_of_ble_eq_true rfl, Nat.le_of_ble_eq_true rfl⟩) (r_preV (k := 65) hA hW (ci := 10) (C := RX11) (T := TX11) (N := 20) rfl rfl (g_lt hG (by decide)) (g_kd hG (by decide) rfl) rfl rfl) rfl rfl hl.1 rfl (lv_room (Nat.le_of_ble_eq_true rfl)) dX11_nights_46 ⟨Nat.zero_le _, Nat.zero_le _⟩) (fun r46 S46 H locs hp46 hW => ?_)
                obtain ⟨hs46, rfl⟩ := hp46
                rw [hs46] at hW
                rw [← hQ0]
                refine r_lret hx hb hr hlocks hW ?_ dX11_nights_49
                refine ⟨?_, (fun j hj => (congrFun (e_is _ _ _) j).trans ((up_n _ _ hj).trans rfl))⟩
                have ef : fos (le a1.toNatClampNeg) a2 a3 = 1 := by unfold fos; rw [if_pos (by have := hL a1.toNatClampNeg (by omega); omega)]
                have e : fNights B it le st a1 a2 a3 = (FND 1, B, 1) := by unfold fNights; rw [if_neg (by omega), if_pos (by omega), ef, if_neg (by decide)]
                rw [e]
                exact ⟨rfl, hM, fun _ _ => rfl, congrFun (e_is _ _ _) 4, Ch.ri Ch.rf (Or.inl rfl)⟩
            · exact absurd c28 (by decide)
          · skip
            refine lv_if_ne (tgt := 35) hx hb dX11_nights_28 (by decide) (fun c28 => ?_) (fun c28 => ?_)
            · exact absurd (by decide) c28
            · skip
              refine lv_ldc2 (v := (-9000000000000000001)) hx hb hown q4 dX11_nights_31 ?_
              rw [← hQ0]
              refine r_lret hx hb hr hlocks hW ?_ dX11_nights_34
              refine ⟨?_, (fun j hj => rfl)⟩
              have e : fNights B it le st a1 a2 a3 = (BADL, B, st) := by unfold fNights; rw [if_neg (by omega), if_neg (by omega)]
              rw [e]
              exact ⟨rfl, hM, fun _ _ => rfl, hst, Ch.rf⟩
      · skip
        refine lv_if_eq (tgt := 31) hx hb dX11_nights_16 (by decide) (fun c16 => ?_) (fun c16 => ?_)
        · skip
          refine lv_ldc2 (v := (-9000000000000000001)) hx hb hown q4 dX11_nights_31 ?_
          rw [← hQ0]
          refine r_lret hx hb hr hlocks hW ?_ dX11_nights_34
          refine ⟨?_, (fun j hj => rfl)⟩
          have e : fNights B it le st a1 a2 a3 = (BADL, B, st) := by unfold fNights; rw [if_neg (by omega), if_neg (by omega)]
          rw [e]
          exact ⟨rfl, hM, fun _ _ => rfl, hst, Ch.rf⟩
        · exact absurd (by decide) c16
    · exact absurd (by decide) c4

set_option maxHeartbeats 4000000 in
set_option maxRecDepth 100000 in
theorem t_X11_broke_s (l : Launch) (D : Dc) (G : Gg) (S : Sg) (z : Nat) (hG : GrG G) (hP : GrP G S) (B : Nat → Nat) (c : Nat) (hB : BP B c) (hc : c < 100000) (hM : ∀ k, k < 140 → gj S 66 k = lN (B k)) (it : Nat → Nat → Int32) (la le : Nat → Int32) (hRX : RowsM S it la le) (hL : LeOK le) (st : Int32) (hst : gi S 65 4 = st) (a1 a2 a3 : Int32) : ML l yX11_broke wsX11_broke rmX11_broke D G S z [.ref (gA G 65), .int a1, .int a2, .int a3] (fun r S' => (r = (fBroke B it le st a1 a2 a3).1 ∧ gi S' 65 4 = (fBroke B it le st a1 a2 a3).2 ∧ Ch (fun k => k = 65) S S') ∧ (∀ j, j ≠ 4 → gi S' 65 j = gi S 65 j)) := by
  refine Met.ofW (cc := cX11_broke) (maxL := 13) (ret := (some .long)) (by decide +kernel) rfl ?_
  intro pP eE s mM args bl mT cD s₁ bD hml hv
  obtain ⟨rfl, hv⟩ := hv
  have hz := hv.1
  subst hz
  have hx := bD.exec
  have hb := bD.bytes
  have hr := bD.returns
  have hts := atoms_spec (ws := wsX11_broke) bD.pre
  have hown : s.vm.findClass RX11 = some mM.cls := findClass_of_methodNamed bD.named
  have hlocks := bD.notSynchronized
  have hW := Wd.start hv
  have hA : ∀ q, s.heap.size ≤ q → AW G s.heap.size q := fun q h => Or.inr h
  have hl := lv_entry ([.ref (gA G 65), .int a1, .int a2, .int a3]) (n := 13) (Nat.le_of_ble_eq_true rfl)
  rw [lg_entry_eq]
  generalize (lg_sl ([.ref (gA G 65), .int a1, .int a2, .int a3]) ++ List.replicate (13 - (lg_sl ([.ref (gA G 65), .int a1, .int a2, .int a3])).length) Slot.unset).toArray = ls at hl ⊢
  have hl : lv_has ls 13 [(0, .ref (gA G 65)), (1, .int a1), (2, .int a2), (3, .int a3)] := hl
  have q0 := hts (.constantLong RX11 178 (-9000000000000000002)) (List.mem_of_getElem? (i := 1) rfl)
  have q1 := hts (.constantLong RX11 212 (13)) (List.mem_of_getElem? (i := 2) rfl)
  have q2 := hts (.fieldLink RX11 20 "WoodForTwoModel" "length" "[I") (List.mem_of_getElem? (i := 4) rfl)
  have q3 := hts (.fieldLink RX11 13 "WoodForTwoModel" "items" "[I") (List.mem_of_getElem? (i := 5) rfl)
  have q4 := hts (.fieldLink RX11 7 "WoodForTwoModel" "w" "[J") (List.mem_of_getElem? (i := 6) rfl)
  have q5 := hts (.constantLong RX11 56 (-9000000000000000001)) (List.mem_of_getElem? (i := 3) rfl)
  have iX11 : ∀ w ∈ wsX110, w ∈ wsX11_broke := fun _ h => List.mem_cons_of_mem _ (List.mem_append_right _ (h))
  generalize hQ0 : MQ bl _ _ s _ _ _ = Q0
  have hbp := BP_b hB
  refine lv_aload_n hx hb dX11_broke_0 rfl (lv_at hl 0 rfl) ?_
  refine r_calli hW hA (va_runV (As := []) (rest := []) ⟨hx, hb, hml, hown, hts⟩ (t_X11_isNone l D G S _ hG hP B c hB hc hM) (cwV 0 hts gX11_broke_X11_isNone rfl rfl rfl (by decide +kernel) ⟨Nat.le_of_ble_eq_true rfl, Nat.le_of_ble_eq_true rfl⟩) (r_preV (k := 65) hA hW (ci := 10) (C := RX11) (T := TX11) (N := 20) rfl rfl (g_lt hG (by decide)) (g_kd hG (by decide) rfl) rfl rfl) rfl rfl hl.1 rfl (lv_room (Nat.le_of_ble_eq_true rfl)) dX11_broke_1 ⟨Nat.zero_le _, Nat.zero_le _⟩) (fun r1 S1 H locs hp1 hW => ?_)
  obtain ⟨hs1, hp1⟩ := hp1
  rw [hs1] at hW
  rcases hp1 with ⟨rfl, h1⟩ | ⟨rfl, h1⟩
  · skip
    refine lv_if_eq (tgt := 11) hx hb dX11_broke_4 (by decide) (fun c4 => ?_) (fun c4 => ?_)
    · exact absurd c4 (by decide)
    · skip
      refine lv_ldc2 (v := (-9000000000000000002)) hx hb hown q0 dX11_broke_7 ?_
      rw [← hQ0]
      refine r_lret hx hb hr hlocks hW ?_ dX11_broke_10
      refine ⟨?_, (fun j hj => rfl)⟩
      have e : fBroke B it le st a1 a2 a3 = (STATEL, st) := by unfold fBroke; rw [if_pos h1]
      rw [e]
      exact ⟨rfl, hst, Ch.rf⟩
  · skip
    refine lv_if_eq (tgt := 11) hx hb dX11_broke_4 (by decide) (fun c4 => ?_) (fun c4 => ?_)
    · skip
      refine lv_aload_n hx hb dX11_broke_11 rfl (lv_at hl 0 rfl) ?_
      refine lv_iload_n hx hb dX11_broke_12 rfl (lv_at hl 1 rfl) ?_
      refine r_calli hW hA (va_runV (As := [.int a1]) (rest := []) ⟨hx, hb, hml, hown, hts⟩ (t_X11_isRow l D G S _ hG hP a1) (cwV 1 hts gX11_broke_X11_isRow rfl rfl rfl (by decide +kernel) ⟨Nat.le_of_ble_eq_true rfl, Nat.le_of_ble_eq_true rfl⟩) (r_preV (k := 65) hA hW (ci := 10) (C := RX11) (T := TX11) (N := 20) rfl rfl (g_lt hG (by decide)) (g_kd hG (by decide) rfl) rfl rfl) rfl rfl hl.1 rfl (lv_room (Nat.le_of_ble_eq_true rfl)) dX11_broke_13 ⟨Nat.zero_le _, Nat.zero_le _⟩) (fun r13 S13 H locs hp13 hW => ?_)
      obtain ⟨hs13, hp13⟩ := hp13
      rw [hs13] at hW
      rcases hp13 with ⟨rfl, h13⟩ | ⟨rfl, h13⟩
      · skip
        refine lv_if_eq (tgt := 41) hx hb dX11_broke_16 (by decide) (fun c16 => ?_) (fun c16 => ?_)
        · exact absurd c16 (by decide)
        · skip
          refine lv_iload_n hx hb dX11_broke_19 rfl (lv_at hl 2 rfl) ?_
          refine lv_i2l hx hb dX11_broke_20 rfl ?_
          refine lv_lconst (v := 1) hx hb dX11_broke_21 (by decide) ?_
          refine lv_ldc2 (v := (13)) hx hb hown q1 dX11_broke_22 ?_
          refine r_calli hW hA (va_runS (As := [.long (Int32.toInt64 a2), .long 1, .long (13)]) (rest := []) ⟨hx, hb, hml, hown, hts⟩ (t_X11_in l D G S _ (Int32.toInt64 a2) 1 (13) (a2).toInt 1 13 (Int32.toInt_toInt64 _) (by decide) (by decide)) (va_cwS 3 hts gX11_broke_X11_in rfl rfl rfl (by decide +kernel) ⟨Nat.le_of_ble_eq_true rfl, Nat.le_of_ble_eq_true rfl⟩) (r_preS hA hW) rfl rfl hl.1 rfl (lv_room (Nat.le_of_ble_eq_true rfl)) dX11_broke_25 ⟨Nat.zero_le _, Nat.zero_le _⟩) (fun r25 S25 H locs hp25 hW => ?_)
          obtain ⟨hs25, hp25⟩ := hp25
          rw [hs25] at hW
          rcases hp25 with ⟨rfl, h25⟩ | ⟨rfl, h25⟩
          · skip
            refine lv_if_eq (tgt := 41) hx hb dX11_broke_28 (by decide) (fun c28 => ?_) (fun c28 => ?_)
            · exact absurd c28 (by decide)
            · skip
              refine lv_iload_n hx hb dX11_broke_31 rfl (lv_at hl 3 rfl) ?_
              refine lv_i2l hx hb dX11_broke_32 rfl ?_
              refine lv_lconst (v := 0) hx hb dX11_broke_33 (by decide) ?_
              refine lv_lconst (v := 1) hx hb dX11_broke_34 (by decide) ?_
              refine r_calli hW hA (va_runS (As := [.long (Int32.toInt64 a3), .long 0, .long 1]) (rest := []) ⟨hx, hb, hml, hown, hts⟩ (t_X11_in l D G S _ (Int32.toInt64 a3) 0 1 (a3).toInt 0 1 (Int32.toInt_toInt64 _) (by decide) (by decide)) (va_cwS 3 hts gX11_broke_X11_in rfl rfl rfl (by decide +kernel) ⟨Nat.le_of_ble_eq_true rfl, Nat.le_of_ble_eq_true rfl⟩) (r_preS hA hW) rfl rfl hl.1 rfl (lv_room (Nat.le_of_ble_eq_true rfl)) dX11_broke_35 ⟨Nat.zero_le _, Nat.zero_le _⟩) (fun r35 S35 H locs hp35 hW => ?_)
              obtain ⟨hs35, hp35⟩ := hp35
              rw [hs35] at hW
              rcases hp35 with ⟨rfl, h35⟩ | ⟨rfl, h35⟩
              · skip
                refine lv_if_ne (tgt := 45) hx hb dX11_broke_38 (by decide) (fun c38 => ?_) (fun c38 => ?_)
                · skip
                  have hn_a1 := n_nat (x := a1) (by omega)
                  have e_a1 := n_nI (x := a1) (by omega)
                  have hn_a2 := n_nat (x := a2) (by omega)
                  have e_a2 := n_nI (x := a2) (by omega)
                  have hle_a1 := hL a1.toNatClampNeg (by omega)
                  refine lv_aload_n hx hb dX11_broke_45 rfl (lv_at hl 0 rfl) ?_
                  refine r_getr (ci := 10) (C := RX11) (T := TX11) (N := 20) hx hb hts iX11 hown hW rfl 65 3 rfl (g_lt hG (by decide)) (g_kd hG (by decide) rfl) (by decide) q2 (fun _ h9 => h9) (hP _ (List.mem_of_getElem? (i := 63) rfl)) rfl rfl dX11_broke_46 ?_
                  refine lv_iload_n hx hb dX11_broke_49 rfl (lv_at hl 1 rfl) ?_
                  refine r_iald hx hb hW 69 rfl (g_lt hG (by decide)) (g_kd hG (by decide) rfl) (g_ix hG (c := 8) (by decide) rfl (t_in (by omega) (by omega))) (le a1.toNatClampNeg) (hRX a1.toNatClampNeg (by omega)).2.1 dX11_broke_50 ?_
                  refine lv_if_ge (tgt := 60) hx hb dX11_broke_51 (by decide) (fun c51 => ?_) (fun c51 => ?_)
                  · skip
                    rw [t_le, show (0 : Int32).toInt = 0 from by decide] at c51
                    refine lv_iconst (v := 3) hx hb dX11_broke_60 (by decide) ?_
                    refine lv_iload_n hx hb dX11_broke_61 rfl (lv_at hl 2 rfl) ?_
                    refine lv_imul hx hb dX11_broke_62 ?_
                    rw [show ((3 * a2) : Int32) = (nI (3 * a2.toNatClampNeg)) from (congrArg (fun z => (3 : Int32) * z) e_a2).trans (n_mul 3 _)]
                    refine lv_aload_n hx hb dX11_broke_63 rfl (lv_at hl 0 rfl) ?_
                    refine r_getr (ci := 10) (C := RX11) (T := TX11) (N := 20) hx hb hts iX11 hown hW rfl 65 3 rfl (g_lt hG (by decide)) (g_kd hG (by decide) rfl) (by decide) q2 (fun _ h9 => h9) (hP _ (List.mem_of_getElem? (i := 63) rfl)) rfl rfl dX11_broke_64 ?_
                    refine lv_iload_n hx hb dX11_broke_67 rfl (lv_at hl 1 rfl) ?_
                    refine r_iald hx hb hW 69 rfl (g_lt hG (by decide)) (g_kd hG (by decide) rfl) (g_ix hG (c := 8) (by decide) rfl (t_in (by omega) (by omega))) (le a1.toNatClampNeg) (hRX a1.toNatClampNeg (by omega)).2.1 dX11_broke_68 ?_
                    refine lv_icmp_le (tgt := 78) hx hb dX11_broke_69 (by decide) (fun c69 => ?_) (fun c69 => ?_)
                    · skip
                      rw [t_le] at c69
                      rw [n_toInt (by omega)] at c69
                      have hf0 : fos (le a1.toNatClampNeg) 0 (nI (3 * a2.toNatClampNeg)) = 0 := by unfold fos; rw [if_neg (by omega), if_pos ⟨by decide, by rw [n_toInt (by omega)]; omega, by rw [n_toInt (by omega), show (0 : Int32).toInt = 0 from by decide]; omega⟩]
                      refine lv_aload_n hx hb dX11_broke_78 rfl (lv_at hl 0 rfl) ?_
                      refine lv_iload_n hx hb dX11_broke_79 rfl (lv_at hl 1 rfl) ?_
                      refine lv_iconst (v := 3) hx hb dX11_broke_80 (by decide) ?_
                      refine lv_iload_n hx hb dX11_broke_81 rfl (lv_at hl 2 rfl) ?_
                      refine lv_imul hx hb dX11_broke_82 ?_
                      rw [show ((3 * a2) : Int32) = (nI (3 * a2.toNatClampNeg)) from (congrArg (fun z => (3 : Int32) * z) e_a2).trans (n_mul 3 _)]
                      refine lv_iconst (v := 0) hx hb dX11_broke_83 (by decide) ?_
                      refine lv_sipush (v := 999) hx hb dX11_broke_84 (by decide) ?_
                      refine lv_iconst (v := 3) hx hb dX11_broke_87 (by decide) ?_
                      refine W.eq (g2 := F0 mM 88 ls [.int 3, .int 999, .int 0, .int (nI (3 * a2.toNatClampNeg)), .int (nI a1.toNatClampNeg), .ref (gA G 65)]) (by rw [← e_a1]) ?_
                      refine r_calli hW hA (va_runV (As := [.int (nI a1.toNatClampNeg), .int (nI (3 * a2.toNatClampNeg)), .int 0, .int 999, .int 3]) (rest := []) ⟨hx, hb, hml, hown, hts⟩ (t_X11_areWithin_3 l D G S _ hG hP it la le hRX a1.toNatClampNeg (3 * a2.toNatClampNeg) (by omega) (by omega)) (cwV 5 hts gX11_broke_X11_areWithin rfl rfl rfl (by decide +kernel) ⟨Nat.le_of_ble_eq_true rfl, Nat.le_of_ble_eq_true rfl⟩) (r_preV (k := 65) hA hW (ci := 10) (C := RX11) (T := TX11) (N := 20) rfl rfl (g_lt hG (by decide)) (g_kd hG (by decide) rfl) rfl rfl) rfl rfl hl.1 rfl (lv_room (Nat.le_of_ble_eq_true rfl)) dX11_broke_88 ⟨Nat.zero_le _, Nat.zero_le _⟩) (fun r88 S88 H locs hp88 hW => ?_)
                      obtain ⟨hs88, hp88⟩ := hp88
                      rw [hs88] at hW
                      rcases hp88 with ⟨rfl, h88⟩ | ⟨rfl, h88⟩
                      · skip
                        refine lv_if_ne (tgt := 98) hx hb dX11_broke_91 (by decide) (fun c91 => ?_) (fun c91 => ?_)
                        · skip
                          have hall := wOK3_nt.mp h88
                          have hB1 : BP1 B c := hB.resolve_left (fun z => by have z9 := z.2 132; omega)
                          obtain ⟨b0, b1, b2, b3, b4, b5, b6, b7, b8, b9, b10, b11, b12⟩ := id hB1
                          refine lv_lconst (v := 0) hx hb dX11_broke_98 (by decide) ?_
                          refine lv_lstore (lv' := [(4, .long 0), (0, .ref (gA G 65)), (1, .int a1), (2, .int a2), (3, .int a3)]) hx hb dX11_broke_99 hl (by decide) rfl (fun ls hl => ?_)
                          refine lv_lconst (v := 0) hx hb dX11_broke_101 (by decide) ?_
                          refine lv_lstore (lv' := [(6, .long 0), (4, .long 0), (0, .ref (gA G 65)), (1, .int a1), (2, .int a2), (3, .int a3)]) hx hb dX11_broke_102 hl (by decide) rfl (fun ls hl => ?_)
                          refine lv_iconst (v := 0) hx hb dX11_broke_104 (by decide) ?_
                          refine lv_istore (lv' := [(8, .int 0), (6, .long 0), (4, .long 0), (0, .ref (gA G 65)), (1, .int a1), (2, .int a2), (3, .int a3)]) hx hb dX11_broke_105 hl (by decide) rfl (fun ls hl => ?_)
                          have L107 : ∀ (n : Nat) (k : Nat) (H : Heap) (locs : List Loc) (ls : Array Slot), (a2.toNatClampNeg - k) < n → k ≤ a2.toNatClampNeg → Wd D (AW G s.heap.size) s G S H locs → lv_has ls 13 [(8, .int (nI k)), (4, .long (whoF (fun k => 0 < lkN B (it a1.toNatClampNeg) k) k)), (6, .long (lN (lkS B (it a1.toNatClampNeg) k))), (0, .ref (gA G 65)), (1, .int a1), (2, .int a2), (3, .int a3)] → W pP l eE (headSpec wsX11_broke rmX11_broke).room s mM ([.ref (gA G 65), .int a1, .int a2, .int a3] : List Value).toArray bl mT cD H locs 0 0 Q0 (F0 mM 107 ls []) := by
                            intro n
                            induction n with
                            | zero => intro k H locs ls hm; exact absurd hm (Nat.not_lt_zero _)
                            | succ n ih107 =>
                              intro k H locs ls hm107 hk hW hl
                              refine lv_iload hx hb dX11_broke_107 (lv_at hl 0 rfl) ?_
                              refine lv_iload_n hx hb dX11_broke_109 rfl (lv_at hl 5 rfl) ?_
                              refine lv_icmp_ge (tgt := 255) hx hb dX11_broke_110 (by decide) (fun c110 => ?_) (fun c110 => ?_)
                              · skip
                                rw [t_le] at c110
                                have hka : k = a2.toNatClampNeg := by rw [n_toInt (by omega)] at c110; omega
                                refine lv_aload_n hx hb dX11_broke_255 rfl (lv_at hl 3 rfl) ?_
                                refine lv_iload_n hx hb dX11_broke_256 rfl (lv_at hl 6 rfl) ?_
                                refine lv_if_ne (tgt := 265) hx hb dX11_broke_257 (by decide) (fun c257 => ?_) (fun c257 => ?_)
                                · skip
                                  rw [t_eq, show (0 : Int32).toInt = 0 from by decide] at c257
                                  refine lv_lload hx hb dX11_broke_265 (lv_at hl 2 rfl) ?_
                                  refine r_calll hW hA (va_runV (As := [.long (lN (lkS B (it a1.toNatClampNeg) k))]) (rest := []) ⟨hx, hb, hml, hown, hts⟩ (t_X11_good l D G S _ hG hP (lN (lkS B (it a1.toNatClampNeg) k))) (cwV 1 hts gX11_broke_X11_good rfl rfl rfl (by decide +kernel) ⟨Nat.le_of_ble_eq_true rfl, Nat.le_of_ble_eq_true rfl⟩) (r_preV (k := 65) hA hW (ci := 10) (C := RX11) (T := TX11) (N := 20) rfl rfl (g_lt hG (by decide)) (g_kd hG (by decide) rfl) rfl rfl) rfl rfl hl.1 rfl (lv_room (Nat.le_of_ble_eq_true rfl)) dX11_broke_267 ⟨Nat.zero_le _, Nat.zero_le _⟩) (fun r267 S267 H locs hp267 hW => ?_)
                                  obtain ⟨hs267, rfl⟩ := hp267
                                  rw [hs267] at hW
                                  rw [← hQ0]
                                  refine r_lret hx hb hr hlocks hW ?_ dX11_broke_270
                                  refine ⟨?_, (fun j hj => (congrFun (e_is _ _ _) j).trans ((up_n _ _ hj).trans rfl))⟩
                                  subst hka
                                  have e : fBroke B it le st a1 a2 a3 = (lN (lkS B (it a1.toNatClampNeg) a2.toNatClampNeg), 0) := by unfold fBroke; rw [if_neg h1, if_pos (by omega), if_pos hf0, if_pos hall, if_neg c257]
                                  rw [e]
                                  exact ⟨rfl, congrFun (e_is _ _ _) 4, (Ch.ri Ch.rf (by omega))⟩
                                · skip
                                  rw [t_eq, show (0 : Int32).toInt = 0 from by decide] at c257
                                  refine lv_lload hx hb dX11_broke_260 (lv_at hl 1 rfl) ?_
                                  refine lv_goto (tgt := 267) hx hb dX11_broke_262 (by decide) ?_
                                  refine r_calll hW hA (va_runV (As := [.long (whoF (fun k => 0 < lkN B (it a1.toNatClampNeg) k) k)]) (rest := []) ⟨hx, hb, hml, hown, hts⟩ (t_X11_good l D G S _ hG hP (whoF (fun k => 0 < lkN B (it a1.toNatClampNeg) k) k)) (cwV 1 hts gX11_broke_X11_good rfl rfl rfl (by decide +kernel) ⟨Nat.le_of_ble_eq_true rfl, Nat.le_of_ble_eq_true rfl⟩) (r_preV (k := 65) hA hW (ci := 10) (C := RX11) (T := TX11) (N := 20) rfl rfl (g_lt hG (by decide)) (g_kd hG (by decide) rfl) rfl rfl) rfl rfl hl.1 rfl (lv_room (Nat.le_of_ble_eq_true rfl)) dX11_broke_267 ⟨Nat.zero_le _, Nat.zero_le _⟩) (fun r267 S267 H locs hp267 hW => ?_)
                                  obtain ⟨hs267, rfl⟩ := hp267
                                  rw [hs267] at hW
                                  rw [← hQ0]
                                  refine r_lret hx hb hr hlocks hW ?_ dX11_broke_270
                                  refine ⟨?_, (fun j hj => (congrFun (e_is _ _ _) j).trans ((up_n _ _ hj).trans rfl))⟩
                                  subst hka
                                  have e : fBroke B it le st a1 a2 a3 = (whoF (fun k => 0 < lkN B (it a1.toNatClampNeg) k) a2.toNatClampNeg, 0) := by unfold fBroke; rw [if_neg h1, if_pos (by omega), if_pos hf0, if_pos hall, if_pos c257]
                                  rw [e]
                                  exact ⟨rfl, congrFun (e_is _ _ _) 4, (Ch.ri Ch.rf (by omega))⟩
                              · skip
                                rw [t_le] at c110
                                have hkl : k < a2.toNatClampNeg := by rw [n_toInt (by omega)] at c110; omega
                                refine lv_aload_n hx hb dX11_broke_113 rfl (lv_at hl 3 rfl) ?_
                                refine r_getr (ci := 10) (C := RX11) (T := TX11) (N := 20) hx hb hts iX11 hown hW rfl 65 1 rfl (g_lt hG (by decide)) (g_kd hG (by decide) rfl) (by decide) q3 (fun _ h9 => h9) (hP _ (List.mem_of_getElem? (i := 61) rfl)) rfl rfl dX11_broke_114 ?_
                                refine lv_bipush (v := 40) hx hb dX11_broke_117 (by decide) ?_
                                refine lv_iload_n hx hb dX11_broke_119 rfl (lv_at hl 4 rfl) ?_
                                refine lv_imul hx hb dX11_broke_120 ?_
                                rw [show ((40 * a1) : Int32) = (nI (40 * a1.toNatClampNeg)) from (congrArg (fun z => (40 : Int32) * z) e_a1).trans (n_mul 40 _)]
                                refine lv_iconst (v := 3) hx hb dX11_broke_121 (by decide) ?_
                                refine lv_iload hx hb dX11_broke_122 (lv_at hl 0 rfl) ?_
                                refine lv_imul hx hb dX11_broke_124 ?_
                                rw [show ((3 * (nI k)) : Int32) = (nI (3 * k)) from n_mul 3 k]
                                refine lv_iadd hx hb dX11_broke_125 ?_
                                rw [show (((nI (40 * a1.toNatClampNeg)) + (nI (3 * k))) : Int32) = (nI ((40 * a1.toNatClampNeg) + (3 * k))) from n_add (40 * a1.toNatClampNeg) (3 * k)]
                                refine r_iald hx hb hW 67 rfl (g_lt hG (by decide)) (g_kd hG (by decide) rfl) (g_ix hG (c := 320) (by decide) rfl (n_inI (by omega) (by decide))) (it a1.toNatClampNeg (3 * k)) (by rw [n_clamp (by omega)]; exact (hRX a1.toNatClampNeg (by omega)).2.2 (3 * k) (by omega)) dX11_broke_126 ?_
                                have hok := hall k hkl
                                obtain ⟨⟨g1, g2⟩, ⟨g3, g4⟩, g5, g6⟩ := id hok
                                have e0 : (it a1.toNatClampNeg (3 * k)) = nI (it a1.toNatClampNeg (3 * k)).toNatClampNeg := n_nI (by omega)
                                have e1 : (it a1.toNatClampNeg (3 * k + 1)) = nI (it a1.toNatClampNeg (3 * k + 1)).toNatClampNeg := n_nI (by omega)
                                have e2 : (it a1.toNatClampNeg (3 * k + 2)) = nI (it a1.toNatClampNeg (3 * k + 2)).toNatClampNeg := n_nI (by omega)
                                have f0 := n_nat (x := (it a1.toNatClampNeg (3 * k))) (by omega)
                                have f1 := n_nat (x := (it a1.toNatClampNeg (3 * k + 1))) (by omega)
                                have f2 := n_nat (x := (it a1.toNatClampNeg (3 * k + 2))) (by omega)
                                have hmb : (it a1.toNatClampNeg (3 * k)).toNatClampNeg * B 1 ≤ 9 * 9 := Nat.mul_le_mul (by omega) b3
                                have ez : ((it a1.toNatClampNeg (3 * k)) : Int32) = (nI (it a1.toNatClampNeg (3 * k)).toNatClampNeg) := e0
                                refine W.eq (g2 := F0 mM 127 ls [.int (nI (it a1.toNatClampNeg (3 * k)).toNatClampNeg)]) (by rw [← ez]) ?_
                                refine lv_istore (lv' := [(9, .int (nI (it a1.toNatClampNeg (3 * k)).toNatClampNeg)), (8, .int (nI k)), (4, .long (whoF (fun k => 0 < lkN B (it a1.toNatClampNeg) k) k)), (6, .long (lN (lkS B (it a1.toNatClampNeg) k))), (0, .ref (gA G 65)), (1, .int a1), (2, .int a2), (3, .int a3)]) hx hb dX11_broke_127 hl (by decide) rfl (fun ls hl => ?_)
                                refine lv_aload_n hx hb dX11_broke_129 rfl (lv_at hl 4 rfl) ?_
                                refine r_getr (ci := 10) (C := RX11) (T := TX11) (N := 20) hx hb hts iX11 hown hW rfl 65 1 rfl (g_lt hG (by decide)) (g_kd hG (by decide) rfl) (by decide) q3 (fun _ h9 => h9) (hP _ (List.mem_of_getElem? (i := 61) rfl)) rfl rfl dX11_broke_130 ?_
                                refine lv_bipush (v := 40) hx hb dX11_broke_133 (by decide) ?_
                                refine lv_iload_n hx hb dX11_broke_135 rfl (lv_at hl 5 rfl) ?_
                                refine lv_imul hx hb dX11_broke_136 ?_
                                rw [show ((40 * a1) : Int32) = (nI (40 * a1.toNatClampNeg)) from (congrArg (fun z => (40 : Int32) * z) e_a1).trans (n_mul 40 _)]
                                refine lv_iconst (v := 3) hx hb dX11_broke_137 (by decide) ?_
                                refine lv_iload hx hb dX11_broke_138 (lv_at hl 1 rfl) ?_
                                refine lv_imul hx hb dX11_broke_140 ?_
                                rw [show ((3 * (nI k)) : Int32) = (nI (3 * k)) from n_mul 3 k]
                                refine lv_iadd hx hb dX11_broke_141 ?_
                                rw [show (((nI (40 * a1.toNatClampNeg)) + (nI (3 * k))) : Int32) = (nI ((40 * a1.toNatClampNeg) + (3 * k))) from n_add (40 * a1.toNatClampNeg) (3 * k)]
                                refine lv_iconst (v := 1) hx hb dX11_broke_142 (by decide) ?_
                                refine lv_iadd hx hb dX11_broke_143 ?_
                                rw [show (((nI ((40 * a1.toNatClampNeg) + (3 * k))) + 1) : Int32) = (nI (((40 * a1.toNatClampNeg) + (3 * k)) + 1)) from n_add ((40 * a1.toNatClampNeg) + (3 * k)) 1]
                                refine r_iald hx hb hW 67 rfl (g_lt hG (by decide)) (g_kd hG (by decide) rfl) (g_ix hG (c := 320) (by decide) rfl (n_inI (by omega) (by decide))) (it a1.toNatClampNeg (3 * k + 1)) (by rw [n_clamp (by omega), Nat.add_assoc]; exact (hRX a1.toNatClampNeg (by omega)).2.2 (3 * k + 1) (by omega)) dX11_broke_144 ?_
                                have ez : ((it a1.toNatClampNeg (3 * k + 1)) : Int32) = (nI (it a1.toNatClampNeg (3 * k + 1)).toNatClampNeg) := e1
                                refine W.eq (g2 := F0 mM 145 ls [.int (nI (it a1.toNatClampNeg (3 * k + 1)).toNatClampNeg)]) (by rw [← ez]) ?_
                                refine lv_iload hx hb dX11_broke_145 (lv_at hl 0 rfl) ?_
                                refine lv_aload_n hx hb dX11_broke_147 rfl (lv_at hl 4 rfl) ?_
                                refine r_getr (ci := 10) (C := RX11) (T := TX11) (N := 20) hx hb hts iX11 hown hW rfl 65 0 rfl (g_lt hG (by decide)) (g_kd hG (by decide) rfl) (by decide) q4 (fun _ h9 => h9) (hP _ (List.mem_of_getElem? (i := 60) rfl)) rfl rfl dX11_broke_148 ?_
                                refine lv_iconst (v := 1) hx hb dX11_broke_151 (by decide) ?_
                                refine W.eq (g2 := F0 mM 152 ls [.int (nI 1), .ref (gA G 66), .int (nI (it a1.toNatClampNeg (3 * k)).toNatClampNeg), .int (nI (it a1.toNatClampNeg (3 * k + 1)).toNatClampNeg)]) rfl ?_
                                refine r_lald hx hb hW 66 rfl (g_lt hG (by decide)) (g_kd hG (by decide) rfl) (g_ix hG (c := 560) (by decide) rfl (n_inI (by omega) (by decide))) (lN (B 1)) (by rw [n_clamp (by omega)]; exact (hM 1 (by omega))) dX11_broke_152 ?_
                                refine lv_l2i hx hb dX11_broke_153 rfl ?_
                                rw [show (Int64.toInt32 (lN (B 1)) : Int32) = nI (B 1) from lN_i _]
                                refine lv_imul hx hb dX11_broke_154 ?_
                                rw [show (((nI (it a1.toNatClampNeg (3 * k)).toNatClampNeg) * (nI (B 1))) : Int32) = (nI (((it a1.toNatClampNeg (3 * k)).toNatClampNeg) * (B 1))) from n_mul ((it a1.toNatClampNeg (3 * k)).toNatClampNeg) (B 1)]
                                refine lv_isub hx hb dX11_broke_155 ?_
                                refine lv_istore (lv' := [(10, .int ((nI (it a1.toNatClampNeg (3 * k + 1)).toNatClampNeg) - (nI (((it a1.toNatClampNeg (3 * k)).toNatClampNeg) * (B 1))))), (9, .int (nI (it a1.toNatClampNeg (3 * k)).toNatClampNeg)), (8, .int (nI k)), (4, .long (whoF (fun k => 0 < lkN B (it a1.toNatClampNeg) k) k)), (6, .long (lN (lkS B (it a1.toNatClampNeg) k))), (0, .ref (gA G 65)), (1, .int a1), (2, .int a2), (3, .int a3)]) hx hb dX11_broke_156 hl (by decide) rfl (fun ls hl => ?_)
                                refine lv_aload_n hx hb dX11_broke_158 rfl (lv_at hl 5 rfl) ?_
                                refine r_getr (ci := 10) (C := RX11) (T := TX11) (N := 20) hx hb hts iX11 hown hW rfl 65 1 rfl (g_lt hG (by decide)) (g_kd hG (by decide) rfl) (by decide) q3 (fun _ h9 => h9) (hP _ (List.mem_of_getElem? (i := 61) rfl)) rfl rfl dX11_broke_159 ?_
                                refine lv_bipush (v := 40) hx hb dX11_broke_162 (by decide) ?_
                                refine lv_iload_n hx hb dX11_broke_164 rfl (lv_at hl 6 rfl) ?_
                                refine lv_imul hx hb dX11_broke_165 ?_
                                rw [show ((40 * a1) : Int32) = (nI (40 * a1.toNatClampNeg)) from (congrArg (fun z => (40 : Int32) * z) e_a1).trans (n_mul 40 _)]
                                refine lv_iconst (v := 3) hx hb dX11_broke_166 (by decide) ?_
                                refine lv_iload hx hb dX11_broke_167 (lv_at hl 2 rfl) ?_
                                refine lv_imul hx hb dX11_broke_169 ?_
                                rw [show ((3 * (nI k)) : Int32) = (nI (3 * k)) from n_mul 3 k]
                                refine lv_iadd hx hb dX11_broke_170 ?_
                                rw [show (((nI (40 * a1.toNatClampNeg)) + (nI (3 * k))) : Int32) = (nI ((40 * a1.toNatClampNeg) + (3 * k))) from n_add (40 * a1.toNatClampNeg) (3 * k)]
                                refine lv_iconst (v := 2) hx hb dX11_broke_171 (by decide) ?_
                                refine lv_iadd hx hb dX11_broke_172 ?_
                                rw [show (((nI ((40 * a1.toNatClampNeg) + (3 * k))) + 2) : Int32) = (nI (((40 * a1.toNatClampNeg) + (3 * k)) + 2)) from n_add ((40 * a1.toNatClampNeg) + (3 * k)) 2]
                                refine r_iald hx hb hW 67 rfl (g_lt hG (by decide)) (g_kd hG (by decide) rfl) (g_ix hG (c := 320) (by decide) rfl (n_inI (by omega) (by decide))) (it a1.toNatClampNeg (3 * k + 2)) (by rw [n_clamp (by omega), Nat.add_assoc]; exact (hRX a1.toNatClampNeg (by omega)).2.2 (3 * k + 2) (by omega)) dX11_broke_173 ?_
                                have ez : ((it a1.toNatClampNeg (3 * k + 2)) : Int32) = (nI (it a1.toNatClampNeg (3 * k + 2)).toNatClampNeg) := e2
                                refine W.eq (g2 := F0 mM 174 ls [.int (nI (it a1.toNatClampNeg (3 * k + 2)).toNatClampNeg)]) (by rw [← ez]) ?_
                                refine lv_iload hx hb dX11_broke_174 (lv_at hl 0 rfl) ?_
                                refine lv_if_le (tgt := 184) hx hb dX11_broke_176 (by decide) (fun c176 => ?_) (fun c176 => ?_)
                                · skip
                                  rw [t_le, show (0 : Int32).toInt = 0 from by decide] at c176
                                  rw [t_sub (by rw [n_toInt (by omega), n_toInt (by omega)]; omega) (by rw [n_toInt (by omega), n_toInt (by omega)]; omega), n_toInt (by omega), n_toInt (by omega)] at c176
                                  refine lv_iconst (v := 0) hx hb dX11_broke_184 (by decide) ?_
                                  have ez : (0 : Int32) = (nI ((it a1.toNatClampNeg (3 * k + 1)).toNatClampNeg - (it a1.toNatClampNeg (3 * k)).toNatClampNeg * B 1)) := by rw [show (it a1.toNatClampNeg (3 * k + 1)).toNatClampNeg - (it a1.toNatClampNeg (3 * k)).toNatClampNeg * B 1 = 0 by omega]; rfl
                                  refine W.eq (g2 := F0 mM 185 ls [.int (nI ((it a1.toNatClampNeg (3 * k + 1)).toNatClampNeg - (it a1.toNatClampNeg (3 * k)).toNatClampNeg * B 1)), .int (nI (it a1.toNatClampNeg (3 * k + 2)).toNatClampNeg)]) (by rw [← ez]) ?_
                                  refine lv_isub hx hb dX11_broke_185 ?_
                                  refine lv_istore (lv' := [(11, .int ((nI (it a1.toNatClampNeg (3 * k + 2)).toNatClampNeg) - (nI ((it a1.toNatClampNeg (3 * k + 1)).toNatClampNeg - (it a1.toNatClampNeg (3 * k)).toNatClampNeg * B 1)))), (10, .int ((nI (it a1.toNatClampNeg (3 * k + 1)).toNatClampNeg) - (nI (((it a1.toNatClampNeg (3 * k)).toNatClampNeg) * (B 1))))), (9, .int (nI (it a1.toNatClampNeg (3 * k)).toNatClampNeg)), (8, .int (nI k)), (4, .long (whoF (fun k => 0 < lkN B (it a1.toNatClampNeg) k) k)), (6, .long (lN (lkS B (it a1.toNatClampNeg) k))), (0, .ref (gA G 65)), (1, .int a1), (2, .int a2), (3, .int a3)]) hx hb dX11_broke_186 hl (by decide) rfl (fun ls hl => ?_)
                                  refine lv_aload_n hx hb dX11_broke_188 rfl (lv_at hl 6 rfl) ?_
                                  refine lv_aload_n hx hb dX11_broke_189 rfl (lv_at hl 6 rfl) ?_
                                  refine r_getr (ci := 10) (C := RX11) (T := TX11) (N := 20) hx hb hts iX11 hown hW rfl 65 0 rfl (g_lt hG (by decide)) (g_kd hG (by decide) rfl) (by decide) q4 (fun _ h9 => h9) (hP _ (List.mem_of_getElem? (i := 60) rfl)) rfl rfl dX11_broke_190 ?_
                                  refine lv_iconst (v := 2) hx hb dX11_broke_193 (by decide) ?_
                                  refine W.eq (g2 := F0 mM 194 ls [.int (nI 2), .ref (gA G 66), .ref (gA G 65)]) rfl ?_
                                  refine r_lald hx hb hW 66 rfl (g_lt hG (by decide)) (g_kd hG (by decide) rfl) (g_ix hG (c := 560) (by decide) rfl (n_inI (by omega) (by decide))) (lN (B 2)) (by rw [n_clamp (by omega)]; exact (hM 2 (by omega))) dX11_broke_194 ?_
                                  refine lv_l2i hx hb dX11_broke_195 rfl ?_
                                  rw [show (Int64.toInt32 (lN (B 2)) : Int32) = nI (B 2) from lN_i _]
                                  refine lv_iload hx hb dX11_broke_196 (lv_at hl 2 rfl) ?_
                                  refine r_calli hW hA (va_runV (As := [.int (nI (B 2)), .int (nI (it a1.toNatClampNeg (3 * k)).toNatClampNeg)]) (rest := []) ⟨hx, hb, hml, hown, hts⟩ (t_X11_dueOf l D G S _ hG hP (B 3) (B 1) (B 2) (it a1.toNatClampNeg (3 * k)).toNatClampNeg (hM 3 (by omega)) (hM 1 (by omega)) b4 (by omega) (by omega) b5 b3) (cwV 2 hts gX11_broke_X11_dueOf rfl rfl rfl (by decide +kernel) ⟨Nat.le_of_ble_eq_true rfl, Nat.le_of_ble_eq_true rfl⟩) (r_preV (k := 65) hA hW (ci := 10) (C := RX11) (T := TX11) (N := 20) rfl rfl (g_lt hG (by decide)) (g_kd hG (by decide) rfl) rfl rfl) rfl rfl hl.1 rfl (lv_room (Nat.le_of_ble_eq_true rfl)) dX11_broke_198 ⟨Nat.zero_le _, Nat.zero_le _⟩) (fun r198 S198 H locs hp198 hW => ?_)
                                  obtain ⟨hs198, rfl⟩ := hp198
                                  rw [hs198] at hW
                                  have hd : dueN (B 3) (B 1) (B 2) (it a1.toNatClampNeg (3 * k)).toNatClampNeg ≤ 729 := due_le b5 b3 (by omega)
                                  have hleft : ((nI (it a1.toNatClampNeg (3 * k + 2)).toNatClampNeg - (nI ((it a1.toNatClampNeg (3 * k + 1)).toNatClampNeg - (it a1.toNatClampNeg (3 * k)).toNatClampNeg * B 1)))).toInt = ((it a1.toNatClampNeg (3 * k + 2)).toNatClampNeg : Int) - ((it a1.toNatClampNeg (3 * k + 1)).toNatClampNeg - (it a1.toNatClampNeg (3 * k)).toNatClampNeg * B 1 : Nat) := by rw [t_sub, n_toInt, n_toInt] <;> (try rw [n_toInt]) <;> (try rw [n_toInt]) <;> omega
                                  have hdt : (nI (dueN (B 3) (B 1) (B 2) (it a1.toNatClampNeg (3 * k)).toNatClampNeg)).toInt = (dueN (B 3) (B 1) (B 2) (it a1.toNatClampNeg (3 * k)).toNatClampNeg : Int) := n_toInt (by omega)
                                  have hlk : (lkI B (it a1.toNatClampNeg) k).toInt = (dueN (B 3) (B 1) (B 2) (it a1.toNatClampNeg (3 * k)).toNatClampNeg : Int) - ((it a1.toNatClampNeg (3 * k + 2)).toNatClampNeg - ((it a1.toNatClampNeg (3 * k + 1)).toNatClampNeg - (it a1.toNatClampNeg (3 * k)).toNatClampNeg * B 1 : Nat)) := by unfold lkI; rw [t_sub] <;> omega
                                  have hlkN : lkN B (it a1.toNatClampNeg) k = ((lkI B (it a1.toNatClampNeg) k).toInt).toNat := by unfold lkN; omega
                                  refine lv_istore (lv' := [(12, .int (nI (dueN (B 3) (B 1) (B 2) (it a1.toNatClampNeg (3 * k)).toNatClampNeg))), (11, .int ((nI (it a1.toNatClampNeg (3 * k + 2)).toNatClampNeg) - (nI ((it a1.toNatClampNeg (3 * k + 1)).toNatClampNeg - (it a1.toNatClampNeg (3 * k)).toNatClampNeg * B 1)))), (10, .int ((nI (it a1.toNatClampNeg (3 * k + 1)).toNatClampNeg) - (nI (((it a1.toNatClampNeg (3 * k)).toNatClampNeg) * (B 1))))), (9, .int (nI (it a1.toNatClampNeg (3 * k)).toNatClampNeg)), (8, .int (nI k)), (4, .long (whoF (fun k => 0 < lkN B (it a1.toNatClampNeg) k) k)), (6, .long (lN (lkS B (it a1.toNatClampNeg) k))), (0, .ref (gA G 65)), (1, .int a1), (2, .int a2), (3, .int a3)]) hx hb dX11_broke_201 hl (by decide) rfl (fun ls hl => ?_)
                                  refine lv_lload hx hb dX11_broke_203 (lv_at hl 5 rfl) ?_
                                  refine lv_iload hx hb dX11_broke_205 (lv_at hl 1 rfl) ?_
                                  refine lv_iload hx hb dX11_broke_207 (lv_at hl 0 rfl) ?_
                                  refine lv_icmp_ge (tgt := 216) hx hb dX11_broke_209 (by decide) (fun c209 => ?_) (fun c209 => ?_)
                                  · skip
                                    have d209 := (t_le _ _).mp c209
                                    refine lv_iconst (v := 0) hx hb dX11_broke_216 (by decide) ?_
                                    refine r_calli hW hA (va_runS (As := [.int 0]) (rest := [.long (whoF (fun k => 0 < lkN B (it a1.toNatClampNeg) k) k)]) ⟨hx, hb, hml, hown, hts⟩ (t_X11_one l D G S _ 0 (by decide)) (va_cwS 1 hts gX11_broke_X11_one rfl rfl rfl (by decide +kernel) ⟨Nat.le_of_ble_eq_true rfl, Nat.le_of_ble_eq_true rfl⟩) (r_preS hA hW) rfl rfl hl.1 rfl (lv_room (Nat.le_of_ble_eq_true rfl)) dX11_broke_217 ⟨Nat.zero_le _, Nat.zero_le _⟩) (fun r217 S217 H locs hp217 hW => ?_)
                                    obtain ⟨hs217, rfl⟩ := hp217
                                    rw [hs217] at hW
                                    refine lv_i2l hx hb dX11_broke_220 rfl ?_
                                    have ez : ((Int32.toInt64 0) : Int64) = 0 := by decide
                                    refine W.eq (g2 := F0 mM 221 ls [.long 0, .long (whoF (fun k => 0 < lkN B (it a1.toNatClampNeg) k) k)]) (by rw [← ez]) ?_
                                    refine lv_iload hx hb dX11_broke_221 (lv_at hl 4 rfl) ?_
                                    refine lv_lshl hx hb dX11_broke_223 rfl ?_
                                    refine lv_lor hx hb dX11_broke_224 ?_
                                    refine lv_lstore (lv' := [(4, .long ((whoF (fun k => 0 < lkN B (it a1.toNatClampNeg) k) k) ||| (0 <<< (Int32.toInt64 (nI k) &&& 63)))), (12, .int (nI (dueN (B 3) (B 1) (B 2) (it a1.toNatClampNeg (3 * k)).toNatClampNeg))), (11, .int ((nI (it a1.toNatClampNeg (3 * k + 2)).toNatClampNeg) - (nI ((it a1.toNatClampNeg (3 * k + 1)).toNatClampNeg - (it a1.toNatClampNeg (3 * k)).toNatClampNeg * B 1)))), (10, .int ((nI (it a1.toNatClampNeg (3 * k + 1)).toNatClampNeg) - (nI (((it a1.toNatClampNeg (3 * k)).toNatClampNeg) * (B 1))))), (9, .int (nI (it a1.toNatClampNeg (3 * k)).toNatClampNeg)), (8, .int (nI k)), (6, .long (lN (lkS B (it a1.toNatClampNeg) k))), (0, .ref (gA G 65)), (1, .int a1), (2, .int a2), (3, .int a3)]) hx hb dX11_broke_225 hl (by decide) rfl (fun ls hl => ?_)
                                    refine lv_lload hx hb dX11_broke_227 (lv_at hl 6 rfl) ?_
                                    refine lv_iload hx hb dX11_broke_229 (lv_at hl 2 rfl) ?_
                                    refine lv_iload hx hb dX11_broke_231 (lv_at hl 1 rfl) ?_
                                    refine lv_icmp_ge (tgt := 245) hx hb dX11_broke_233 (by decide) (fun c233 => ?_) (fun c233 => ?_)
                                    · skip
                                      refine lv_lconst (v := 0) hx hb dX11_broke_245 (by decide) ?_
                                      refine lv_ladd hx hb dX11_broke_246 ?_
                                      rw [show (((lN (lkS B (it a1.toNatClampNeg) k)) + 0) : Int64) = (lN ((lkS B (it a1.toNatClampNeg) k) + 0)) from lN_add (lkS B (it a1.toNatClampNeg) k) 0]
                                      refine lv_lstore (lv' := [(6, .long (lN ((lkS B (it a1.toNatClampNeg) k) + 0))), (4, .long ((whoF (fun k => 0 < lkN B (it a1.toNatClampNeg) k) k) ||| (0 <<< (Int32.toInt64 (nI k) &&& 63)))), (12, .int (nI (dueN (B 3) (B 1) (B 2) (it a1.toNatClampNeg (3 * k)).toNatClampNeg))), (11, .int ((nI (it a1.toNatClampNeg (3 * k + 2)).toNatClampNeg) - (nI ((it a1.toNatClampNeg (3 * k + 1)).toNatClampNeg - (it a1.toNatClampNeg (3 * k)).toNatClampNeg * B 1)))), (10, .int ((nI (it a1.toNatClampNeg (3 * k + 1)).toNatClampNeg) - (nI (((it a1.toNatClampNeg (3 * k)).toNatClampNeg) * (B 1))))), (9, .int (nI (it a1.toNatClampNeg (3 * k)).toNatClampNeg)), (8, .int (nI k)), (0, .ref (gA G 65)), (1, .int a1), (2, .int a2), (3, .int a3)]) hx hb dX11_broke_247 hl (by decide) rfl (fun ls hl => ?_)
                                      have ew : ((whoF (fun k => 0 < lkN B (it a1.toNatClampNeg) k) k) ||| (0 <<< (Int32.toInt64 (nI k) &&& 63))) = whoF (fun k => 0 < lkN B (it a1.toNatClampNeg) k) (k + 1) := by rw [sh0]; show _ = (if 0 < lkN B (it a1.toNatClampNeg) k then _ else _); rw [if_neg (by omega)]
                                      have et : (lN ((lkS B (it a1.toNatClampNeg) k) + 0)) = lN (lkS B (it a1.toNatClampNeg) (k + 1)) := by show _ = lN (lkS B (it a1.toNatClampNeg) k + lkN B (it a1.toNatClampNeg) k); rw [show lkN B (it a1.toNatClampNeg) k = 0 by omega]
                                      have hl : lv_has ls 13 [(6, .long (lN (lkS B (it a1.toNatClampNeg) (k + 1)))), (4, .long (whoF (fun k => 0 < lkN B (it a1.toNatClampNeg) k) (k + 1))), (12, .int (nI (dueN (B 3) (B 1) (B 2) (it a1.toNatClampNeg (3 * k)).toNatClampNeg))), (11, .int ((nI (it a1.toNatClampNeg (3 * k + 2)).toNatClampNeg) - (nI ((it a1.toNatClampNeg (3 * k + 1)).toNatClampNeg - (it a1.toNatClampNeg (3 * k)).toNatClampNeg * B 1)))), (10, .int ((nI (it a1.toNatClampNeg (3 * k + 1)).toNatClampNeg) - (nI (((it a1.toNatClampNeg (3 * k)).toNatClampNeg) * (B 1))))), (9, .int (nI (it a1.toNatClampNeg (3 * k)).toNatClampNeg)), (8, .int (nI k)), (0, .ref (gA G 65)), (1, .int a1), (2, .int a2), (3, .int a3)] := by rw [← ew, ← et]; exact hl
                                      refine lv_iinc (v := (nI (k + 1))) (lv' := [(8, .int (nI (k + 1))), (6, .long (lN (lkS B (it a1.toNatClampNeg) (k + 1)))), (4, .long (whoF (fun k => 0 < lkN B (it a1.toNatClampNeg) k) (k + 1))), (12, .int (nI (dueN (B 3) (B 1) (B 2) (it a1.toNatClampNeg (3 * k)).toNatClampNeg))), (11, .int ((nI (it a1.toNatClampNeg (3 * k + 2)).toNatClampNeg) - (nI ((it a1.toNatClampNeg (3 * k + 1)).toNatClampNeg - (it a1.toNatClampNeg (3 * k)).toNatClampNeg * B 1)))), (10, .int ((nI (it a1.toNatClampNeg (3 * k + 1)).toNatClampNeg) - (nI (((it a1.toNatClampNeg (3 * k)).toNatClampNeg) * (B 1))))), (9, .int (nI (it a1.toNatClampNeg (3 * k)).toNatClampNeg)), (0, .ref (gA G 65)), (1, .int a1), (2, .int a2), (3, .int a3)]) hx hb dX11_broke_249 hl (k := 6) rfl (nI_1 k) (by decide) rfl (fun ls hl => ?_)
                                      refine lv_goto (tgt := 107) hx hb dX11_broke_252 (by decide) ?_
                                      exact ih107 (k + 1) _ _ ls (by omega) hkl hW (lv_sub hl [0, 2, 1, 7, 8, 9, 10] rfl)
                                    · exact absurd c209 c233
                                  · skip
                                    have d209 : ¬ _ := fun z => c209 ((t_le _ _).mpr z)
                                    refine lv_iconst (v := 1) hx hb dX11_broke_212 (by decide) ?_
                                    refine lv_goto (tgt := 217) hx hb dX11_broke_213 (by decide) ?_
                                    refine r_calli hW hA (va_runS (As := [.int 1]) (rest := [.long (whoF (fun k => 0 < lkN B (it a1.toNatClampNeg) k) k)]) ⟨hx, hb, hml, hown, hts⟩ (t_X11_one l D G S _ 1 (by decide)) (va_cwS 1 hts gX11_broke_X11_one rfl rfl rfl (by decide +kernel) ⟨Nat.le_of_ble_eq_true rfl, Nat.le_of_ble_eq_true rfl⟩) (r_preS hA hW) rfl rfl hl.1 rfl (lv_room (Nat.le_of_ble_eq_true rfl)) dX11_broke_217 ⟨Nat.zero_le _, Nat.zero_le _⟩) (fun r217 S217 H locs hp217 hW => ?_)
                                    obtain ⟨hs217, rfl⟩ := hp217
                                    rw [hs217] at hW
                                    refine lv_i2l hx hb dX11_broke_220 rfl ?_
                                    have ez : ((Int32.toInt64 1) : Int64) = 1 := by decide
                                    refine W.eq (g2 := F0 mM 221 ls [.long 1, .long (whoF (fun k => 0 < lkN B (it a1.toNatClampNeg) k) k)]) (by rw [← ez]) ?_
                                    refine lv_iload hx hb dX11_broke_221 (lv_at hl 4 rfl) ?_
                                    refine lv_lshl hx hb dX11_broke_223 rfl ?_
                                    refine lv_lor hx hb dX11_broke_224 ?_
                                    refine lv_lstore (lv' := [(4, .long ((whoF (fun k => 0 < lkN B (it a1.toNatClampNeg) k) k) ||| (1 <<< (Int32.toInt64 (nI k) &&& 63)))), (12, .int (nI (dueN (B 3) (B 1) (B 2) (it a1.toNatClampNeg (3 * k)).toNatClampNeg))), (11, .int ((nI (it a1.toNatClampNeg (3 * k + 2)).toNatClampNeg) - (nI ((it a1.toNatClampNeg (3 * k + 1)).toNatClampNeg - (it a1.toNatClampNeg (3 * k)).toNatClampNeg * B 1)))), (10, .int ((nI (it a1.toNatClampNeg (3 * k + 1)).toNatClampNeg) - (nI (((it a1.toNatClampNeg (3 * k)).toNatClampNeg) * (B 1))))), (9, .int (nI (it a1.toNatClampNeg (3 * k)).toNatClampNeg)), (8, .int (nI k)), (6, .long (lN (lkS B (it a1.toNatClampNeg) k))), (0, .ref (gA G 65)), (1, .int a1), (2, .int a2), (3, .int a3)]) hx hb dX11_broke_225 hl (by decide) rfl (fun ls hl => ?_)
                                    refine lv_lload hx hb dX11_broke_227 (lv_at hl 6 rfl) ?_
                                    refine lv_iload hx hb dX11_broke_229 (lv_at hl 2 rfl) ?_
                                    refine lv_iload hx hb dX11_broke_231 (lv_at hl 1 rfl) ?_
                                    refine lv_icmp_ge (tgt := 245) hx hb dX11_broke_233 (by decide) (fun c233 => ?_) (fun c233 => ?_)
                                    · exact absurd c233 c209
                                    · skip
                                      refine lv_iload hx hb dX11_broke_236 (lv_at hl 1 rfl) ?_
                                      refine lv_iload hx hb dX11_broke_238 (lv_at hl 2 rfl) ?_
                                      refine lv_isub hx hb dX11_broke_240 ?_
                                      refine lv_i2l hx hb dX11_broke_241 rfl ?_
                                      refine lv_goto (tgt := 246) hx hb dX11_broke_242 (by decide) ?_
                                      refine lv_ladd hx hb dX11_broke_246 ?_
                                      refine lv_lstore (lv' := [(6, .long ((lN (lkS B (it a1.toNatClampNeg) k)) + (Int32.toInt64 ((nI (dueN (B 3) (B 1) (B 2) (it a1.toNatClampNeg (3 * k)).toNatClampNeg)) - ((nI (it a1.toNatClampNeg (3 * k + 2)).toNatClampNeg) - (nI ((it a1.toNatClampNeg (3 * k + 1)).toNatClampNeg - (it a1.toNatClampNeg (3 * k)).toNatClampNeg * B 1))))))), (4, .long ((whoF (fun k => 0 < lkN B (it a1.toNatClampNeg) k) k) ||| (1 <<< (Int32.toInt64 (nI k) &&& 63)))), (12, .int (nI (dueN (B 3) (B 1) (B 2) (it a1.toNatClampNeg (3 * k)).toNatClampNeg))), (11, .int ((nI (it a1.toNatClampNeg (3 * k + 2)).toNatClampNeg) - (nI ((it a1.toNatClampNeg (3 * k + 1)).toNatClampNeg - (it a1.toNatClampNeg (3 * k)).toNatClampNeg * B 1)))), (10, .int ((nI (it a1.toNatClampNeg (3 * k + 1)).toNatClampNeg) - (nI (((it a1.toNatClampNeg (3 * k)).toNatClampNeg) * (B 1))))), (9, .int (nI (it a1.toNatClampNeg (3 * k)).toNatClampNeg)), (8, .int (nI k)), (0, .ref (gA G 65)), (1, .int a1), (2, .int a2), (3, .int a3)]) hx hb dX11_broke_247 hl (by decide) rfl (fun ls hl => ?_)
                                      have ew : ((whoF (fun k => 0 < lkN B (it a1.toNatClampNeg) k) k) ||| (1 <<< (Int32.toInt64 (nI k) &&& 63))) = whoF (fun k => 0 < lkN B (it a1.toNatClampNeg) k) (k + 1) := by show _ = (if 0 < lkN B (it a1.toNatClampNeg) k then _ else _); rw [if_pos (by omega)]
                                      have et : ((lN (lkS B (it a1.toNatClampNeg) k)) + (Int32.toInt64 ((nI (dueN (B 3) (B 1) (B 2) (it a1.toNatClampNeg (3 * k)).toNatClampNeg)) - ((nI (it a1.toNatClampNeg (3 * k + 2)).toNatClampNeg) - (nI ((it a1.toNatClampNeg (3 * k + 1)).toNatClampNeg - (it a1.toNatClampNeg (3 * k)).toNatClampNeg * B 1)))))) = lN (lkS B (it a1.toNatClampNeg) (k + 1)) := by rw [show ((nI (dueN (B 3) (B 1) (B 2) (it a1.toNatClampNeg (3 * k)).toNatClampNeg)) - (nI (it a1.toNatClampNeg (3 * k + 2)).toNatClampNeg - (nI ((it a1.toNatClampNeg (3 * k + 1)).toNatClampNeg - (it a1.toNatClampNeg (3 * k)).toNatClampNeg * B 1)))) = (lkI B (it a1.toNatClampNeg) k) from rfl, show (lkI B (it a1.toNatClampNeg) k) = nI (lkN B (it a1.toNatClampNeg) k) from by rw [hlkN]; exact n_nI (by omega), lN_of (by omega), lN_add]; rfl
                                      have hl : lv_has ls 13 [(6, .long (lN (lkS B (it a1.toNatClampNeg) (k + 1)))), (4, .long (whoF (fun k => 0 < lkN B (it a1.toNatClampNeg) k) (k + 1))), (12, .int (nI (dueN (B 3) (B 1) (B 2) (it a1.toNatClampNeg (3 * k)).toNatClampNeg))), (11, .int ((nI (it a1.toNatClampNeg (3 * k + 2)).toNatClampNeg) - (nI ((it a1.toNatClampNeg (3 * k + 1)).toNatClampNeg - (it a1.toNatClampNeg (3 * k)).toNatClampNeg * B 1)))), (10, .int ((nI (it a1.toNatClampNeg (3 * k + 1)).toNatClampNeg) - (nI (((it a1.toNatClampNeg (3 * k)).toNatClampNeg) * (B 1))))), (9, .int (nI (it a1.toNatClampNeg (3 * k)).toNatClampNeg)), (8, .int (nI k)), (0, .ref (gA G 65)), (1, .int a1), (2, .int a2), (3, .int a3)] := by rw [← ew, ← et]; exact hl
                                      refine lv_iinc (v := (nI (k + 1))) (lv' := [(8, .int (nI (k + 1))), (6, .long (lN (lkS B (it a1.toNatClampNeg) (k + 1)))), (4, .long (whoF (fun k => 0 < lkN B (it a1.toNatClampNeg) k) (k + 1))), (12, .int (nI (dueN (B 3) (B 1) (B 2) (it a1.toNatClampNeg (3 * k)).toNatClampNeg))), (11, .int ((nI (it a1.toNatClampNeg (3 * k + 2)).toNatClampNeg) - (nI ((it a1.toNatClampNeg (3 * k + 1)).toNatClampNeg - (it a1.toNatClampNeg (3 * k)).toNatClampNeg * B 1)))), (10, .int ((nI (it a1.toNatClampNeg (3 * k + 1)).toNatClampNeg) - (nI (((it a1.toNatClampNeg (3 * k)).toNatClampNeg) * (B 1))))), (9, .int (nI (it a1.toNatClampNeg (3 * k)).toNatClampNeg)), (0, .ref (gA G 65)), (1, .int a1), (2, .int a2), (3, .int a3)]) hx hb dX11_broke_249 hl (k := 6) rfl (nI_1 k) (by decide) rfl (fun ls hl => ?_)
                                      refine lv_goto (tgt := 107) hx hb dX11_broke_252 (by decide) ?_
                                      exact ih107 (k + 1) _ _ ls (by omega) hkl hW (lv_sub hl [0, 2, 1, 7, 8, 9, 10] rfl)
                                · skip
                                  rw [t_le, show (0 : Int32).toInt = 0 from by decide] at c176
                                  rw [t_sub (by rw [n_toInt (by omega), n_toInt (by omega)]; omega) (by rw [n_toInt (by omega), n_toInt (by omega)]; omega), n_toInt (by omega), n_toInt (by omega)] at c176
                                  refine lv_iload hx hb dX11_broke_179 (lv_at hl 0 rfl) ?_
                                  refine lv_goto (tgt := 185) hx hb dX11_broke_181 (by decide) ?_
                                  have ez : (((nI (it a1.toNatClampNeg (3 * k + 1)).toNatClampNeg) - (nI (((it a1.toNatClampNeg (3 * k)).toNatClampNeg) * (B 1)))) : Int32) = (nI ((it a1.toNatClampNeg (3 * k + 1)).toNatClampNeg - (it a1.toNatClampNeg (3 * k)).toNatClampNeg * B 1)) := n_sub (by omega)
                                  refine W.eq (g2 := F0 mM 185 ls [.int (nI ((it a1.toNatClampNeg (3 * k + 1)).toNatClampNeg - (it a1.toNatClampNeg (3 * k)).toNatClampNeg * B 1)), .int (nI (it a1.toNatClampNeg (3 * k + 2)).toNatClampNeg)]) (by rw [← ez]) ?_
                                  refine lv_isub hx hb dX11_broke_185 ?_
                                  refine lv_istore (lv' := [(11, .int ((nI (it a1.toNatClampNeg (3 * k + 2)).toNatClampNeg) - (nI ((it a1.toNatClampNeg (3 * k + 1)).toNatClampNeg - (it a1.toNatClampNeg (3 * k)).toNatClampNeg * B 1)))), (10, .int ((nI (it a1.toNatClampNeg (3 * k + 1)).toNatClampNeg) - (nI (((it a1.toNatClampNeg (3 * k)).toNatClampNeg) * (B 1))))), (9, .int (nI (it a1.toNatClampNeg (3 * k)).toNatClampNeg)), (8, .int (nI k)), (4, .long (whoF (fun k => 0 < lkN B (it a1.toNatClampNeg) k) k)), (6, .long (lN (lkS B (it a1.toNatClampNeg) k))), (0, .ref (gA G 65)), (1, .int a1), (2, .int a2), (3, .int a3)]) hx hb dX11_broke_186 hl (by decide) rfl (fun ls hl => ?_)
                                  refine lv_aload_n hx hb dX11_broke_188 rfl (lv_at hl 6 rfl) ?_
                                  refine lv_aload_n hx hb dX11_broke_189 rfl (lv_at hl 6 rfl) ?_
                                  refine r_getr (ci := 10) (C := RX11) (T := TX11) (N := 20) hx hb hts iX11 hown hW rfl 65 0 rfl (g_lt hG (by decide)) (g_kd hG (by decide) rfl) (by decide) q4 (fun _ h9 => h9) (hP _ (List.mem_of_getElem? (i := 60) rfl)) rfl rfl dX11_broke_190 ?_
                                  refine lv_iconst (v := 2) hx hb dX11_broke_193 (by decide) ?_
                                  refine W.eq (g2 := F0 mM 194 ls [.int (nI 2), .ref (gA G 66), .ref (gA G 65)]) rfl ?_
                                  refine r_lald hx hb hW 66 rfl (g_lt hG (by decide)) (g_kd hG (by decide) rfl) (g_ix hG (c := 560) (by decide) rfl (n_inI (by omega) (by decide))) (lN (B 2)) (by rw [n_clamp (by omega)]; exact (hM 2 (by omega))) dX11_broke_194 ?_
                                  refine lv_l2i hx hb dX11_broke_195 rfl ?_
                                  rw [show (Int64.toInt32 (lN (B 2)) : Int32) = nI (B 2) from lN_i _]
                                  refine lv_iload hx hb dX11_broke_196 (lv_at hl 2 rfl) ?_
                                  refine r_calli hW hA (va_runV (As := [.int (nI (B 2)), .int (nI (it a1.toNatClampNeg (3 * k)).toNatClampNeg)]) (rest := []) ⟨hx, hb, hml, hown, hts⟩ (t_X11_dueOf l D G S _ hG hP (B 3) (B 1) (B 2) (it a1.toNatClampNeg (3 * k)).toNatClampNeg (hM 3 (by omega)) (hM 1 (by omega)) b4 (by omega) (by omega) b5 b3) (cwV 2 hts gX11_broke_X11_dueOf rfl rfl rfl (by decide +kernel) ⟨Nat.le_of_ble_eq_true rfl, Nat.le_of_ble_eq_true rfl⟩) (r_preV (k := 65) hA hW (ci := 10) (C := RX11) (T := TX11) (N := 20) rfl rfl (g_lt hG (by decide)) (g_kd hG (by decide) rfl) rfl rfl) rfl rfl hl.1 rfl (lv_room (Nat.le_of_ble_eq_true rfl)) dX11_broke_198 ⟨Nat.zero_le _, Nat.zero_le _⟩) (fun r198 S198 H locs hp198 hW => ?_)
                                  obtain ⟨hs198, rfl⟩ := hp198
                                  rw [hs198] at hW
                                  have hd : dueN (B 3) (B 1) (B 2) (it a1.toNatClampNeg (3 * k)).toNatClampNeg ≤ 729 := due_le b5 b3 (by omega)
                                  have hleft : ((nI (it a1.toNatClampNeg (3 * k + 2)).toNatClampNeg - (nI ((it a1.toNatClampNeg (3 * k + 1)).toNatClampNeg - (it a1.toNatClampNeg (3 * k)).toNatClampNeg * B 1)))).toInt = ((it a1.toNatClampNeg (3 * k + 2)).toNatClampNeg : Int) - ((it a1.toNatClampNeg (3 * k + 1)).toNatClampNeg - (it a1.toNatClampNeg (3 * k)).toNatClampNeg * B 1 : Nat) := by rw [t_sub, n_toInt, n_toInt] <;> (try rw [n_toInt]) <;> (try rw [n_toInt]) <;> omega
                                  have hdt : (nI (dueN (B 3) (B 1) (B 2) (it a1.toNatClampNeg (3 * k)).toNatClampNeg)).toInt = (dueN (B 3) (B 1) (B 2) (it a1.toNatClampNeg (3 * k)).toNatClampNeg : Int) := n_toInt (by omega)
                                  have hlk : (lkI B (it a1.toNatClampNeg) k).toInt = (dueN (B 3) (B 1) (B 2) (it a1.toNatClampNeg (3 * k)).toNatClampNeg : Int) - ((it a1.toNatClampNeg (3 * k + 2)).toNatClampNeg - ((it a1.toNatClampNeg (3 * k + 1)).toNatClampNeg - (it a1.toNatClampNeg (3 * k)).toNatClampNeg * B 1 : Nat)) := by unfold lkI; rw [t_sub] <;> omega
                                  have hlkN : lkN B (it a1.toNatClampNeg) k = ((lkI B (it a1.toNatClampNeg) k).toInt).toNat := by unfold lkN; omega
                                  refine lv_istore (lv' := [(12, .int (nI (dueN (B 3) (B 1) (B 2) (it a1.toNatClampNeg (3 * k)).toNatClampNeg))), (11, .int ((nI (it a1.toNatClampNeg (3 * k + 2)).toNatClampNeg) - (nI ((it a1.toNatClampNeg (3 * k + 1)).toNatClampNeg - (it a1.toNatClampNeg (3 * k)).toNatClampNeg * B 1)))), (10, .int ((nI (it a1.toNatClampNeg (3 * k + 1)).toNatClampNeg) - (nI (((it a1.toNatClampNeg (3 * k)).toNatClampNeg) * (B 1))))), (9, .int (nI (it a1.toNatClampNeg (3 * k)).toNatClampNeg)), (8, .int (nI k)), (4, .long (whoF (fun k => 0 < lkN B (it a1.toNatClampNeg) k) k)), (6, .long (lN (lkS B (it a1.toNatClampNeg) k))), (0, .ref (gA G 65)), (1, .int a1), (2, .int a2), (3, .int a3)]) hx hb dX11_broke_201 hl (by decide) rfl (fun ls hl => ?_)
                                  refine lv_lload hx hb dX11_broke_203 (lv_at hl 5 rfl) ?_
                                  refine lv_iload hx hb dX11_broke_205 (lv_at hl 1 rfl) ?_
                                  refine lv_iload hx hb dX11_broke_207 (lv_at hl 0 rfl) ?_
                                  refine lv_icmp_ge (tgt := 216) hx hb dX11_broke_209 (by decide) (fun c209 => ?_) (fun c209 => ?_)
                                  · skip
                                    have d209 := (t_le _ _).mp c209
                                    refine lv_iconst (v := 0) hx hb dX11_broke_216 (by decide) ?_
                                    refine r_calli hW hA (va_runS (As := [.int 0]) (rest := [.long (whoF (fun k => 0 < lkN B (it a1.toNatClampNeg) k) k)]) ⟨hx, hb, hml, hown, hts⟩ (t_X11_one l D G S _ 0 (by decide)) (va_cwS 1 hts gX11_broke_X11_one rfl rfl rfl (by decide +kernel) ⟨Nat.le_of_ble_eq_true rfl, Nat.le_of_ble_eq_true rfl⟩) (r_preS hA hW) rfl rfl hl.1 rfl (lv_room (Nat.le_of_ble_eq_true rfl)) dX11_broke_217 ⟨Nat.zero_le _, Nat.zero_le _⟩) (fun r217 S217 H locs hp217 hW => ?_)
                                    obtain ⟨hs217, rfl⟩ := hp217
                                    rw [hs217] at hW
                                    refine lv_i2l hx hb dX11_broke_220 rfl ?_
                                    have ez : ((Int32.toInt64 0) : Int64) = 0 := by decide
                                    refine W.eq (g2 := F0 mM 221 ls [.long 0, .long (whoF (fun k => 0 < lkN B (it a1.toNatClampNeg) k) k)]) (by rw [← ez]) ?_
                                    refine lv_iload hx hb dX11_broke_221 (lv_at hl 4 rfl) ?_
                                    refine lv_lshl hx hb dX11_broke_223 rfl ?_
                                    refine lv_lor hx hb dX11_broke_224 ?_
                                    refine lv_lstore (lv' := [(4, .long ((whoF (fun k => 0 < lkN B (it a1.toNatClampNeg) k) k) ||| (0 <<< (Int32.toInt64 (nI k) &&& 63)))), (12, .int (nI (dueN (B 3) (B 1) (B 2) (it a1.toNatClampNeg (3 * k)).toNatClampNeg))), (11, .int ((nI (it a1.toNatClampNeg (3 * k + 2)).toNatClampNeg) - (nI ((it a1.toNatClampNeg (3 * k + 1)).toNatClampNeg - (it a1.toNatClampNeg (3 * k)).toNatClampNeg * B 1)))), (10, .int ((nI (it a1.toNatClampNeg (3 * k + 1)).toNatClampNeg) - (nI (((it a1.toNatClampNeg (3 * k)).toNatClampNeg) * (B 1))))), (9, .int (nI (it a1.toNatClampNeg (3 * k)).toNatClampNeg)), (8, .int (nI k)), (6, .long (lN (lkS B (it a1.toNatClampNeg) k))), (0, .ref (gA G 65)), (1, .int a1), (2, .int a2), (3, .int a3)]) hx hb dX11_broke_225 hl (by decide) rfl (fun ls hl => ?_)
                                    refine lv_lload hx hb dX11_broke_227 (lv_at hl 6 rfl) ?_
                                    refine lv_iload hx hb dX11_broke_229 (lv_at hl 2 rfl) ?_
                                    refine lv_iload hx hb dX11_broke_231 (lv_at hl 1 rfl) ?_
                                    refine lv_icmp_ge (tgt := 245) hx hb dX11_broke_233 (by decide) (fun c233 => ?_) (fun c233 => ?_)
                                    · skip
                                      refine lv_lconst (v := 0) hx hb dX11_broke_245 (by decide) ?_
                                      refine lv_ladd hx hb dX11_broke_246 ?_
                                      rw [show (((lN (lkS B (it a1.toNatClampNeg) k)) + 0) : Int64) = (lN ((lkS B (it a1.toNatClampNeg) k) + 0)) from lN_add (lkS B (it a1.toNatClampNeg) k) 0]
                                      refine lv_lstore (lv' := [(6, .long (lN ((lkS B (it a1.toNatClampNeg) k) + 0))), (4, .long ((whoF (fun k => 0 < lkN B (it a1.toNatClampNeg) k) k) ||| (0 <<< (Int32.toInt64 (nI k) &&& 63)))), (12, .int (nI (dueN (B 3) (B 1) (B 2) (it a1.toNatClampNeg (3 * k)).toNatClampNeg))), (11, .int ((nI (it a1.toNatClampNeg (3 * k + 2)).toNatClampNeg) - (nI ((it a1.toNatClampNeg (3 * k + 1)).toNatClampNeg - (it a1.toNatClampNeg (3 * k)).toNatClampNeg * B 1)))), (10, .int ((nI (it a1.toNatClampNeg (3 * k + 1)).toNatClampNeg) - (nI (((it a1.toNatClampNeg (3 * k)).toNatClampNeg) * (B 1))))), (9, .int (nI (it a1.toNatClampNeg (3 * k)).toNatClampNeg)), (8, .int (nI k)), (0, .ref (gA G 65)), (1, .int a1), (2, .int a2), (3, .int a3)]) hx hb dX11_broke_247 hl (by decide) rfl (fun ls hl => ?_)
                                      have ew : ((whoF (fun k => 0 < lkN B (it a1.toNatClampNeg) k) k) ||| (0 <<< (Int32.toInt64 (nI k) &&& 63))) = whoF (fun k => 0 < lkN B (it a1.toNatClampNeg) k) (k + 1) := by rw [sh0]; show _ = (if 0 < lkN B (it a1.toNatClampNeg) k then _ else _); rw [if_neg (by omega)]
                                      have et : (lN ((lkS B (it a1.toNatClampNeg) k) + 0)) = lN (lkS B (it a1.toNatClampNeg) (k + 1)) := by show _ = lN (lkS B (it a1.toNatClampNeg) k + lkN B (it a1.toNatClampNeg) k); rw [show lkN B (it a1.toNatClampNeg) k = 0 by omega]
                                      have hl : lv_has ls 13 [(6, .long (lN (lkS B (it a1.toNatClampNeg) (k + 1)))), (4, .long (whoF (fun k => 0 < lkN B (it a1.toNatClampNeg) k) (k + 1))), (12, .int (nI (dueN (B 3) (B 1) (B 2) (it a1.toNatClampNeg (3 * k)).toNatClampNeg))), (11, .int ((nI (it a1.toNatClampNeg (3 * k + 2)).toNatClampNeg) - (nI ((it a1.toNatClampNeg (3 * k + 1)).toNatClampNeg - (it a1.toNatClampNeg (3 * k)).toNatClampNeg * B 1)))), (10, .int ((nI (it a1.toNatClampNeg (3 * k + 1)).toNatClampNeg) - (nI (((it a1.toNatClampNeg (3 * k)).toNatClampNeg) * (B 1))))), (9, .int (nI (it a1.toNatClampNeg (3 * k)).toNatClampNeg)), (8, .int (nI k)), (0, .ref (gA G 65)), (1, .int a1), (2, .int a2), (3, .int a3)] := by rw [← ew, ← et]; exact hl
                                      refine lv_iinc (v := (nI (k + 1))) (lv' := [(8, .int (nI (k + 1))), (6, .long (lN (lkS B (it a1.toNatClampNeg) (k + 1)))), (4, .long (whoF (fun k => 0 < lkN B (it a1.toNatClampNeg) k) (k + 1))), (12, .int (nI (dueN (B 3) (B 1) (B 2) (it a1.toNatClampNeg (3 * k)).toNatClampNeg))), (11, .int ((nI (it a1.toNatClampNeg (3 * k + 2)).toNatClampNeg) - (nI ((it a1.toNatClampNeg (3 * k + 1)).toNatClampNeg - (it a1.toNatClampNeg (3 * k)).toNatClampNeg * B 1)))), (10, .int ((nI (it a1.toNatClampNeg (3 * k + 1)).toNatClampNeg) - (nI (((it a1.toNatClampNeg (3 * k)).toNatClampNeg) * (B 1))))), (9, .int (nI (it a1.toNatClampNeg (3 * k)).toNatClampNeg)), (0, .ref (gA G 65)), (1, .int a1), (2, .int a2), (3, .int a3)]) hx hb dX11_broke_249 hl (k := 6) rfl (nI_1 k) (by decide) rfl (fun ls hl => ?_)
                                      refine lv_goto (tgt := 107) hx hb dX11_broke_252 (by decide) ?_
                                      exact ih107 (k + 1) _ _ ls (by omega) hkl hW (lv_sub hl [0, 2, 1, 7, 8, 9, 10] rfl)
                                    · exact absurd c209 c233
                                  · skip
                                    have d209 : ¬ _ := fun z => c209 ((t_le _ _).mpr z)
                                    refine lv_iconst (v := 1) hx hb dX11_broke_212 (by decide) ?_
                                    refine lv_goto (tgt := 217) hx hb dX11_broke_213 (by decide) ?_
                                    refine r_calli hW hA (va_runS (As := [.int 1]) (rest := [.long (whoF (fun k => 0 < lkN B (it a1.toNatClampNeg) k) k)]) ⟨hx, hb, hml, hown, hts⟩ (t_X11_one l D G S _ 1 (by decide)) (va_cwS 1 hts gX11_broke_X11_one rfl rfl rfl (by decide +kernel) ⟨Nat.le_of_ble_eq_true rfl, Nat.le_of_ble_eq_true rfl⟩) (r_preS hA hW) rfl rfl hl.1 rfl (lv_room (Nat.le_of_ble_eq_true rfl)) dX11_broke_217 ⟨Nat.zero_le _, Nat.zero_le _⟩) (fun r217 S217 H locs hp217 hW => ?_)
                                    obtain ⟨hs217, rfl⟩ := hp217
                                    rw [hs217] at hW
                                    refine lv_i2l hx hb dX11_broke_220 rfl ?_
                                    have ez : ((Int32.toInt64 1) : Int64) = 1 := by decide
                                    refine W.eq (g2 := F0 mM 221 ls [.long 1, .long (whoF (fun k => 0 < lkN B (it a1.toNatClampNeg) k) k)]) (by rw [← ez]) ?_
                                    refine lv_iload hx hb dX11_broke_221 (lv_at hl 4 rfl) ?_
                                    refine lv_lshl hx hb dX11_broke_223 rfl ?_
                                    refine lv_lor hx hb dX11_broke_224 ?_
                                    refine lv_lstore (lv' := [(4, .long ((whoF (fun k => 0 < lkN B (it a1.toNatClampNeg) k) k) ||| (1 <<< (Int32.toInt64 (nI k) &&& 63)))), (12, .int (nI (dueN (B 3) (B 1) (B 2) (it a1.toNatClampNeg (3 * k)).toNatClampNeg))), (11, .int ((nI (it a1.toNatClampNeg (3 * k + 2)).toNatClampNeg) - (nI ((it a1.toNatClampNeg (3 * k + 1)).toNatClampNeg - (it a1.toNatClampNeg (3 * k)).toNatClampNeg * B 1)))), (10, .int ((nI (it a1.toNatClampNeg (3 * k + 1)).toNatClampNeg) - (nI (((it a1.toNatClampNeg (3 * k)).toNatClampNeg) * (B 1))))), (9, .int (nI (it a1.toNatClampNeg (3 * k)).toNatClampNeg)), (8, .int (nI k)), (6, .long (lN (lkS B (it a1.toNatClampNeg) k))), (0, .ref (gA G 65)), (1, .int a1), (2, .int a2), (3, .int a3)]) hx hb dX11_broke_225 hl (by decide) rfl (fun ls hl => ?_)
                                    refine lv_lload hx hb dX11_broke_227 (lv_at hl 6 rfl) ?_
                                    refine lv_iload hx hb dX11_broke_229 (lv_at hl 2 rfl) ?_
                                    refine lv_iload hx hb dX11_broke_231 (lv_at hl 1 rfl) ?_
                                    refine lv_icmp_ge (tgt := 245) hx hb dX11_broke_233 (by decide) (fun c233 => ?_) (fun c233 => ?_)
                                    · exact absurd c233 c209
                                    · skip
                                      refine lv_iload hx hb dX11_broke_236 (lv_at hl 1 rfl) ?_
                                      refine lv_iload hx hb dX11_broke_238 (lv_at hl 2 rfl) ?_
                                      refine lv_isub hx hb dX11_broke_240 ?_
                                      refine lv_i2l hx hb dX11_broke_241 rfl ?_
                                      refine lv_goto (tgt := 246) hx hb dX11_broke_242 (by decide) ?_
                                      refine lv_ladd hx hb dX11_broke_246 ?_
                                      refine lv_lstore (lv' := [(6, .long ((lN (lkS B (it a1.toNatClampNeg) k)) + (Int32.toInt64 ((nI (dueN (B 3) (B 1) (B 2) (it a1.toNatClampNeg (3 * k)).toNatClampNeg)) - ((nI (it a1.toNatClampNeg (3 * k + 2)).toNatClampNeg) - (nI ((it a1.toNatClampNeg (3 * k + 1)).toNatClampNeg - (it a1.toNatClampNeg (3 * k)).toNatClampNeg * B 1))))))), (4, .long ((whoF (fun k => 0 < lkN B (it a1.toNatClampNeg) k) k) ||| (1 <<< (Int32.toInt64 (nI k) &&& 63)))), (12, .int (nI (dueN (B 3) (B 1) (B 2) (it a1.toNatClampNeg (3 * k)).toNatClampNeg))), (11, .int ((nI (it a1.toNatClampNeg (3 * k + 2)).toNatClampNeg) - (nI ((it a1.toNatClampNeg (3 * k + 1)).toNatClampNeg - (it a1.toNatClampNeg (3 * k)).toNatClampNeg * B 1)))), (10, .int ((nI (it a1.toNatClampNeg (3 * k + 1)).toNatClampNeg) - (nI (((it a1.toNatClampNeg (3 * k)).toNatClampNeg) * (B 1))))), (9, .int (nI (it a1.toNatClampNeg (3 * k)).toNatClampNeg)), (8, .int (nI k)), (0, .ref (gA G 65)), (1, .int a1), (2, .int a2), (3, .int a3)]) hx hb dX11_broke_247 hl (by decide) rfl (fun ls hl => ?_)
                                      have ew : ((whoF (fun k => 0 < lkN B (it a1.toNatClampNeg) k) k) ||| (1 <<< (Int32.toInt64 (nI k) &&& 63))) = whoF (fun k => 0 < lkN B (it a1.toNatClampNeg) k) (k + 1) := by show _ = (if 0 < lkN B (it a1.toNatClampNeg) k then _ else _); rw [if_pos (by omega)]
                                      have et : ((lN (lkS B (it a1.toNatClampNeg) k)) + (Int32.toInt64 ((nI (dueN (B 3) (B 1) (B 2) (it a1.toNatClampNeg (3 * k)).toNatClampNeg)) - ((nI (it a1.toNatClampNeg (3 * k + 2)).toNatClampNeg) - (nI ((it a1.toNatClampNeg (3 * k + 1)).toNatClampNeg - (it a1.toNatClampNeg (3 * k)).toNatClampNeg * B 1)))))) = lN (lkS B (it a1.toNatClampNeg) (k + 1)) := by rw [show ((nI (dueN (B 3) (B 1) (B 2) (it a1.toNatClampNeg (3 * k)).toNatClampNeg)) - (nI (it a1.toNatClampNeg (3 * k + 2)).toNatClampNeg - (nI ((it a1.toNatClampNeg (3 * k + 1)).toNatClampNeg - (it a1.toNatClampNeg (3 * k)).toNatClampNeg * B 1)))) = (lkI B (it a1.toNatClampNeg) k) from rfl, show (lkI B (it a1.toNatClampNeg) k) = nI (lkN B (it a1.toNatClampNeg) k) from by rw [hlkN]; exact n_nI (by omega), lN_of (by omega), lN_add]; rfl
                                      have hl : lv_has ls 13 [(6, .long (lN (lkS B (it a1.toNatClampNeg) (k + 1)))), (4, .long (whoF (fun k => 0 < lkN B (it a1.toNatClampNeg) k) (k + 1))), (12, .int (nI (dueN (B 3) (B 1) (B 2) (it a1.toNatClampNeg (3 * k)).toNatClampNeg))), (11, .int ((nI (it a1.toNatClampNeg (3 * k + 2)).toNatClampNeg) - (nI ((it a1.toNatClampNeg (3 * k + 1)).toNatClampNeg - (it a1.toNatClampNeg (3 * k)).toNatClampNeg * B 1)))), (10, .int ((nI (it a1.toNatClampNeg (3 * k + 1)).toNatClampNeg) - (nI (((it a1.toNatClampNeg (3 * k)).toNatClampNeg) * (B 1))))), (9, .int (nI (it a1.toNatClampNeg (3 * k)).toNatClampNeg)), (8, .int (nI k)), (0, .ref (gA G 65)), (1, .int a1), (2, .int a2), (3, .int a3)] := by rw [← ew, ← et]; exact hl
                                      refine lv_iinc (v := (nI (k + 1))) (lv' := [(8, .int (nI (k + 1))), (6, .long (lN (lkS B (it a1.toNatClampNeg) (k + 1)))), (4, .long (whoF (fun k => 0 < lkN B (it a1.toNatClampNeg) k) (k + 1))), (12, .int (nI (dueN (B 3) (B 1) (B 2) (it a1.toNatClampNeg (3 * k)).toNatClampNeg))), (11, .int ((nI (it a1.toNatClampNeg (3 * k + 2)).toNatClampNeg) - (nI ((it a1.toNatClampNeg (3 * k + 1)).toNatClampNeg - (it a1.toNatClampNeg (3 * k)).toNatClampNeg * B 1)))), (10, .int ((nI (it a1.toNatClampNeg (3 * k + 1)).toNatClampNeg) - (nI (((it a1.toNatClampNeg (3 * k)).toNatClampNeg) * (B 1))))), (9, .int (nI (it a1.toNatClampNeg (3 * k)).toNatClampNeg)), (0, .ref (gA G 65)), (1, .int a1), (2, .int a2), (3, .int a3)]) hx hb dX11_broke_249 hl (k := 6) rfl (nI_1 k) (by decide) rfl (fun ls hl => ?_)
                                      refine lv_goto (tgt := 107) hx hb dX11_broke_252 (by decide) ?_
                                      exact ih107 (k + 1) _ _ ls (by omega) hkl hW (lv_sub hl [0, 2, 1, 7, 8, 9, 10] rfl)
                          exact L107 _ 0 _ _ ls (Nat.lt_succ_self _) (Nat.zero_le _) hW (lv_sub hl [0, 2, 1, 3, 4, 5, 6] rfl)
                        · exact absurd c91 (by decide)
                      · skip
                        refine lv_if_ne (tgt := 98) hx hb dX11_broke_91 (by decide) (fun c91 => ?_) (fun c91 => ?_)
                        · exact absurd (by decide) c91
                        · skip
                          refine lv_ldc2 (v := (-9000000000000000001)) hx hb hown q5 dX11_broke_94 ?_
                          rw [← hQ0]
                          refine r_lret hx hb hr hlocks hW ?_ dX11_broke_97
                          refine ⟨?_, (fun j hj => rfl)⟩
                          have e : fBroke B it le st a1 a2 a3 = (BADL, st) := by unfold fBroke; rw [if_neg h1, if_pos (by omega), if_pos hf0, if_neg (fun z => h88 (wOK3_nt.mpr z))]
                          rw [e]
                          exact ⟨rfl, hst, Ch.rf⟩
                    · skip
                      rw [t_le] at c69
                      rw [n_toInt (by omega)] at c69
                      refine lv_aload_n hx hb dX11_broke_72 rfl (lv_at hl 0 rfl) ?_
                      refine lv_iconst (v := 2) hx hb dX11_broke_73 (by decide) ?_
                      refine r_calll hW hA (va_runV (As := [.int 2]) (rest := []) ⟨hx, hb, hml, hown, hts⟩ (t_X11_found l D G S _ hG hP 2) (cwV 1 hts gX11_broke_X11_found rfl rfl rfl (by decide +kernel) ⟨Nat.le_of_ble_eq_true rfl, Nat.le_of_ble_eq_true rfl⟩) (r_preV (k := 65) hA hW (ci := 10) (C := RX11) (T := TX11) (N := 20) rfl rfl (g_lt hG (by decide)) (g_kd hG (by decide) rfl) rfl rfl) rfl rfl hl.1 rfl (lv_room (Nat.le_of_ble_eq_true rfl)) dX11_broke_74 ⟨Nat.zero_le _, Nat.zero_le _⟩) (fun r74 S74 H locs hp74 hW => ?_)
                      obtain ⟨hs74, rfl⟩ := hp74
                      rw [hs74] at hW
                      rw [← hQ0]
                      refine r_lret hx hb hr hlocks hW ?_ dX11_broke_77
                      refine ⟨?_, (fun j hj => (congrFun (e_is _ _ _) j).trans ((up_n _ _ hj).trans rfl))⟩
                      have ef : fos (le a1.toNatClampNeg) 0 (nI (3 * a2.toNatClampNeg)) = 2 := by unfold fos; rw [if_neg (by omega), if_neg (fun z => by rw [n_toInt (by omega)] at z; omega)]
                      have e : fBroke B it le st a1 a2 a3 = (FND 2, 2) := by unfold fBroke; rw [if_neg h1, if_pos (by omega), ef, if_neg (by decide)]
                      rw [e]
                      exact ⟨rfl, congrFun (e_is _ _ _) 4, (Ch.ri Ch.rf (by omega))⟩
                  · skip
                    rw [t_le, show (0 : Int32).toInt = 0 from by decide] at c51
                    refine lv_aload_n hx hb dX11_broke_54 rfl (lv_at hl 0 rfl) ?_
                    refine lv_iconst (v := 1) hx hb dX11_broke_55 (by decide) ?_
                    refine r_calll hW hA (va_runV (As := [.int 1]) (rest := []) ⟨hx, hb, hml, hown, hts⟩ (t_X11_found l D G S _ hG hP 1) (cwV 1 hts gX11_broke_X11_found rfl rfl rfl (by decide +kernel) ⟨Nat.le_of_ble_eq_true rfl, Nat.le_of_ble_eq_true rfl⟩) (r_preV (k := 65) hA hW (ci := 10) (C := RX11) (T := TX11) (N := 20) rfl rfl (g_lt hG (by decide)) (g_kd hG (by decide) rfl) rfl rfl) rfl rfl hl.1 rfl (lv_room (Nat.le_of_ble_eq_true rfl)) dX11_broke_56 ⟨Nat.zero_le _, Nat.zero_le _⟩) (fun r56 S56 H locs hp56 hW => ?_)
                    obtain ⟨hs56, rfl⟩ := hp56
                    rw [hs56] at hW
                    rw [← hQ0]
                    refine r_lret hx hb hr hlocks hW ?_ dX11_broke_59
                    refine ⟨?_, (fun j hj => (congrFun (e_is _ _ _) j).trans ((up_n _ _ hj).trans rfl))⟩
                    have ef : fos (le a1.toNatClampNeg) 0 (nI (3 * a2.toNatClampNeg)) = 1 := by unfold fos; rw [if_pos (by omega)]
                    have e : fBroke B it le st a1 a2 a3 = (FND 1, 1) := by unfold fBroke; rw [if_neg h1, if_pos (by omega), ef, if_neg (by decide)]
                    rw [e]
                    exact ⟨rfl, congrFun (e_is _ _ _) 4, (Ch.ri Ch.rf (by omega))⟩
                · exact absurd c38 (by decide)
              · skip
                refine lv_if_ne (tgt := 45) hx hb dX11_broke_38 (by decide) (fun c38 => ?_) (fun c38 => ?_)
                · exact absurd (by decide) c38
                · skip
                  refine lv_ldc2 (v := (-9000000000000000001)) hx hb hown q5 dX11_broke_41 ?_
                  rw [← hQ0]
                  refine r_lret hx hb hr hlocks hW ?_ dX11_broke_44
                  refine ⟨?_, (fun j hj => rfl)⟩
                  have e : fBroke B it le st a1 a2 a3 = (BADL, st) := by unfold fBroke; rw [if_neg h1, if_neg (by omega)]
                  rw [e]
                  exact ⟨rfl, hst, Ch.rf⟩
          · skip
            refine lv_if_eq (tgt := 41) hx hb dX11_broke_28 (by decide) (fun c28 => ?_) (fun c28 => ?_)
            · skip
              refine lv_ldc2 (v := (-9000000000000000001)) hx hb hown q5 dX11_broke_41 ?_
              rw [← hQ0]
              refine r_lret hx hb hr hlocks hW ?_ dX11_broke_44
              refine ⟨?_, (fun j hj => rfl)⟩
              have e : fBroke B it le st a1 a2 a3 = (BADL, st) := by unfold fBroke; rw [if_neg h1, if_neg (by omega)]
              rw [e]
              exact ⟨rfl, hst, Ch.rf⟩
            · exact absurd (by decide) c28
      · skip
        refine lv_if_eq (tgt := 41) hx hb dX11_broke_16 (by decide) (fun c16 => ?_) (fun c16 => ?_)
        · skip
          refine lv_ldc2 (v := (-9000000000000000001)) hx hb hown q5 dX11_broke_41 ?_
          rw [← hQ0]
          refine r_lret hx hb hr hlocks hW ?_ dX11_broke_44
          refine ⟨?_, (fun j hj => rfl)⟩
          have e : fBroke B it le st a1 a2 a3 = (BADL, st) := by unfold fBroke; rw [if_neg h1, if_neg (by omega)]
          rw [e]
          exact ⟨rfl, hst, Ch.rf⟩
        · exact absurd (by decide) c16
    · exact absurd (by decide) c4

set_option maxHeartbeats 4000000 in
set_option maxRecDepth 100000 in
theorem t_X11_lies_s (l : Launch) (D : Dc) (G : Gg) (S : Sg) (z : Nat) (hG : GrG G) (hP : GrP G S) (it : Nat → Nat → Int32) (la le : Nat → Int32) (hRX : RowsM S it la le) (hL : LeOK le) (st : Int32) (hst : gi S 65 4 = st) (a1 a2 a3 : Int32) : ML l yX11_lies wsX11_lies rmX11_lies D G S z [.ref (gA G 65), .int a1, .int a2, .int a3] (fun r S' => (r = (fLies it le st a1 a2 a3).1 ∧ gi S' 65 4 = (fLies it le st a1 a2 a3).2 ∧ Ch (fun k => k = 65) S S') ∧ (∀ j, j ≠ 4 → gi S' 65 j = gi S 65 j)) := by
  refine Met.ofW (cc := cX11_lies) (maxL := 10) (ret := (some .long)) (by decide +kernel) rfl ?_
  intro pP eE s mM args bl mT cD s₁ bD hml hv
  obtain ⟨rfl, hv⟩ := hv
  have hz := hv.1
  subst hz
  have hx := bD.exec
  have hb := bD.bytes
  have hr := bD.returns
  have hts := atoms_spec (ws := wsX11_lies) bD.pre
  have hown : s.vm.findClass RX11 = some mM.cls := findClass_of_methodNamed bD.named
  have hlocks := bD.notSynchronized
  have hW := Wd.start hv
  have hA : ∀ q, s.heap.size ≤ q → AW G s.heap.size q := fun q h => Or.inr h
  have hl := lv_entry ([.ref (gA G 65), .int a1, .int a2, .int a3]) (n := 10) (Nat.le_of_ble_eq_true rfl)
  rw [lg_entry_eq]
  generalize (lg_sl ([.ref (gA G 65), .int a1, .int a2, .int a3]) ++ List.replicate (10 - (lg_sl ([.ref (gA G 65), .int a1, .int a2, .int a3])).length) Slot.unset).toArray = ls at hl ⊢
  have hl : lv_has ls 10 [(0, .ref (gA G 65)), (1, .int a1), (2, .int a2), (3, .int a3)] := hl
  have q0 := hts (.constantLong RX11 221 (20)) (List.mem_of_getElem? (i := 1) rfl)
  have q1 := hts (.fieldLink RX11 20 "WoodForTwoModel" "length" "[I") (List.mem_of_getElem? (i := 3) rfl)
  have q2 := hts (.constant RX11 223 (-1000000)) (List.mem_of_getElem? (i := 4) rfl)
  have q3 := hts (.fieldLink RX11 13 "WoodForTwoModel" "items" "[I") (List.mem_of_getElem? (i := 5) rfl)
  have q4 := hts (.constantLong RX11 56 (-9000000000000000001)) (List.mem_of_getElem? (i := 2) rfl)
  have iX11 : ∀ w ∈ wsX110, w ∈ wsX11_lies := fun _ h => List.mem_cons_of_mem _ (List.mem_append_right _ (h))
  generalize hQ0 : MQ bl _ _ s _ _ _ = Q0
  refine lv_aload_n hx hb dX11_lies_0 rfl (lv_at hl 0 rfl) ?_
  refine lv_iload_n hx hb dX11_lies_1 rfl (lv_at hl 1 rfl) ?_
  refine r_calli hW hA (va_runV (As := [.int a1]) (rest := []) ⟨hx, hb, hml, hown, hts⟩ (t_X11_isRow l D G S _ hG hP a1) (cwV 1 hts gX11_lies_X11_isRow rfl rfl rfl (by decide +kernel) ⟨Nat.le_of_ble_eq_true rfl, Nat.le_of_ble_eq_true rfl⟩) (r_preV (k := 65) hA hW (ci := 10) (C := RX11) (T := TX11) (N := 20) rfl rfl (g_lt hG (by decide)) (g_kd hG (by decide) rfl) rfl rfl) rfl rfl hl.1 rfl (lv_room (Nat.le_of_ble_eq_true rfl)) dX11_lies_2 ⟨Nat.zero_le _, Nat.zero_le _⟩) (fun r2 S2 H locs hp2 hW => ?_)
  obtain ⟨hs2, hp2⟩ := hp2
  rw [hs2] at hW
  rcases hp2 with ⟨rfl, h2⟩ | ⟨rfl, h2⟩
  · skip
    refine lv_if_eq (tgt := 30) hx hb dX11_lies_5 (by decide) (fun c5 => ?_) (fun c5 => ?_)
    · exact absurd c5 (by decide)
    · skip
      refine lv_iload_n hx hb dX11_lies_8 rfl (lv_at hl 2 rfl) ?_
      refine lv_i2l hx hb dX11_lies_9 rfl ?_
      refine lv_lconst (v := 1) hx hb dX11_lies_10 (by decide) ?_
      refine lv_ldc2 (v := (20)) hx hb hown q0 dX11_lies_11 ?_
      refine r_calli hW hA (va_runS (As := [.long (Int32.toInt64 a2), .long 1, .long (20)]) (rest := []) ⟨hx, hb, hml, hown, hts⟩ (t_X11_in l D G S _ (Int32.toInt64 a2) 1 (20) (a2).toInt 1 20 (Int32.toInt_toInt64 _) (by decide) (by decide)) (va_cwS 3 hts gX11_lies_X11_in rfl rfl rfl (by decide +kernel) ⟨Nat.le_of_ble_eq_true rfl, Nat.le_of_ble_eq_true rfl⟩) (r_preS hA hW) rfl rfl hl.1 rfl (lv_room (Nat.le_of_ble_eq_true rfl)) dX11_lies_14 ⟨Nat.zero_le _, Nat.zero_le _⟩) (fun r14 S14 H locs hp14 hW => ?_)
      obtain ⟨hs14, hp14⟩ := hp14
      rw [hs14] at hW
      rcases hp14 with ⟨rfl, h14⟩ | ⟨rfl, h14⟩
      · skip
        refine lv_if_eq (tgt := 30) hx hb dX11_lies_17 (by decide) (fun c17 => ?_) (fun c17 => ?_)
        · exact absurd c17 (by decide)
        · skip
          refine lv_iload_n hx hb dX11_lies_20 rfl (lv_at hl 3 rfl) ?_
          refine lv_i2l hx hb dX11_lies_21 rfl ?_
          refine lv_lconst (v := 0) hx hb dX11_lies_22 (by decide) ?_
          refine lv_lconst (v := 1) hx hb dX11_lies_23 (by decide) ?_
          refine r_calli hW hA (va_runS (As := [.long (Int32.toInt64 a3), .long 0, .long 1]) (rest := []) ⟨hx, hb, hml, hown, hts⟩ (t_X11_in l D G S _ (Int32.toInt64 a3) 0 1 (a3).toInt 0 1 (Int32.toInt_toInt64 _) (by decide) (by decide)) (va_cwS 3 hts gX11_lies_X11_in rfl rfl rfl (by decide +kernel) ⟨Nat.le_of_ble_eq_true rfl, Nat.le_of_ble_eq_true rfl⟩) (r_preS hA hW) rfl rfl hl.1 rfl (lv_room (Nat.le_of_ble_eq_true rfl)) dX11_lies_24 ⟨Nat.zero_le _, Nat.zero_le _⟩) (fun r24 S24 H locs hp24 hW => ?_)
          obtain ⟨hs24, hp24⟩ := hp24
          rw [hs24] at hW
          rcases hp24 with ⟨rfl, h24⟩ | ⟨rfl, h24⟩
          · skip
            refine lv_if_ne (tgt := 34) hx hb dX11_lies_27 (by decide) (fun c27 => ?_) (fun c27 => ?_)
            · skip
              have hn_a1 := n_nat (x := a1) (by omega)
              have e_a1 := n_nI (x := a1) (by omega)
              have hn_a2 := n_nat (x := a2) (by omega)
              have e_a2 := n_nI (x := a2) (by omega)
              have hle_a1 := hL a1.toNatClampNeg (by omega)
              refine lv_aload_n hx hb dX11_lies_34 rfl (lv_at hl 0 rfl) ?_
              refine r_getr (ci := 10) (C := RX11) (T := TX11) (N := 20) hx hb hts iX11 hown hW rfl 65 3 rfl (g_lt hG (by decide)) (g_kd hG (by decide) rfl) (by decide) q1 (fun _ h9 => h9) (hP _ (List.mem_of_getElem? (i := 63) rfl)) rfl rfl dX11_lies_35 ?_
              refine lv_iload_n hx hb dX11_lies_38 rfl (lv_at hl 1 rfl) ?_
              refine r_iald hx hb hW 69 rfl (g_lt hG (by decide)) (g_kd hG (by decide) rfl) (g_ix hG (c := 8) (by decide) rfl (t_in (by omega) (by omega))) (le a1.toNatClampNeg) (hRX a1.toNatClampNeg (by omega)).2.1 dX11_lies_39 ?_
              refine lv_if_ge (tgt := 49) hx hb dX11_lies_40 (by decide) (fun c40 => ?_) (fun c40 => ?_)
              · skip
                rw [t_le, show (0 : Int32).toInt = 0 from by decide] at c40
                refine lv_iconst (v := 2) hx hb dX11_lies_49 (by decide) ?_
                refine lv_iload_n hx hb dX11_lies_50 rfl (lv_at hl 2 rfl) ?_
                refine lv_imul hx hb dX11_lies_51 ?_
                rw [show ((2 * a2) : Int32) = (nI (2 * a2.toNatClampNeg)) from (congrArg (fun z => (2 : Int32) * z) e_a2).trans (n_mul 2 _)]
                refine lv_aload_n hx hb dX11_lies_52 rfl (lv_at hl 0 rfl) ?_
                refine r_getr (ci := 10) (C := RX11) (T := TX11) (N := 20) hx hb hts iX11 hown hW rfl 65 3 rfl (g_lt hG (by decide)) (g_kd hG (by decide) rfl) (by decide) q1 (fun _ h9 => h9) (hP _ (List.mem_of_getElem? (i := 63) rfl)) rfl rfl dX11_lies_53 ?_
                refine lv_iload_n hx hb dX11_lies_56 rfl (lv_at hl 1 rfl) ?_
                refine r_iald hx hb hW 69 rfl (g_lt hG (by decide)) (g_kd hG (by decide) rfl) (g_ix hG (c := 8) (by decide) rfl (t_in (by omega) (by omega))) (le a1.toNatClampNeg) (hRX a1.toNatClampNeg (by omega)).2.1 dX11_lies_57 ?_
                refine lv_icmp_le (tgt := 67) hx hb dX11_lies_58 (by decide) (fun c58 => ?_) (fun c58 => ?_)
                · skip
                  rw [t_le] at c58
                  rw [n_toInt (by omega)] at c58
                  have hf0 : fos (le a1.toNatClampNeg) 0 (nI (2 * a2.toNatClampNeg)) = 0 := by unfold fos; rw [if_neg (by omega), if_pos ⟨by decide, by rw [n_toInt (by omega)]; omega, by rw [n_toInt (by omega), show (0 : Int32).toInt = 0 from by decide]; omega⟩]
                  refine lv_aload_n hx hb dX11_lies_67 rfl (lv_at hl 0 rfl) ?_
                  refine lv_iload_n hx hb dX11_lies_68 rfl (lv_at hl 1 rfl) ?_
                  refine lv_iconst (v := 2) hx hb dX11_lies_69 (by decide) ?_
                  refine lv_iload_n hx hb dX11_lies_70 rfl (lv_at hl 2 rfl) ?_
                  refine lv_imul hx hb dX11_lies_71 ?_
                  rw [show ((2 * a2) : Int32) = (nI (2 * a2.toNatClampNeg)) from (congrArg (fun z => (2 : Int32) * z) e_a2).trans (n_mul 2 _)]
                  refine lv_iconst (v := 0) hx hb dX11_lies_72 (by decide) ?_
                  refine lv_sipush (v := 999) hx hb dX11_lies_73 (by decide) ?_
                  refine lv_iconst (v := 0) hx hb dX11_lies_76 (by decide) ?_
                  refine W.eq (g2 := F0 mM 77 ls [.int 0, .int 999, .int 0, .int (nI (2 * a2.toNatClampNeg)), .int (nI a1.toNatClampNeg), .ref (gA G 65)]) (by rw [← e_a1]) ?_
                  refine r_calli hW hA (va_runV (As := [.int (nI a1.toNatClampNeg), .int (nI (2 * a2.toNatClampNeg)), .int 0, .int 999, .int 0]) (rest := []) ⟨hx, hb, hml, hown, hts⟩ (t_X11_areWithin_0 l D G S _ hG hP it la le hRX a1.toNatClampNeg (2 * a2.toNatClampNeg) (by omega) (by omega)) (cwV 5 hts gX11_lies_X11_areWithin rfl rfl rfl (by decide +kernel) ⟨Nat.le_of_ble_eq_true rfl, Nat.le_of_ble_eq_true rfl⟩) (r_preV (k := 65) hA hW (ci := 10) (C := RX11) (T := TX11) (N := 20) rfl rfl (g_lt hG (by decide)) (g_kd hG (by decide) rfl) rfl rfl) rfl rfl hl.1 rfl (lv_room (Nat.le_of_ble_eq_true rfl)) dX11_lies_77 ⟨Nat.zero_le _, Nat.zero_le _⟩) (fun r77 S77 H locs hp77 hW => ?_)
                  obtain ⟨hs77, hp77⟩ := hp77
                  rw [hs77] at hW
                  rcases hp77 with ⟨rfl, h77⟩ | ⟨rfl, h77⟩
                  · skip
                    refine lv_if_ne (tgt := 87) hx hb dX11_lies_80 (by decide) (fun c80 => ?_) (fun c80 => ?_)
                    · skip
                      have hall : ∀ k, k < 2 * a2.toNatClampNeg → 0 ≤ (it a1.toNatClampNeg k).toInt ∧ (it a1.toNatClampNeg k).toInt ≤ 999 := h77
                      refine lv_lconst (v := 0) hx hb dX11_lies_87 (by decide) ?_
                      refine lv_lstore (lv' := [(4, .long 0), (0, .ref (gA G 65)), (1, .int a1), (2, .int a2), (3, .int a3)]) hx hb dX11_lies_88 hl (by decide) rfl (fun ls hl => ?_)
                      refine lv_ldc (v := (-1000000)) hx hb hown q2 dX11_lies_90 ?_
                      refine lv_istore (lv' := [(6, .int (-1000000)), (4, .long 0), (0, .ref (gA G 65)), (1, .int a1), (2, .int a2), (3, .int a3)]) hx hb dX11_lies_92 hl (by decide) rfl (fun ls hl => ?_)
                      refine lv_iconst (v := 0) hx hb dX11_lies_94 (by decide) ?_
                      refine lv_istore (lv' := [(7, .int 0), (6, .int (-1000000)), (4, .long 0), (0, .ref (gA G 65)), (1, .int a1), (2, .int a2), (3, .int a3)]) hx hb dX11_lies_95 hl (by decide) rfl (fun ls hl => ?_)
                      refine lv_iconst (v := 0) hx hb dX11_lies_97 (by decide) ?_
                      refine lv_istore (lv' := [(8, .int 0), (7, .int 0), (6, .int (-1000000)), (4, .long 0), (0, .ref (gA G 65)), (1, .int a1), (2, .int a2), (3, .int a3)]) hx hb dX11_lies_98 hl (by decide) rfl (fun ls hl => ?_)
                      have L100 : ∀ (n : Nat) (k : Nat) (H : Heap) (locs : List Loc) (ls : Array Slot), (a2.toNatClampNeg - k) < n → k ≤ a2.toNatClampNeg → Wd D (AW G s.heap.size) s G S H locs → lv_has ls 10 [(8, .int (nI k)), (4, .long (whoF (fun k => 0 < tmN (it a1.toNatClampNeg) k) k)), (6, .int (wrI (tmM (it a1.toNatClampNeg) k).2)), (7, .int (nI (tmM (it a1.toNatClampNeg) k).1)), (0, .ref (gA G 65)), (1, .int a1), (2, .int a2), (3, .int a3)] → W pP l eE (headSpec wsX11_lies rmX11_lies).room s mM ([.ref (gA G 65), .int a1, .int a2, .int a3] : List Value).toArray bl mT cD H locs 0 0 Q0 (F0 mM 100 ls []) := by
                        intro n
                        induction n with
                        | zero => intro k H locs ls hm; exact absurd hm (Nat.not_lt_zero _)
                        | succ n ih100 =>
                          intro k H locs ls hm100 hk hW hl
                          refine lv_iload hx hb dX11_lies_100 (lv_at hl 0 rfl) ?_
                          refine lv_iload_n hx hb dX11_lies_102 rfl (lv_at hl 6 rfl) ?_
                          refine lv_icmp_ge (tgt := 199) hx hb dX11_lies_103 (by decide) (fun c103 => ?_) (fun c103 => ?_)
                          · skip
                            rw [t_le] at c103
                            have hka : k = a2.toNatClampNeg := by rw [n_toInt (by omega)] at c103; omega
                            refine lv_aload_n hx hb dX11_lies_199 rfl (lv_at hl 4 rfl) ?_
                            refine lv_iload_n hx hb dX11_lies_200 rfl (lv_at hl 7 rfl) ?_
                            refine lv_if_ne (tgt := 209) hx hb dX11_lies_201 (by decide) (fun c201 => ?_) (fun c201 => ?_)
                            · skip
                              rw [t_eq, show (0 : Int32).toInt = 0 from by decide] at c201
                              refine lv_iload hx hb dX11_lies_209 (lv_at hl 2 rfl) ?_
                              refine lv_i2l hx hb dX11_lies_211 rfl ?_
                              refine r_calll hW hA (va_runV (As := [.long (Int32.toInt64 (wrI (tmM (it a1.toNatClampNeg) k).2))]) (rest := []) ⟨hx, hb, hml, hown, hts⟩ (t_X11_good l D G S _ hG hP (Int32.toInt64 (wrI (tmM (it a1.toNatClampNeg) k).2))) (cwV 1 hts gX11_lies_X11_good rfl rfl rfl (by decide +kernel) ⟨Nat.le_of_ble_eq_true rfl, Nat.le_of_ble_eq_true rfl⟩) (r_preV (k := 65) hA hW (ci := 10) (C := RX11) (T := TX11) (N := 20) rfl rfl (g_lt hG (by decide)) (g_kd hG (by decide) rfl) rfl rfl) rfl rfl hl.1 rfl (lv_room (Nat.le_of_ble_eq_true rfl)) dX11_lies_212 ⟨Nat.zero_le _, Nat.zero_le _⟩) (fun r212 S212 H locs hp212 hW => ?_)
                              obtain ⟨hs212, rfl⟩ := hp212
                              rw [hs212] at hW
                              rw [← hQ0]
                              refine r_lret hx hb hr hlocks hW ?_ dX11_lies_215
                              refine ⟨?_, (fun j hj => (congrFun (e_is _ _ _) j).trans ((up_n _ _ hj).trans rfl))⟩
                              subst hka
                              have e : fLies it le st a1 a2 a3 = ((wrI (tmM (it a1.toNatClampNeg) a2.toNatClampNeg).2).toInt64, 0) := by unfold fLies; rw [if_pos (by omega), if_pos hf0, if_pos hall, if_neg c201]
                              rw [e]
                              exact ⟨rfl, congrFun (e_is _ _ _) 4, (Ch.ri Ch.rf (by omega))⟩
                            · skip
                              rw [t_eq, show (0 : Int32).toInt = 0 from by decide] at c201
                              refine lv_lload hx hb dX11_lies_204 (lv_at hl 1 rfl) ?_
                              refine lv_goto (tgt := 212) hx hb dX11_lies_206 (by decide) ?_
                              refine r_calll hW hA (va_runV (As := [.long (whoF (fun k => 0 < tmN (it a1.toNatClampNeg) k) k)]) (rest := []) ⟨hx, hb, hml, hown, hts⟩ (t_X11_good l D G S _ hG hP (whoF (fun k => 0 < tmN (it a1.toNatClampNeg) k) k)) (cwV 1 hts gX11_lies_X11_good rfl rfl rfl (by decide +kernel) ⟨Nat.le_of_ble_eq_true rfl, Nat.le_of_ble_eq_true rfl⟩) (r_preV (k := 65) hA hW (ci := 10) (C := RX11) (T := TX11) (N := 20) rfl rfl (g_lt hG (by decide)) (g_kd hG (by decide) rfl) rfl rfl) rfl rfl hl.1 rfl (lv_room (Nat.le_of_ble_eq_true rfl)) dX11_lies_212 ⟨Nat.zero_le _, Nat.zero_le _⟩) (fun r212 S212 H locs hp212 hW => ?_)
                              obtain ⟨hs212, rfl⟩ := hp212
                              rw [hs212] at hW
                              rw [← hQ0]
                              refine r_lret hx hb hr hlocks hW ?_ dX11_lies_215
                              refine ⟨?_, (fun j hj => (congrFun (e_is _ _ _) j).trans ((up_n _ _ hj).trans rfl))⟩
                              subst hka
                              have e : fLies it le st a1 a2 a3 = (whoF (fun k => 0 < tmN (it a1.toNatClampNeg) k) a2.toNatClampNeg, 0) := by unfold fLies; rw [if_pos (by omega), if_pos hf0, if_pos hall, if_pos c201]
                              rw [e]
                              exact ⟨rfl, congrFun (e_is _ _ _) 4, (Ch.ri Ch.rf (by omega))⟩
                          · skip
                            rw [t_le] at c103
                            have hkl : k < a2.toNatClampNeg := by rw [n_toInt (by omega)] at c103; omega
                            refine lv_aload_n hx hb dX11_lies_106 rfl (lv_at hl 4 rfl) ?_
                            refine r_getr (ci := 10) (C := RX11) (T := TX11) (N := 20) hx hb hts iX11 hown hW rfl 65 1 rfl (g_lt hG (by decide)) (g_kd hG (by decide) rfl) (by decide) q3 (fun _ h9 => h9) (hP _ (List.mem_of_getElem? (i := 61) rfl)) rfl rfl dX11_lies_107 ?_
                            refine lv_bipush (v := 40) hx hb dX11_lies_110 (by decide) ?_
                            refine lv_iload_n hx hb dX11_lies_112 rfl (lv_at hl 5 rfl) ?_
                            refine lv_imul hx hb dX11_lies_113 ?_
                            rw [show ((40 * a1) : Int32) = (nI (40 * a1.toNatClampNeg)) from (congrArg (fun z => (40 : Int32) * z) e_a1).trans (n_mul 40 _)]
                            refine lv_iconst (v := 2) hx hb dX11_lies_114 (by decide) ?_
                            refine lv_iload hx hb dX11_lies_115 (lv_at hl 0 rfl) ?_
                            refine lv_imul hx hb dX11_lies_117 ?_
                            rw [show ((2 * (nI k)) : Int32) = (nI (2 * k)) from n_mul 2 k]
                            refine lv_iadd hx hb dX11_lies_118 ?_
                            rw [show (((nI (40 * a1.toNatClampNeg)) + (nI (2 * k))) : Int32) = (nI ((40 * a1.toNatClampNeg) + (2 * k))) from n_add (40 * a1.toNatClampNeg) (2 * k)]
                            refine r_iald hx hb hW 67 rfl (g_lt hG (by decide)) (g_kd hG (by decide) rfl) (g_ix hG (c := 320) (by decide) rfl (n_inI (by omega) (by decide))) (it a1.toNatClampNeg (2 * k)) (by rw [n_clamp (by omega)]; exact (hRX a1.toNatClampNeg (by omega)).2.2 (2 * k) (by omega)) dX11_lies_119 ?_
                            refine lv_aload_n hx hb dX11_lies_120 rfl (lv_at hl 4 rfl) ?_
                            refine r_getr (ci := 10) (C := RX11) (T := TX11) (N := 20) hx hb hts iX11 hown hW rfl 65 1 rfl (g_lt hG (by decide)) (g_kd hG (by decide) rfl) (by decide) q3 (fun _ h9 => h9) (hP _ (List.mem_of_getElem? (i := 61) rfl)) rfl rfl dX11_lies_121 ?_
                            refine lv_bipush (v := 40) hx hb dX11_lies_124 (by decide) ?_
                            refine lv_iload_n hx hb dX11_lies_126 rfl (lv_at hl 5 rfl) ?_
                            refine lv_imul hx hb dX11_lies_127 ?_
                            rw [show ((40 * a1) : Int32) = (nI (40 * a1.toNatClampNeg)) from (congrArg (fun z => (40 : Int32) * z) e_a1).trans (n_mul 40 _)]
                            refine lv_iconst (v := 2) hx hb dX11_lies_128 (by decide) ?_
                            refine lv_iload hx hb dX11_lies_129 (lv_at hl 0 rfl) ?_
                            refine lv_imul hx hb dX11_lies_131 ?_
                            rw [show ((2 * (nI k)) : Int32) = (nI (2 * k)) from n_mul 2 k]
                            refine lv_iadd hx hb dX11_lies_132 ?_
                            rw [show (((nI (40 * a1.toNatClampNeg)) + (nI (2 * k))) : Int32) = (nI ((40 * a1.toNatClampNeg) + (2 * k))) from n_add (40 * a1.toNatClampNeg) (2 * k)]
                            refine lv_iconst (v := 1) hx hb dX11_lies_133 (by decide) ?_
                            refine lv_iadd hx hb dX11_lies_134 ?_
                            rw [show (((nI ((40 * a1.toNatClampNeg) + (2 * k))) + 1) : Int32) = (nI (((40 * a1.toNatClampNeg) + (2 * k)) + 1)) from n_add ((40 * a1.toNatClampNeg) + (2 * k)) 1]
                            refine r_iald hx hb hW 67 rfl (g_lt hG (by decide)) (g_kd hG (by decide) rfl) (g_ix hG (c := 320) (by decide) rfl (n_inI (by omega) (by decide))) (it a1.toNatClampNeg (2 * k + 1)) (by rw [n_clamp (by omega), Nat.add_assoc]; exact (hRX a1.toNatClampNeg (by omega)).2.2 (2 * k + 1) (by omega)) dX11_lies_135 ?_
                            refine lv_isub hx hb dX11_lies_136 ?_
                            have w0 := hall (2 * k) (by omega)
                            have w1 := hall (2 * k + 1) (by omega)
                            have htm : (((it a1.toNatClampNeg (2 * k)) - (it a1.toNatClampNeg (2 * k + 1)))).toInt = (it a1.toNatClampNeg (2 * k)).toInt - (it a1.toNatClampNeg (2 * k + 1)).toInt := t_sub (by omega) (by omega)
                            have f0 := n_nat (x := it a1.toNatClampNeg (2 * k)) w0.1
                            have f1 := n_nat (x := it a1.toNatClampNeg (2 * k + 1)) w1.1
                            have htN : tmN (it a1.toNatClampNeg) k = (((it a1.toNatClampNeg (2 * k)) - (it a1.toNatClampNeg (2 * k + 1)))).toInt.toNat := by unfold tmN; omega
                            have hM1 := tmM_1 (it a1.toNatClampNeg) k (fun j hj => hall j (by omega))
                            have hM2 : (nI (tmM (it a1.toNatClampNeg) k).1).toInt = ((tmM (it a1.toNatClampNeg) k).1 : Int) := n_toInt (by omega)
                            refine lv_istore (lv' := [(9, .int ((it a1.toNatClampNeg (2 * k)) - (it a1.toNatClampNeg (2 * k + 1)))), (8, .int (nI k)), (4, .long (whoF (fun k => 0 < tmN (it a1.toNatClampNeg) k) k)), (6, .int (wrI (tmM (it a1.toNatClampNeg) k).2)), (7, .int (nI (tmM (it a1.toNatClampNeg) k).1)), (0, .ref (gA G 65)), (1, .int a1), (2, .int a2), (3, .int a3)]) hx hb dX11_lies_137 hl (by decide) rfl (fun ls hl => ?_)
                            refine lv_lload hx hb dX11_lies_139 (lv_at hl 2 rfl) ?_
                            refine lv_iload hx hb dX11_lies_141 (lv_at hl 0 rfl) ?_
                            refine lv_if_le (tgt := 150) hx hb dX11_lies_143 (by decide) (fun c143 => ?_) (fun c143 => ?_)
                            · skip
                              rw [t_le, show (0 : Int32).toInt = 0 from by decide] at c143
                              refine lv_iconst (v := 0) hx hb dX11_lies_150 (by decide) ?_
                              refine r_calli hW hA (va_runS (As := [.int 0]) (rest := [.long (whoF (fun k => 0 < tmN (it a1.toNatClampNeg) k) k)]) ⟨hx, hb, hml, hown, hts⟩ (t_X11_one l D G S _ 0 (by decide)) (va_cwS 1 hts gX11_lies_X11_one rfl rfl rfl (by decide +kernel) ⟨Nat.le_of_ble_eq_true rfl, Nat.le_of_ble_eq_true rfl⟩) (r_preS hA hW) rfl rfl hl.1 rfl (lv_room (Nat.le_of_ble_eq_true rfl)) dX11_lies_151 ⟨Nat.zero_le _, Nat.zero_le _⟩) (fun r151 S151 H locs hp151 hW => ?_)
                              obtain ⟨hs151, rfl⟩ := hp151
                              rw [hs151] at hW
                              refine lv_i2l hx hb dX11_lies_154 rfl ?_
                              have ez : ((Int32.toInt64 0) : Int64) = 0 := by decide
                              refine W.eq (g2 := F0 mM 155 ls [.long 0, .long (whoF (fun k => 0 < tmN (it a1.toNatClampNeg) k) k)]) (by rw [← ez]) ?_
                              refine lv_iload hx hb dX11_lies_155 (lv_at hl 1 rfl) ?_
                              refine lv_lshl hx hb dX11_lies_157 rfl ?_
                              refine lv_lor hx hb dX11_lies_158 ?_
                              refine lv_lstore (lv' := [(4, .long ((whoF (fun k => 0 < tmN (it a1.toNatClampNeg) k) k) ||| (0 <<< (Int32.toInt64 (nI k) &&& 63)))), (9, .int ((it a1.toNatClampNeg (2 * k)) - (it a1.toNatClampNeg (2 * k + 1)))), (8, .int (nI k)), (6, .int (wrI (tmM (it a1.toNatClampNeg) k).2)), (7, .int (nI (tmM (it a1.toNatClampNeg) k).1)), (0, .ref (gA G 65)), (1, .int a1), (2, .int a2), (3, .int a3)]) hx hb dX11_lies_159 hl (by decide) rfl (fun ls hl => ?_)
                              refine lv_iload hx hb dX11_lies_161 (lv_at hl 1 rfl) ?_
                              refine lv_iload hx hb dX11_lies_163 (lv_at hl 4 rfl) ?_
                              refine lv_icmp_le (tgt := 173) hx hb dX11_lies_165 (by decide) (fun c165 => ?_) (fun c165 => ?_)
                              · skip
                                have d165 := (t_le _ _).mp c165
                                refine lv_iload hx hb dX11_lies_173 (lv_at hl 3 rfl) ?_
                                refine lv_istore (lv' := [(6, .int (wrI (tmM (it a1.toNatClampNeg) k).2)), (4, .long ((whoF (fun k => 0 < tmN (it a1.toNatClampNeg) k) k) ||| (0 <<< (Int32.toInt64 (nI k) &&& 63)))), (9, .int ((it a1.toNatClampNeg (2 * k)) - (it a1.toNatClampNeg (2 * k + 1)))), (8, .int (nI k)), (7, .int (nI (tmM (it a1.toNatClampNeg) k).1)), (0, .ref (gA G 65)), (1, .int a1), (2, .int a2), (3, .int a3)]) hx hb dX11_lies_175 hl (by decide) rfl (fun ls hl => ?_)
                                refine lv_iload hx hb dX11_lies_177 (lv_at hl 2 rfl) ?_
                                refine lv_iload hx hb dX11_lies_179 (lv_at hl 4 rfl) ?_
                                refine lv_icmp_le (tgt := 189) hx hb dX11_lies_181 (by decide) (fun c181 => ?_) (fun c181 => ?_)
                                · skip
                                  refine lv_iload hx hb dX11_lies_189 (lv_at hl 4 rfl) ?_
                                  refine lv_istore (lv' := [(7, .int (nI (tmM (it a1.toNatClampNeg) k).1)), (6, .int (wrI (tmM (it a1.toNatClampNeg) k).2)), (4, .long ((whoF (fun k => 0 < tmN (it a1.toNatClampNeg) k) k) ||| (0 <<< (Int32.toInt64 (nI k) &&& 63)))), (9, .int ((it a1.toNatClampNeg (2 * k)) - (it a1.toNatClampNeg (2 * k + 1)))), (8, .int (nI k)), (0, .ref (gA G 65)), (1, .int a1), (2, .int a2), (3, .int a3)]) hx hb dX11_lies_191 hl (by decide) rfl (fun ls hl => ?_)
                                  have ew : ((whoF (fun k => 0 < tmN (it a1.toNatClampNeg) k) k) ||| (0 <<< (Int32.toInt64 (nI k) &&& 63))) = whoF (fun k => 0 < tmN (it a1.toNatClampNeg) k) (k + 1) := by rw [sh0]; show _ = (if 0 < tmN (it a1.toNatClampNeg) k then _ else _); rw [if_neg (by omega)]
                                  have eM : tmM (it a1.toNatClampNeg) (k + 1) = tmM (it a1.toNatClampNeg) k := by show (if _ then _ else _) = _; rw [if_neg (by omega)]
                                  have em : (nI (tmM (it a1.toNatClampNeg) k).1) = nI (tmM (it a1.toNatClampNeg) (k + 1)).1 := by rw [eM]
                                  have eo : (wrI (tmM (it a1.toNatClampNeg) k).2) = wrI (tmM (it a1.toNatClampNeg) (k + 1)).2 := by rw [eM]
                                  have hl : lv_has ls 10 [(7, .int (nI (tmM (it a1.toNatClampNeg) (k + 1)).1)), (6, .int (wrI (tmM (it a1.toNatClampNeg) (k + 1)).2)), (4, .long (whoF (fun k => 0 < tmN (it a1.toNatClampNeg) k) (k + 1))), (9, .int ((it a1.toNatClampNeg (2 * k)) - (it a1.toNatClampNeg (2 * k + 1)))), (8, .int (nI k)), (0, .ref (gA G 65)), (1, .int a1), (2, .int a2), (3, .int a3)] := by rw [← ew, ← em, ← eo]; exact hl
                                  refine lv_iinc (v := (nI (k + 1))) (lv' := [(8, .int (nI (k + 1))), (7, .int (nI (tmM (it a1.toNatClampNeg) (k + 1)).1)), (6, .int (wrI (tmM (it a1.toNatClampNeg) (k + 1)).2)), (4, .long (whoF (fun k => 0 < tmN (it a1.toNatClampNeg) k) (k + 1))), (9, .int ((it a1.toNatClampNeg (2 * k)) - (it a1.toNatClampNeg (2 * k + 1)))), (0, .ref (gA G 65)), (1, .int a1), (2, .int a2), (3, .int a3)]) hx hb dX11_lies_193 hl (k := 4) rfl (nI_1 k) (by decide) rfl (fun ls hl => ?_)
                                  refine lv_goto (tgt := 100) hx hb dX11_lies_196 (by decide) ?_
                                  exact ih100 (k + 1) _ _ ls (by omega) hkl hW (lv_sub hl [0, 3, 2, 1, 5, 6, 7, 8] rfl)
                                · exact absurd c165 c181
                              · skip
                                have d165 : ¬ _ := fun z => c165 ((t_le _ _).mpr z)
                                refine lv_iload hx hb dX11_lies_168 (lv_at hl 2 rfl) ?_
                                refine lv_goto (tgt := 175) hx hb dX11_lies_170 (by decide) ?_
                                refine lv_istore (lv' := [(6, .int (nI k)), (4, .long ((whoF (fun k => 0 < tmN (it a1.toNatClampNeg) k) k) ||| (0 <<< (Int32.toInt64 (nI k) &&& 63)))), (9, .int ((it a1.toNatClampNeg (2 * k)) - (it a1.toNatClampNeg (2 * k + 1)))), (8, .int (nI k)), (7, .int (nI (tmM (it a1.toNatClampNeg) k).1)), (0, .ref (gA G 65)), (1, .int a1), (2, .int a2), (3, .int a3)]) hx hb dX11_lies_175 hl (by decide) rfl (fun ls hl => ?_)
                                refine lv_iload hx hb dX11_lies_177 (lv_at hl 2 rfl) ?_
                                refine lv_iload hx hb dX11_lies_179 (lv_at hl 4 rfl) ?_
                                refine lv_icmp_le (tgt := 189) hx hb dX11_lies_181 (by decide) (fun c181 => ?_) (fun c181 => ?_)
                                · exact absurd c181 c165
                                · skip
                                  refine lv_iload hx hb dX11_lies_184 (lv_at hl 2 rfl) ?_
                                  refine lv_goto (tgt := 191) hx hb dX11_lies_186 (by decide) ?_
                                  refine lv_istore (lv' := [(7, .int ((it a1.toNatClampNeg (2 * k)) - (it a1.toNatClampNeg (2 * k + 1)))), (6, .int (nI k)), (4, .long ((whoF (fun k => 0 < tmN (it a1.toNatClampNeg) k) k) ||| (0 <<< (Int32.toInt64 (nI k) &&& 63)))), (9, .int ((it a1.toNatClampNeg (2 * k)) - (it a1.toNatClampNeg (2 * k + 1)))), (8, .int (nI k)), (0, .ref (gA G 65)), (1, .int a1), (2, .int a2), (3, .int a3)]) hx hb dX11_lies_191 hl (by decide) rfl (fun ls hl => ?_)
                                  have ew : ((whoF (fun k => 0 < tmN (it a1.toNatClampNeg) k) k) ||| (0 <<< (Int32.toInt64 (nI k) &&& 63))) = whoF (fun k => 0 < tmN (it a1.toNatClampNeg) k) (k + 1) := by rw [sh0]; show _ = (if 0 < tmN (it a1.toNatClampNeg) k then _ else _); rw [if_neg (by omega)]
                                  have eM : tmM (it a1.toNatClampNeg) (k + 1) = (tmN (it a1.toNatClampNeg) k, some k) := by show (if _ then _ else _) = _; rw [if_pos (by omega)]
                                  have em : ((it a1.toNatClampNeg (2 * k)) - (it a1.toNatClampNeg (2 * k + 1))) = nI (tmM (it a1.toNatClampNeg) (k + 1)).1 := by rw [eM]; show _ = nI (tmN (it a1.toNatClampNeg) k); rw [htN]; exact n_nI (by omega)
                                  have eo : (nI k) = wrI (tmM (it a1.toNatClampNeg) (k + 1)).2 := by rw [eM]; rfl
                                  have hl : lv_has ls 10 [(7, .int (nI (tmM (it a1.toNatClampNeg) (k + 1)).1)), (6, .int (wrI (tmM (it a1.toNatClampNeg) (k + 1)).2)), (4, .long (whoF (fun k => 0 < tmN (it a1.toNatClampNeg) k) (k + 1))), (9, .int ((it a1.toNatClampNeg (2 * k)) - (it a1.toNatClampNeg (2 * k + 1)))), (8, .int (nI k)), (0, .ref (gA G 65)), (1, .int a1), (2, .int a2), (3, .int a3)] := by rw [← ew, ← em, ← eo]; exact hl
                                  refine lv_iinc (v := (nI (k + 1))) (lv' := [(8, .int (nI (k + 1))), (7, .int (nI (tmM (it a1.toNatClampNeg) (k + 1)).1)), (6, .int (wrI (tmM (it a1.toNatClampNeg) (k + 1)).2)), (4, .long (whoF (fun k => 0 < tmN (it a1.toNatClampNeg) k) (k + 1))), (9, .int ((it a1.toNatClampNeg (2 * k)) - (it a1.toNatClampNeg (2 * k + 1)))), (0, .ref (gA G 65)), (1, .int a1), (2, .int a2), (3, .int a3)]) hx hb dX11_lies_193 hl (k := 4) rfl (nI_1 k) (by decide) rfl (fun ls hl => ?_)
                                  refine lv_goto (tgt := 100) hx hb dX11_lies_196 (by decide) ?_
                                  exact ih100 (k + 1) _ _ ls (by omega) hkl hW (lv_sub hl [0, 3, 2, 1, 5, 6, 7, 8] rfl)
                            · skip
                              rw [t_le, show (0 : Int32).toInt = 0 from by decide] at c143
                              refine lv_iconst (v := 1) hx hb dX11_lies_146 (by decide) ?_
                              refine lv_goto (tgt := 151) hx hb dX11_lies_147 (by decide) ?_
                              refine r_calli hW hA (va_runS (As := [.int 1]) (rest := [.long (whoF (fun k => 0 < tmN (it a1.toNatClampNeg) k) k)]) ⟨hx, hb, hml, hown, hts⟩ (t_X11_one l D G S _ 1 (by decide)) (va_cwS 1 hts gX11_lies_X11_one rfl rfl rfl (by decide +kernel) ⟨Nat.le_of_ble_eq_true rfl, Nat.le_of_ble_eq_true rfl⟩) (r_preS hA hW) rfl rfl hl.1 rfl (lv_room (Nat.le_of_ble_eq_true rfl)) dX11_lies_151 ⟨Nat.zero_le _, Nat.zero_le _⟩) (fun r151 S151 H locs hp151 hW => ?_)
                              obtain ⟨hs151, rfl⟩ := hp151
                              rw [hs151] at hW
                              refine lv_i2l hx hb dX11_lies_154 rfl ?_
                              have ez : ((Int32.toInt64 1) : Int64) = 1 := by decide
                              refine W.eq (g2 := F0 mM 155 ls [.long 1, .long (whoF (fun k => 0 < tmN (it a1.toNatClampNeg) k) k)]) (by rw [← ez]) ?_
                              refine lv_iload hx hb dX11_lies_155 (lv_at hl 1 rfl) ?_
                              refine lv_lshl hx hb dX11_lies_157 rfl ?_
                              refine lv_lor hx hb dX11_lies_158 ?_
                              refine lv_lstore (lv' := [(4, .long ((whoF (fun k => 0 < tmN (it a1.toNatClampNeg) k) k) ||| (1 <<< (Int32.toInt64 (nI k) &&& 63)))), (9, .int ((it a1.toNatClampNeg (2 * k)) - (it a1.toNatClampNeg (2 * k + 1)))), (8, .int (nI k)), (6, .int (wrI (tmM (it a1.toNatClampNeg) k).2)), (7, .int (nI (tmM (it a1.toNatClampNeg) k).1)), (0, .ref (gA G 65)), (1, .int a1), (2, .int a2), (3, .int a3)]) hx hb dX11_lies_159 hl (by decide) rfl (fun ls hl => ?_)
                              refine lv_iload hx hb dX11_lies_161 (lv_at hl 1 rfl) ?_
                              refine lv_iload hx hb dX11_lies_163 (lv_at hl 4 rfl) ?_
                              refine lv_icmp_le (tgt := 173) hx hb dX11_lies_165 (by decide) (fun c165 => ?_) (fun c165 => ?_)
                              · skip
                                have d165 := (t_le _ _).mp c165
                                refine lv_iload hx hb dX11_lies_173 (lv_at hl 3 rfl) ?_
                                refine lv_istore (lv' := [(6, .int (wrI (tmM (it a1.toNatClampNeg) k).2)), (4, .long ((whoF (fun k => 0 < tmN (it a1.toNatClampNeg) k) k) ||| (1 <<< (Int32.toInt64 (nI k) &&& 63)))), (9, .int ((it a1.toNatClampNeg (2 * k)) - (it a1.toNatClampNeg (2 * k + 1)))), (8, .int (nI k)), (7, .int (nI (tmM (it a1.toNatClampNeg) k).1)), (0, .ref (gA G 65)), (1, .int a1), (2, .int a2), (3, .int a3)]) hx hb dX11_lies_175 hl (by decide) rfl (fun ls hl => ?_)
                                refine lv_iload hx hb dX11_lies_177 (lv_at hl 2 rfl) ?_
                                refine lv_iload hx hb dX11_lies_179 (lv_at hl 4 rfl) ?_
                                refine lv_icmp_le (tgt := 189) hx hb dX11_lies_181 (by decide) (fun c181 => ?_) (fun c181 => ?_)
                                · skip
                                  refine lv_iload hx hb dX11_lies_189 (lv_at hl 4 rfl) ?_
                                  refine lv_istore (lv' := [(7, .int (nI (tmM (it a1.toNatClampNeg) k).1)), (6, .int (wrI (tmM (it a1.toNatClampNeg) k).2)), (4, .long ((whoF (fun k => 0 < tmN (it a1.toNatClampNeg) k) k) ||| (1 <<< (Int32.toInt64 (nI k) &&& 63)))), (9, .int ((it a1.toNatClampNeg (2 * k)) - (it a1.toNatClampNeg (2 * k + 1)))), (8, .int (nI k)), (0, .ref (gA G 65)), (1, .int a1), (2, .int a2), (3, .int a3)]) hx hb dX11_lies_191 hl (by decide) rfl (fun ls hl => ?_)
                                  have ew : ((whoF (fun k => 0 < tmN (it a1.toNatClampNeg) k) k) ||| (1 <<< (Int32.toInt64 (nI k) &&& 63))) = whoF (fun k => 0 < tmN (it a1.toNatClampNeg) k) (k + 1) := by show _ = (if 0 < tmN (it a1.toNatClampNeg) k then _ else _); rw [if_pos (by omega)]
                                  have eM : tmM (it a1.toNatClampNeg) (k + 1) = tmM (it a1.toNatClampNeg) k := by show (if _ then _ else _) = _; rw [if_neg (by omega)]
                                  have em : (nI (tmM (it a1.toNatClampNeg) k).1) = nI (tmM (it a1.toNatClampNeg) (k + 1)).1 := by rw [eM]
                                  have eo : (wrI (tmM (it a1.toNatClampNeg) k).2) = wrI (tmM (it a1.toNatClampNeg) (k + 1)).2 := by rw [eM]
                                  have hl : lv_has ls 10 [(7, .int (nI (tmM (it a1.toNatClampNeg) (k + 1)).1)), (6, .int (wrI (tmM (it a1.toNatClampNeg) (k + 1)).2)), (4, .long (whoF (fun k => 0 < tmN (it a1.toNatClampNeg) k) (k + 1))), (9, .int ((it a1.toNatClampNeg (2 * k)) - (it a1.toNatClampNeg (2 * k + 1)))), (8, .int (nI k)), (0, .ref (gA G 65)), (1, .int a1), (2, .int a2), (3, .int a3)] := by rw [← ew, ← em, ← eo]; exact hl
                                  refine lv_iinc (v := (nI (k + 1))) (lv' := [(8, .int (nI (k + 1))), (7, .int (nI (tmM (it a1.toNatClampNeg) (k + 1)).1)), (6, .int (wrI (tmM (it a1.toNatClampNeg) (k + 1)).2)), (4, .long (whoF (fun k => 0 < tmN (it a1.toNatClampNeg) k) (k + 1))), (9, .int ((it a1.toNatClampNeg (2 * k)) - (it a1.toNatClampNeg (2 * k + 1)))), (0, .ref (gA G 65)), (1, .int a1), (2, .int a2), (3, .int a3)]) hx hb dX11_lies_193 hl (k := 4) rfl (nI_1 k) (by decide) rfl (fun ls hl => ?_)
                                  refine lv_goto (tgt := 100) hx hb dX11_lies_196 (by decide) ?_
                                  exact ih100 (k + 1) _ _ ls (by omega) hkl hW (lv_sub hl [0, 3, 2, 1, 5, 6, 7, 8] rfl)
                                · exact absurd c165 c181
                              · skip
                                have d165 : ¬ _ := fun z => c165 ((t_le _ _).mpr z)
                                refine lv_iload hx hb dX11_lies_168 (lv_at hl 2 rfl) ?_
                                refine lv_goto (tgt := 175) hx hb dX11_lies_170 (by decide) ?_
                                refine lv_istore (lv' := [(6, .int (nI k)), (4, .long ((whoF (fun k => 0 < tmN (it a1.toNatClampNeg) k) k) ||| (1 <<< (Int32.toInt64 (nI k) &&& 63)))), (9, .int ((it a1.toNatClampNeg (2 * k)) - (it a1.toNatClampNeg (2 * k + 1)))), (8, .int (nI k)), (7, .int (nI (tmM (it a1.toNatClampNeg) k).1)), (0, .ref (gA G 65)), (1, .int a1), (2, .int a2), (3, .int a3)]) hx hb dX11_lies_175 hl (by decide) rfl (fun ls hl => ?_)
                                refine lv_iload hx hb dX11_lies_177 (lv_at hl 2 rfl) ?_
                                refine lv_iload hx hb dX11_lies_179 (lv_at hl 4 rfl) ?_
                                refine lv_icmp_le (tgt := 189) hx hb dX11_lies_181 (by decide) (fun c181 => ?_) (fun c181 => ?_)
                                · exact absurd c181 c165
                                · skip
                                  refine lv_iload hx hb dX11_lies_184 (lv_at hl 2 rfl) ?_
                                  refine lv_goto (tgt := 191) hx hb dX11_lies_186 (by decide) ?_
                                  refine lv_istore (lv' := [(7, .int ((it a1.toNatClampNeg (2 * k)) - (it a1.toNatClampNeg (2 * k + 1)))), (6, .int (nI k)), (4, .long ((whoF (fun k => 0 < tmN (it a1.toNatClampNeg) k) k) ||| (1 <<< (Int32.toInt64 (nI k) &&& 63)))), (9, .int ((it a1.toNatClampNeg (2 * k)) - (it a1.toNatClampNeg (2 * k + 1)))), (8, .int (nI k)), (0, .ref (gA G 65)), (1, .int a1), (2, .int a2), (3, .int a3)]) hx hb dX11_lies_191 hl (by decide) rfl (fun ls hl => ?_)
                                  have ew : ((whoF (fun k => 0 < tmN (it a1.toNatClampNeg) k) k) ||| (1 <<< (Int32.toInt64 (nI k) &&& 63))) = whoF (fun k => 0 < tmN (it a1.toNatClampNeg) k) (k + 1) := by show _ = (if 0 < tmN (it a1.toNatClampNeg) k then _ else _); rw [if_pos (by omega)]
                                  have eM : tmM (it a1.toNatClampNeg) (k + 1) = (tmN (it a1.toNatClampNeg) k, some k) := by show (if _ then _ else _) = _; rw [if_pos (by omega)]
                                  have em : ((it a1.toNatClampNeg (2 * k)) - (it a1.toNatClampNeg (2 * k + 1))) = nI (tmM (it a1.toNatClampNeg) (k + 1)).1 := by rw [eM]; show _ = nI (tmN (it a1.toNatClampNeg) k); rw [htN]; exact n_nI (by omega)
                                  have eo : (nI k) = wrI (tmM (it a1.toNatClampNeg) (k + 1)).2 := by rw [eM]; rfl
                                  have hl : lv_has ls 10 [(7, .int (nI (tmM (it a1.toNatClampNeg) (k + 1)).1)), (6, .int (wrI (tmM (it a1.toNatClampNeg) (k + 1)).2)), (4, .long (whoF (fun k => 0 < tmN (it a1.toNatClampNeg) k) (k + 1))), (9, .int ((it a1.toNatClampNeg (2 * k)) - (it a1.toNatClampNeg (2 * k + 1)))), (8, .int (nI k)), (0, .ref (gA G 65)), (1, .int a1), (2, .int a2), (3, .int a3)] := by rw [← ew, ← em, ← eo]; exact hl
                                  refine lv_iinc (v := (nI (k + 1))) (lv' := [(8, .int (nI (k + 1))), (7, .int (nI (tmM (it a1.toNatClampNeg) (k + 1)).1)), (6, .int (wrI (tmM (it a1.toNatClampNeg) (k + 1)).2)), (4, .long (whoF (fun k => 0 < tmN (it a1.toNatClampNeg) k) (k + 1))), (9, .int ((it a1.toNatClampNeg (2 * k)) - (it a1.toNatClampNeg (2 * k + 1)))), (0, .ref (gA G 65)), (1, .int a1), (2, .int a2), (3, .int a3)]) hx hb dX11_lies_193 hl (k := 4) rfl (nI_1 k) (by decide) rfl (fun ls hl => ?_)
                                  refine lv_goto (tgt := 100) hx hb dX11_lies_196 (by decide) ?_
                                  exact ih100 (k + 1) _ _ ls (by omega) hkl hW (lv_sub hl [0, 3, 2, 1, 5, 6, 7, 8] rfl)
                      exact L100 _ 0 _ _ ls (Nat.lt_succ_self _) (Nat.zero_le _) hW (lv_sub hl [0, 3, 2, 1, 4, 5, 6, 7] rfl)
                    · exact absurd c80 (by decide)
                  · skip
                    refine lv_if_ne (tgt := 87) hx hb dX11_lies_80 (by decide) (fun c80 => ?_) (fun c80 => ?_)
                    · exact absurd (by decide) c80
                    · skip
                      refine lv_ldc2 (v := (-9000000000000000001)) hx hb hown q4 dX11_lies_83 ?_
                      rw [← hQ0]
                      refine r_lret hx hb hr hlocks hW ?_ dX11_lies_86
                      refine ⟨?_, (fun j hj => rfl)⟩
                      have e : fLies it le st a1 a2 a3 = (BADL, st) := by unfold fLies; rw [if_pos (by omega), if_pos hf0, if_neg (show ¬ (∀ k, k < 2 * a2.toNatClampNeg → 0 ≤ (it a1.toNatClampNeg k).toInt ∧ (it a1.toNatClampNeg k).toInt ≤ 999) from h77)]
                      rw [e]
                      exact ⟨rfl, hst, Ch.rf⟩
                · skip
                  rw [t_le] at c58
                  rw [n_toInt (by omega)] at c58
                  refine lv_aload_n hx hb dX11_lies_61 rfl (lv_at hl 0 rfl) ?_
                  refine lv_iconst (v := 2) hx hb dX11_lies_62 (by decide) ?_
                  refine r_calll hW hA (va_runV (As := [.int 2]) (rest := []) ⟨hx, hb, hml, hown, hts⟩ (t_X11_found l D G S _ hG hP 2) (cwV 1 hts gX11_lies_X11_found rfl rfl rfl (by decide +kernel) ⟨Nat.le_of_ble_eq_true rfl, Nat.le_of_ble_eq_true rfl⟩) (r_preV (k := 65) hA hW (ci := 10) (C := RX11) (T := TX11) (N := 20) rfl rfl (g_lt hG (by decide)) (g_kd hG (by decide) rfl) rfl rfl) rfl rfl hl.1 rfl (lv_room (Nat.le_of_ble_eq_true rfl)) dX11_lies_63 ⟨Nat.zero_le _, Nat.zero_le _⟩) (fun r63 S63 H locs hp63 hW => ?_)
                  obtain ⟨hs63, rfl⟩ := hp63
                  rw [hs63] at hW
                  rw [← hQ0]
                  refine r_lret hx hb hr hlocks hW ?_ dX11_lies_66
                  refine ⟨?_, (fun j hj => (congrFun (e_is _ _ _) j).trans ((up_n _ _ hj).trans rfl))⟩
                  have ef : fos (le a1.toNatClampNeg) 0 (nI (2 * a2.toNatClampNeg)) = 2 := by unfold fos; rw [if_neg (by omega), if_neg (fun z => by rw [n_toInt (by omega)] at z; omega)]
                  have e : fLies it le st a1 a2 a3 = (FND 2, 2) := by unfold fLies; rw [if_pos (by omega), ef, if_neg (by decide)]
                  rw [e]
                  exact ⟨rfl, congrFun (e_is _ _ _) 4, (Ch.ri Ch.rf (by omega))⟩
              · skip
                rw [t_le, show (0 : Int32).toInt = 0 from by decide] at c40
                refine lv_aload_n hx hb dX11_lies_43 rfl (lv_at hl 0 rfl) ?_
                refine lv_iconst (v := 1) hx hb dX11_lies_44 (by decide) ?_
                refine r_calll hW hA (va_runV (As := [.int 1]) (rest := []) ⟨hx, hb, hml, hown, hts⟩ (t_X11_found l D G S _ hG hP 1) (cwV 1 hts gX11_lies_X11_found rfl rfl rfl (by decide +kernel) ⟨Nat.le_of_ble_eq_true rfl, Nat.le_of_ble_eq_true rfl⟩) (r_preV (k := 65) hA hW (ci := 10) (C := RX11) (T := TX11) (N := 20) rfl rfl (g_lt hG (by decide)) (g_kd hG (by decide) rfl) rfl rfl) rfl rfl hl.1 rfl (lv_room (Nat.le_of_ble_eq_true rfl)) dX11_lies_45 ⟨Nat.zero_le _, Nat.zero_le _⟩) (fun r45 S45 H locs hp45 hW => ?_)
                obtain ⟨hs45, rfl⟩ := hp45
                rw [hs45] at hW
                rw [← hQ0]
                refine r_lret hx hb hr hlocks hW ?_ dX11_lies_48
                refine ⟨?_, (fun j hj => (congrFun (e_is _ _ _) j).trans ((up_n _ _ hj).trans rfl))⟩
                have ef : fos (le a1.toNatClampNeg) 0 (nI (2 * a2.toNatClampNeg)) = 1 := by unfold fos; rw [if_pos (by omega)]
                have e : fLies it le st a1 a2 a3 = (FND 1, 1) := by unfold fLies; rw [if_pos (by omega), ef, if_neg (by decide)]
                rw [e]
                exact ⟨rfl, congrFun (e_is _ _ _) 4, (Ch.ri Ch.rf (by omega))⟩
            · exact absurd c27 (by decide)
          · skip
            refine lv_if_ne (tgt := 34) hx hb dX11_lies_27 (by decide) (fun c27 => ?_) (fun c27 => ?_)
            · exact absurd (by decide) c27
            · skip
              refine lv_ldc2 (v := (-9000000000000000001)) hx hb hown q4 dX11_lies_30 ?_
              rw [← hQ0]
              refine r_lret hx hb hr hlocks hW ?_ dX11_lies_33
              refine ⟨?_, (fun j hj => rfl)⟩
              have e : fLies it le st a1 a2 a3 = (BADL, st) := by unfold fLies; rw [if_neg (by omega)]
              rw [e]
              exact ⟨rfl, hst, Ch.rf⟩
      · skip
        refine lv_if_eq (tgt := 30) hx hb dX11_lies_17 (by decide) (fun c17 => ?_) (fun c17 => ?_)
        · skip
          refine lv_ldc2 (v := (-9000000000000000001)) hx hb hown q4 dX11_lies_30 ?_
          rw [← hQ0]
          refine r_lret hx hb hr hlocks hW ?_ dX11_lies_33
          refine ⟨?_, (fun j hj => rfl)⟩
          have e : fLies it le st a1 a2 a3 = (BADL, st) := by unfold fLies; rw [if_neg (by omega)]
          rw [e]
          exact ⟨rfl, hst, Ch.rf⟩
        · exact absurd (by decide) c17
  · skip
    refine lv_if_eq (tgt := 30) hx hb dX11_lies_5 (by decide) (fun c5 => ?_) (fun c5 => ?_)
    · skip
      refine lv_ldc2 (v := (-9000000000000000001)) hx hb hown q4 dX11_lies_30 ?_
      rw [← hQ0]
      refine r_lret hx hb hr hlocks hW ?_ dX11_lies_33
      refine ⟨?_, (fun j hj => rfl)⟩
      have e : fLies it le st a1 a2 a3 = (BADL, st) := by unfold fLies; rw [if_neg (by omega)]
      rw [e]
      exact ⟨rfl, hst, Ch.rf⟩
    · exact absurd (by decide) c5

set_option maxHeartbeats 4000000 in
set_option maxRecDepth 100000 in
theorem t_X11_as_s (l : Launch) (D : Dc) (G : Gg) (S : Sg) (z : Nat) (hG : GrG G) (hP : GrP G S) (B : Nat → Nat) (c : Nat) (hB : BP B c) (hc : c < 100000) (hM : ∀ k, k < 140 → gj S 66 k = lN (B k)) (st : Int32) (hst : gi S 65 4 = st) (a1 a2 : Int32) : ML l yX11_as wsX11_as rmX11_as D G S z [.ref (gA G 65), .int a1, .int a2] (fun r S' => (r = (fAs B st a1 a2).1 ∧ gi S' 65 4 = (fAs B st a1 a2).2 ∧ Ch (fun k => k = 65) S S') ∧ (∀ j, j ≠ 4 → gi S' 65 j = gi S 65 j)) := by
  refine Met.ofW (cc := cX11_as) (maxL := 5) (ret := (some .long)) (by decide +kernel) rfl ?_
  intro pP eE s mM args bl mT cD s₁ bD hml hv
  obtain ⟨rfl, hv⟩ := hv
  have hz := hv.1
  subst hz
  have hx := bD.exec
  have hb := bD.bytes
  have hr := bD.returns
  have hts := atoms_spec (ws := wsX11_as) bD.pre
  have hown : s.vm.findClass RX11 = some mM.cls := findClass_of_methodNamed bD.named
  have hlocks := bD.notSynchronized
  have hW := Wd.start hv
  have hA : ∀ q, s.heap.size ≤ q → AW G s.heap.size q := fun q h => Or.inr h
  have hl := lv_entry ([.ref (gA G 65), .int a1, .int a2]) (n := 5) (Nat.le_of_ble_eq_true rfl)
  rw [lg_entry_eq]
  generalize (lg_sl ([.ref (gA G 65), .int a1, .int a2]) ++ List.replicate (5 - (lg_sl ([.ref (gA G 65), .int a1, .int a2])).length) Slot.unset).toArray = ls at hl ⊢
  have hl : lv_has ls 5 [(0, .ref (gA G 65)), (1, .int a1), (2, .int a2)] := hl
  have q0 := hts (.constantLong RX11 186 (5)) (List.mem_of_getElem? (i := 1) rfl)
  have q1 := hts (.constantLong RX11 56 (-9000000000000000001)) (List.mem_of_getElem? (i := 2) rfl)
  have hbp := BP_b hB
  refine lv_aload_n hx hb dX11_as_0 rfl (lv_at hl 0 rfl) ?_
  refine lv_iload_n hx hb dX11_as_1 rfl (lv_at hl 1 rfl) ?_
  refine lv_i2l hx hb dX11_as_2 rfl ?_
  refine r_calli hW hA (va_runV (As := [.long (Int32.toInt64 a1)]) (rest := []) ⟨hx, hb, hml, hown, hts⟩ (t_X11_isParty l D G S _ hG hP B c hB hc hM (Int32.toInt64 a1) (a1).toInt (Int32.toInt_toInt64 _)) (cwV 1 hts gX11_as_X11_isParty rfl rfl rfl (by decide +kernel) ⟨Nat.le_of_ble_eq_true rfl, Nat.le_of_ble_eq_true rfl⟩) (r_preV (k := 65) hA hW (ci := 10) (C := RX11) (T := TX11) (N := 20) rfl rfl (g_lt hG (by decide)) (g_kd hG (by decide) rfl) rfl rfl) rfl rfl hl.1 rfl (lv_room (Nat.le_of_ble_eq_true rfl)) dX11_as_3 ⟨Nat.zero_le _, Nat.zero_le _⟩) (fun r3 S3 H locs hp3 hW => ?_)
  obtain ⟨hs3, hp3⟩ := hp3
  rw [hs3] at hW
  rcases hp3 with ⟨rfl, h3⟩ | ⟨rfl, h3⟩
  · skip
    refine lv_if_eq (tgt := 21) hx hb dX11_as_6 (by decide) (fun c6 => ?_) (fun c6 => ?_)
    · exact absurd c6 (by decide)
    · skip
      refine lv_iload_n hx hb dX11_as_9 rfl (lv_at hl 2 rfl) ?_
      refine lv_i2l hx hb dX11_as_10 rfl ?_
      refine lv_lconst (v := 0) hx hb dX11_as_11 (by decide) ?_
      refine lv_ldc2 (v := (5)) hx hb hown q0 dX11_as_12 ?_
      refine r_calli hW hA (va_runS (As := [.long (Int32.toInt64 a2), .long 0, .long (5)]) (rest := []) ⟨hx, hb, hml, hown, hts⟩ (t_X11_in l D G S _ (Int32.toInt64 a2) 0 (5) (a2).toInt 0 5 (Int32.toInt_toInt64 _) (by decide) (by decide)) (va_cwS 3 hts gX11_as_X11_in rfl rfl rfl (by decide +kernel) ⟨Nat.le_of_ble_eq_true rfl, Nat.le_of_ble_eq_true rfl⟩) (r_preS hA hW) rfl rfl hl.1 rfl (lv_room (Nat.le_of_ble_eq_true rfl)) dX11_as_15 ⟨Nat.zero_le _, Nat.zero_le _⟩) (fun r15 S15 H locs hp15 hW => ?_)
      obtain ⟨hs15, hp15⟩ := hp15
      rw [hs15] at hW
      rcases hp15 with ⟨rfl, h15⟩ | ⟨rfl, h15⟩
      · skip
        refine lv_if_ne (tgt := 25) hx hb dX11_as_18 (by decide) (fun c18 => ?_) (fun c18 => ?_)
        · skip
          have hn_a1 := n_nat (x := a1) (by omega)
          have e_a1 := n_nI (x := a1) (by omega)
          have hB1 : BP1 B c := hB.resolve_left (fun z => by have z9 := z.2 17; omega)
          refine lv_aload_n hx hb dX11_as_25 rfl (lv_at hl 0 rfl) ?_
          refine lv_iload_n hx hb dX11_as_26 rfl (lv_at hl 1 rfl) ?_
          refine W.eq (g2 := F0 mM 27 ls [.int (nI a1.toNatClampNeg), .ref (gA G 65)]) (by rw [← e_a1]) ?_
          refine r_calli hW hA (va_runV (As := [.int (nI a1.toNatClampNeg)]) (rest := []) ⟨hx, hb, hml, hown, hts⟩ (t_X11_kindOf l D G S _ hG hP B c hB1 hc hM a1.toNatClampNeg (by omega)) (cwV 1 hts gX11_as_X11_kindOf rfl rfl rfl (by decide +kernel) ⟨Nat.le_of_ble_eq_true rfl, Nat.le_of_ble_eq_true rfl⟩) (r_preV (k := 65) hA hW (ci := 10) (C := RX11) (T := TX11) (N := 20) rfl rfl (g_lt hG (by decide)) (g_kd hG (by decide) rfl) rfl rfl) rfl rfl hl.1 rfl (lv_room (Nat.le_of_ble_eq_true rfl)) dX11_as_27 ⟨Nat.zero_le _, Nat.zero_le _⟩) (fun r27 S27 H locs hp27 hW => ?_)
          obtain ⟨hs27, rfl⟩ := hp27
          rw [hs27] at hW
          have hkb : (kdN (B (34 + a1.toNatClampNeg)) (B (18 + a1.toNatClampNeg))) ≤ 5 := by unfold kdN; (repeat' split) <;> omega
          have hkt : (nI (kdN (B (34 + a1.toNatClampNeg)) (B (18 + a1.toNatClampNeg)))).toInt = (kdN (B (34 + a1.toNatClampNeg)) (B (18 + a1.toNatClampNeg))) := n_toInt (by omega)
          refine lv_istore_n (lv' := [(3, .int (nI (kdN (B (34 + (a1.toNatClampNeg))) (B (18 + (a1.toNatClampNeg)))))), (0, .ref (gA G 65)), (1, .int a1), (2, .int a2)]) hx hb dX11_as_30 rfl hl (by decide) rfl (fun ls hl => ?_)
          refine lv_iload_n hx hb dX11_as_31 rfl (lv_at hl 3 rfl) ?_
          refine lv_if_eq (tgt := 55) hx hb dX11_as_32 (by decide) (fun c32 => ?_) (fun c32 => ?_)
          · skip
            rw [t_eq, show (0 : Int32).toInt = 0 from by decide] at c32
            refine lv_iconst (v := 1) hx hb dX11_as_55 (by decide) ?_
            refine lv_goto (tgt := 60) hx hb dX11_as_56 (by decide) ?_
            refine lv_istore (lv' := [(4, .int 1), (3, .int (nI (kdN (B (34 + (a1.toNatClampNeg))) (B (18 + (a1.toNatClampNeg)))))), (0, .ref (gA G 65)), (1, .int a1), (2, .int a2)]) hx hb dX11_as_60 hl (by decide) rfl (fun ls hl => ?_)
            refine lv_iload hx hb dX11_as_62 (lv_at hl 0 rfl) ?_
            refine lv_if_eq (tgt := 76) hx hb dX11_as_64 (by decide) (fun c64 => ?_) (fun c64 => ?_)
            · exact absurd c64 (by decide)
            · skip
              refine lv_aload_n hx hb dX11_as_67 rfl (lv_at hl 2 rfl) ?_
              refine lv_iload_n hx hb dX11_as_68 rfl (lv_at hl 3 rfl) ?_
              refine lv_i2l hx hb dX11_as_69 rfl ?_
              refine r_calll hW hA (va_runV (As := [.long (Int32.toInt64 a1)]) (rest := []) ⟨hx, hb, hml, hown, hts⟩ (t_X11_good l D G S _ hG hP (Int32.toInt64 a1)) (cwV 1 hts gX11_as_X11_good rfl rfl rfl (by decide +kernel) ⟨Nat.le_of_ble_eq_true rfl, Nat.le_of_ble_eq_true rfl⟩) (r_preV (k := 65) hA hW (ci := 10) (C := RX11) (T := TX11) (N := 20) rfl rfl (g_lt hG (by decide)) (g_kd hG (by decide) rfl) rfl rfl) rfl rfl hl.1 rfl (lv_room (Nat.le_of_ble_eq_true rfl)) dX11_as_70 ⟨Nat.zero_le _, Nat.zero_le _⟩) (fun r70 S70 H locs hp70 hW => ?_)
              obtain ⟨hs70, rfl⟩ := hp70
              rw [hs70] at hW
              refine lv_goto (tgt := 81) hx hb dX11_as_73 (by decide) ?_
              refine r_lret hx hb hr hlocks hW ?_ dX11_as_81
              refine ⟨?_, (fun j hj => (congrFun (e_is _ _ _) j).trans ((up_n _ _ hj).trans rfl))⟩
              have e : fAs B st a1 a2 = (a1.toInt64, 0) := by unfold fAs; rw [if_pos (by omega), if_pos (by omega)]
              rw [e]
              exact ⟨rfl, congrFun (e_is _ _ _) 4, (Ch.ri Ch.rf (by omega))⟩
          · skip
            rw [t_eq, show (0 : Int32).toInt = 0 from by decide] at c32
            refine lv_iload_n hx hb dX11_as_35 rfl (lv_at hl 3 rfl) ?_
            refine lv_iload_n hx hb dX11_as_36 rfl (lv_at hl 0 rfl) ?_
            refine lv_icmp_eq (tgt := 55) hx hb dX11_as_37 (by decide) (fun c37 => ?_) (fun c37 => ?_)
            · skip
              rw [t_eq] at c37
              refine lv_iconst (v := 1) hx hb dX11_as_55 (by decide) ?_
              refine lv_goto (tgt := 60) hx hb dX11_as_56 (by decide) ?_
              refine lv_istore (lv' := [(4, .int 1), (3, .int (nI (kdN (B (34 + (a1.toNatClampNeg))) (B (18 + (a1.toNatClampNeg)))))), (0, .ref (gA G 65)), (1, .int a1), (2, .int a2)]) hx hb dX11_as_60 hl (by decide) rfl (fun ls hl => ?_)
              refine lv_iload hx hb dX11_as_62 (lv_at hl 0 rfl) ?_
              refine lv_if_eq (tgt := 76) hx hb dX11_as_64 (by decide) (fun c64 => ?_) (fun c64 => ?_)
              · exact absurd c64 (by decide)
              · skip
                refine lv_aload_n hx hb dX11_as_67 rfl (lv_at hl 2 rfl) ?_
                refine lv_iload_n hx hb dX11_as_68 rfl (lv_at hl 3 rfl) ?_
                refine lv_i2l hx hb dX11_as_69 rfl ?_
                refine r_calll hW hA (va_runV (As := [.long (Int32.toInt64 a1)]) (rest := []) ⟨hx, hb, hml, hown, hts⟩ (t_X11_good l D G S _ hG hP (Int32.toInt64 a1)) (cwV 1 hts gX11_as_X11_good rfl rfl rfl (by decide +kernel) ⟨Nat.le_of_ble_eq_true rfl, Nat.le_of_ble_eq_true rfl⟩) (r_preV (k := 65) hA hW (ci := 10) (C := RX11) (T := TX11) (N := 20) rfl rfl (g_lt hG (by decide)) (g_kd hG (by decide) rfl) rfl rfl) rfl rfl hl.1 rfl (lv_room (Nat.le_of_ble_eq_true rfl)) dX11_as_70 ⟨Nat.zero_le _, Nat.zero_le _⟩) (fun r70 S70 H locs hp70 hW => ?_)
                obtain ⟨hs70, rfl⟩ := hp70
                rw [hs70] at hW
                refine lv_goto (tgt := 81) hx hb dX11_as_73 (by decide) ?_
                refine r_lret hx hb hr hlocks hW ?_ dX11_as_81
                refine ⟨?_, (fun j hj => (congrFun (e_is _ _ _) j).trans ((up_n _ _ hj).trans rfl))⟩
                have e : fAs B st a1 a2 = (a1.toInt64, 0) := by unfold fAs; rw [if_pos (by omega), if_pos (by omega)]
                rw [e]
                exact ⟨rfl, congrFun (e_is _ _ _) 4, (Ch.ri Ch.rf (by omega))⟩
            · skip
              rw [t_eq] at c37
              refine lv_iload_n hx hb dX11_as_40 rfl (lv_at hl 3 rfl) ?_
              refine lv_iconst (v := 1) hx hb dX11_as_41 (by decide) ?_
              refine lv_icmp_ne (tgt := 59) hx hb dX11_as_42 (by decide) (fun c42 => ?_) (fun c42 => ?_)
              · skip
                rw [t_eq, show (1 : Int32).toInt = 1 from by decide] at c42
                refine lv_iconst (v := 0) hx hb dX11_as_59 (by decide) ?_
                refine lv_istore (lv' := [(4, .int 0), (3, .int (nI (kdN (B (34 + (a1.toNatClampNeg))) (B (18 + (a1.toNatClampNeg)))))), (0, .ref (gA G 65)), (1, .int a1), (2, .int a2)]) hx hb dX11_as_60 hl (by decide) rfl (fun ls hl => ?_)
                refine lv_iload hx hb dX11_as_62 (lv_at hl 0 rfl) ?_
                refine lv_if_eq (tgt := 76) hx hb dX11_as_64 (by decide) (fun c64 => ?_) (fun c64 => ?_)
                · skip
                  refine lv_aload_n hx hb dX11_as_76 rfl (lv_at hl 2 rfl) ?_
                  refine lv_iconst (v := 3) hx hb dX11_as_77 (by decide) ?_
                  refine r_calll hW hA (va_runV (As := [.int 3]) (rest := []) ⟨hx, hb, hml, hown, hts⟩ (t_X11_found l D G S _ hG hP 3) (cwV 1 hts gX11_as_X11_found rfl rfl rfl (by decide +kernel) ⟨Nat.le_of_ble_eq_true rfl, Nat.le_of_ble_eq_true rfl⟩) (r_preV (k := 65) hA hW (ci := 10) (C := RX11) (T := TX11) (N := 20) rfl rfl (g_lt hG (by decide)) (g_kd hG (by decide) rfl) rfl rfl) rfl rfl hl.1 rfl (lv_room (Nat.le_of_ble_eq_true rfl)) dX11_as_78 ⟨Nat.zero_le _, Nat.zero_le _⟩) (fun r78 S78 H locs hp78 hW => ?_)
                  obtain ⟨hs78, rfl⟩ := hp78
                  rw [hs78] at hW
                  refine r_lret hx hb hr hlocks hW ?_ dX11_as_81
                  refine ⟨?_, (fun j hj => (congrFun (e_is _ _ _) j).trans ((up_n _ _ hj).trans rfl))⟩
                  have e : fAs B st a1 a2 = (FND 3, 3) := by unfold fAs; rw [if_pos (by omega), if_neg (by omega)]
                  rw [e]
                  exact ⟨rfl, congrFun (e_is _ _ _) 4, (Ch.ri Ch.rf (by omega))⟩
                · exact absurd (by decide) c64
              · skip
                rw [t_eq, show (1 : Int32).toInt = 1 from by decide] at c42
                refine lv_iload_n hx hb dX11_as_45 rfl (lv_at hl 0 rfl) ?_
                refine lv_iconst (v := 2) hx hb dX11_as_46 (by decide) ?_
                refine lv_icmp_eq (tgt := 55) hx hb dX11_as_47 (by decide) (fun c47 => ?_) (fun c47 => ?_)
                · skip
                  rw [t_eq, show (2 : Int32).toInt = 2 from by decide] at c47
                  refine lv_iconst (v := 1) hx hb dX11_as_55 (by decide) ?_
                  refine lv_goto (tgt := 60) hx hb dX11_as_56 (by decide) ?_
                  refine lv_istore (lv' := [(4, .int 1), (3, .int (nI (kdN (B (34 + (a1.toNatClampNeg))) (B (18 + (a1.toNatClampNeg)))))), (0, .ref (gA G 65)), (1, .int a1), (2, .int a2)]) hx hb dX11_as_60 hl (by decide) rfl (fun ls hl => ?_)
                  refine lv_iload hx hb dX11_as_62 (lv_at hl 0 rfl) ?_
                  refine lv_if_eq (tgt := 76) hx hb dX11_as_64 (by decide) (fun c64 => ?_) (fun c64 => ?_)
                  · exact absurd c64 (by decide)
                  · skip
                    refine lv_aload_n hx hb dX11_as_67 rfl (lv_at hl 2 rfl) ?_
                    refine lv_iload_n hx hb dX11_as_68 rfl (lv_at hl 3 rfl) ?_
                    refine lv_i2l hx hb dX11_as_69 rfl ?_
                    refine r_calll hW hA (va_runV (As := [.long (Int32.toInt64 a1)]) (rest := []) ⟨hx, hb, hml, hown, hts⟩ (t_X11_good l D G S _ hG hP (Int32.toInt64 a1)) (cwV 1 hts gX11_as_X11_good rfl rfl rfl (by decide +kernel) ⟨Nat.le_of_ble_eq_true rfl, Nat.le_of_ble_eq_true rfl⟩) (r_preV (k := 65) hA hW (ci := 10) (C := RX11) (T := TX11) (N := 20) rfl rfl (g_lt hG (by decide)) (g_kd hG (by decide) rfl) rfl rfl) rfl rfl hl.1 rfl (lv_room (Nat.le_of_ble_eq_true rfl)) dX11_as_70 ⟨Nat.zero_le _, Nat.zero_le _⟩) (fun r70 S70 H locs hp70 hW => ?_)
                    obtain ⟨hs70, rfl⟩ := hp70
                    rw [hs70] at hW
                    refine lv_goto (tgt := 81) hx hb dX11_as_73 (by decide) ?_
                    refine r_lret hx hb hr hlocks hW ?_ dX11_as_81
                    refine ⟨?_, (fun j hj => (congrFun (e_is _ _ _) j).trans ((up_n _ _ hj).trans rfl))⟩
                    have e : fAs B st a1 a2 = (a1.toInt64, 0) := by unfold fAs; rw [if_pos (by omega), if_pos (by omega)]
                    rw [e]
                    exact ⟨rfl, congrFun (e_is _ _ _) 4, (Ch.ri Ch.rf (by omega))⟩
                · skip
                  rw [t_eq, show (2 : Int32).toInt = 2 from by decide] at c47
                  refine lv_iload_n hx hb dX11_as_50 rfl (lv_at hl 0 rfl) ?_
                  refine lv_iconst (v := 5) hx hb dX11_as_51 (by decide) ?_
                  refine lv_icmp_ne (tgt := 59) hx hb dX11_as_52 (by decide) (fun c52 => ?_) (fun c52 => ?_)
                  · skip
                    rw [t_eq, show (5 : Int32).toInt = 5 from by decide] at c52
                    refine lv_iconst (v := 0) hx hb dX11_as_59 (by decide) ?_
                    refine lv_istore (lv' := [(4, .int 0), (3, .int (nI (kdN (B (34 + (a1.toNatClampNeg))) (B (18 + (a1.toNatClampNeg)))))), (0, .ref (gA G 65)), (1, .int a1), (2, .int a2)]) hx hb dX11_as_60 hl (by decide) rfl (fun ls hl => ?_)
                    refine lv_iload hx hb dX11_as_62 (lv_at hl 0 rfl) ?_
                    refine lv_if_eq (tgt := 76) hx hb dX11_as_64 (by decide) (fun c64 => ?_) (fun c64 => ?_)
                    · skip
                      refine lv_aload_n hx hb dX11_as_76 rfl (lv_at hl 2 rfl) ?_
                      refine lv_iconst (v := 3) hx hb dX11_as_77 (by decide) ?_
                      refine r_calll hW hA (va_runV (As := [.int 3]) (rest := []) ⟨hx, hb, hml, hown, hts⟩ (t_X11_found l D G S _ hG hP 3) (cwV 1 hts gX11_as_X11_found rfl rfl rfl (by decide +kernel) ⟨Nat.le_of_ble_eq_true rfl, Nat.le_of_ble_eq_true rfl⟩) (r_preV (k := 65) hA hW (ci := 10) (C := RX11) (T := TX11) (N := 20) rfl rfl (g_lt hG (by decide)) (g_kd hG (by decide) rfl) rfl rfl) rfl rfl hl.1 rfl (lv_room (Nat.le_of_ble_eq_true rfl)) dX11_as_78 ⟨Nat.zero_le _, Nat.zero_le _⟩) (fun r78 S78 H locs hp78 hW => ?_)
                      obtain ⟨hs78, rfl⟩ := hp78
                      rw [hs78] at hW
                      refine r_lret hx hb hr hlocks hW ?_ dX11_as_81
                      refine ⟨?_, (fun j hj => (congrFun (e_is _ _ _) j).trans ((up_n _ _ hj).trans rfl))⟩
                      have e : fAs B st a1 a2 = (FND 3, 3) := by unfold fAs; rw [if_pos (by omega), if_neg (by omega)]
                      rw [e]
                      exact ⟨rfl, congrFun (e_is _ _ _) 4, (Ch.ri Ch.rf (by omega))⟩
                    · exact absurd (by decide) c64
                  · skip
                    rw [t_eq, show (5 : Int32).toInt = 5 from by decide] at c52
                    refine lv_iconst (v := 1) hx hb dX11_as_55 (by decide) ?_
                    refine lv_goto (tgt := 60) hx hb dX11_as_56 (by decide) ?_
                    refine lv_istore (lv' := [(4, .int 1), (3, .int (nI (kdN (B (34 + (a1.toNatClampNeg))) (B (18 + (a1.toNatClampNeg)))))), (0, .ref (gA G 65)), (1, .int a1), (2, .int a2)]) hx hb dX11_as_60 hl (by decide) rfl (fun ls hl => ?_)
                    refine lv_iload hx hb dX11_as_62 (lv_at hl 0 rfl) ?_
                    refine lv_if_eq (tgt := 76) hx hb dX11_as_64 (by decide) (fun c64 => ?_) (fun c64 => ?_)
                    · exact absurd c64 (by decide)
                    · skip
                      refine lv_aload_n hx hb dX11_as_67 rfl (lv_at hl 2 rfl) ?_
                      refine lv_iload_n hx hb dX11_as_68 rfl (lv_at hl 3 rfl) ?_
                      refine lv_i2l hx hb dX11_as_69 rfl ?_
                      refine r_calll hW hA (va_runV (As := [.long (Int32.toInt64 a1)]) (rest := []) ⟨hx, hb, hml, hown, hts⟩ (t_X11_good l D G S _ hG hP (Int32.toInt64 a1)) (cwV 1 hts gX11_as_X11_good rfl rfl rfl (by decide +kernel) ⟨Nat.le_of_ble_eq_true rfl, Nat.le_of_ble_eq_true rfl⟩) (r_preV (k := 65) hA hW (ci := 10) (C := RX11) (T := TX11) (N := 20) rfl rfl (g_lt hG (by decide)) (g_kd hG (by decide) rfl) rfl rfl) rfl rfl hl.1 rfl (lv_room (Nat.le_of_ble_eq_true rfl)) dX11_as_70 ⟨Nat.zero_le _, Nat.zero_le _⟩) (fun r70 S70 H locs hp70 hW => ?_)
                      obtain ⟨hs70, rfl⟩ := hp70
                      rw [hs70] at hW
                      refine lv_goto (tgt := 81) hx hb dX11_as_73 (by decide) ?_
                      refine r_lret hx hb hr hlocks hW ?_ dX11_as_81
                      refine ⟨?_, (fun j hj => (congrFun (e_is _ _ _) j).trans ((up_n _ _ hj).trans rfl))⟩
                      have e : fAs B st a1 a2 = (a1.toInt64, 0) := by unfold fAs; rw [if_pos (by omega), if_pos (by omega)]
                      rw [e]
                      exact ⟨rfl, congrFun (e_is _ _ _) 4, (Ch.ri Ch.rf (by omega))⟩
        · exact absurd c18 (by decide)
      · skip
        refine lv_if_ne (tgt := 25) hx hb dX11_as_18 (by decide) (fun c18 => ?_) (fun c18 => ?_)
        · exact absurd (by decide) c18
        · skip
          refine lv_ldc2 (v := (-9000000000000000001)) hx hb hown q1 dX11_as_21 ?_
          refine r_lret hx hb hr hlocks hW ?_ dX11_as_24
          refine ⟨?_, (fun j hj => rfl)⟩
          have e : fAs B st a1 a2 = (BADL, st) := by unfold fAs; rw [if_neg (by omega)]
          rw [e]
          exact ⟨rfl, hst, Ch.rf⟩
  · skip
    refine lv_if_eq (tgt := 21) hx hb dX11_as_6 (by decide) (fun c6 => ?_) (fun c6 => ?_)
    · skip
      refine lv_ldc2 (v := (-9000000000000000001)) hx hb hown q1 dX11_as_21 ?_
      refine r_lret hx hb hr hlocks hW ?_ dX11_as_24
      refine ⟨?_, (fun j hj => rfl)⟩
      have e : fAs B st a1 a2 = (BADL, st) := by unfold fAs; rw [if_neg (by omega)]
      rw [e]
      exact ⟨rfl, hst, Ch.rf⟩
    · exact absurd (by decide) c6

set_option maxHeartbeats 4000000 in
set_option maxRecDepth 100000 in
theorem t_X10_image_s (l : Launch) (D : Dc) (G : Gg) (S : Sg) (z : Nat) (hG : GrG G) (hP : GrP G S) (h : Nat) (hh : PassR h) (hH : gp S 0 7 = some (gA G h)) (B : Nat → Nat) (c : Nat) (hB : BP B c) (hc : c < 100000) (hR : RP G S h B) (h41 : h ≤ 41) (a1 : Int32) : ML l yX10_image wsX10_image rmX10_image D G S z [.ref (gA G 0), .int a1] (fun r S' => (r = fImg B a1 ∧ ((fImg B a1 = 1 ∧ RP G S' (49 + 8 * a1.toNatClampNeg) B ∧ Ch3 (fun k => 49 + 8 * a1.toNatClampNeg ≤ k ∧ k ≤ 49 + 8 * a1.toNatClampNeg + 7) S S') ∨ (fImg B a1 ≠ 1 ∧ S' = S))) ∧ (∀ j, j ≠ 56 → j ≠ 64 → gp S' j = gp S j)) := by
  refine Met.ofW (cc := cX10_image) (maxL := 2) (ret := (some .long)) (by decide +kernel) rfl ?_
  intro pP eE s mM args bl mT cD s₁ bD hml hv
  obtain ⟨rfl, hv⟩ := hv
  have hz := hv.1
  subst hz
  have hx := bD.exec
  have hb := bD.bytes
  have hr := bD.returns
  have hts := atoms_spec (ws := wsX10_image) bD.pre
  have hown : s.vm.findClass RX10 = some mM.cls := findClass_of_methodNamed bD.named
  have hlocks := bD.notSynchronized
  have hW := Wd.start hv
  have hA : ∀ q, s.heap.size ≤ q → AW G s.heap.size q := fun q h => Or.inr h
  have hl := lv_entry ([.ref (gA G 0), .int a1]) (n := 2) (Nat.le_of_ble_eq_true rfl)
  rw [lg_entry_eq]
  generalize (lg_sl ([.ref (gA G 0), .int a1]) ++ List.replicate (2 - (lg_sl ([.ref (gA G 0), .int a1])).length) Slot.unset).toArray = ls at hl ⊢
  have hl : lv_has ls 2 [(0, .ref (gA G 0)), (1, .int a1)] := hl
  have q0 := hts (.constantLong RX10 66 (-9000000000000000001)) (List.mem_of_getElem? (i := 1) rfl)
  have q1 := hts (.fieldLink RX10 49 "WoodForTwo" "here" "LWoodForTwo$Pass;") (List.mem_of_getElem? (i := 2) rfl)
  have q2 := hts (.fieldLink RX10 116 "WoodForTwo$Pass" "stands" "Z") (List.mem_of_getElem? (i := 3) rfl)
  have q3 := hts (.fieldLink RX10 44 "WoodForTwo" "images" "[LWoodForTwo$Pass;") (List.mem_of_getElem? (i := 5) rfl)
  have q4 := hts (.constantLong RX10 134 (-9000000000000000002)) (List.mem_of_getElem? (i := 4) rfl)
  have iX10 : ∀ w ∈ wsX100, w ∈ wsX10_image := fun _ h => List.mem_cons_of_mem _ (List.mem_append_left _ (List.mem_append_right _ (h)))
  have iX5 : ∀ w ∈ wsX50, w ∈ wsX10_image := fun _ h => List.mem_cons_of_mem _ (List.mem_append_right _ (h))
  have h17 : B 17 ≤ 16 := by rcases hB with z | z; (rw [z.2 17]; omega); exact z.2.2.2.2.2.2.2.2.1
  refine lv_iload_n hx hb dX10_image_0 rfl (lv_at hl 1 rfl) ?_
  refine lv_if_lt (tgt := 9) hx hb dX10_image_1 (by decide) (fun c1 => ?_) (fun c1 => ?_)
  · skip
    rw [t_lt, show (0 : Int32).toInt = 0 from by decide] at c1
    refine lv_ldc2 (v := (-9000000000000000001)) hx hb hown q0 dX10_image_9 ?_
    refine r_lret hx hb hr hlocks hW ?_ dX10_image_12
    refine ⟨?_, (fun j a b => rfl)⟩
    have e : fImg B a1 = BADL := by unfold fImg; rw [if_neg (by omega)]
    rw [e]
    exact ⟨rfl, Or.inr ⟨by decide, rfl⟩⟩
  · skip
    rw [t_lt, show (0 : Int32).toInt = 0 from by decide] at c1
    refine lv_iload_n hx hb dX10_image_4 rfl (lv_at hl 1 rfl) ?_
    refine lv_iconst (v := 2) hx hb dX10_image_5 (by decide) ?_
    refine lv_icmp_lt (tgt := 13) hx hb dX10_image_6 (by decide) (fun c6 => ?_) (fun c6 => ?_)
    · skip
      rw [t_lt, show (2 : Int32).toInt = 2 from by decide] at c6
      refine lv_aload_n hx hb dX10_image_13 rfl (lv_at hl 0 rfl) ?_
      refine r_getr (ci := 9) (C := RX10) (T := TX10) (N := 10) hx hb hts iX10 hown hW rfl 0 7 rfl (g_lt hG (by decide)) (g_kd hG (by decide) rfl) (by decide) q1 (fun _ h9 => h9) hH rfl rfl dX10_image_14 ?_
      refine r_geti (ci := 4) (C := RX5) (T := TX5) (N := 16) hx hb hts iX5 hown hW rfl h 0 rfl (p_lt hG hh (i := 0) (by decide)) (p_kd hG hh) (by decide) q2 (fun _ h9 => h9) (nI (B 132)) hR.1.1 rfl rfl dX10_image_17 ?_
      refine lv_if_ne (tgt := 27) hx hb dX10_image_20 (by decide) (fun c20 => ?_) (fun c20 => ?_)
      · skip
        have hB1 : BP1 B c := hB.resolve_left (fun z => c20 (by rw [z.1]; rfl))
        obtain ⟨b0, b1, b2, b3, b4, b5, b6, b7, b8, b9, b10, b11, b12⟩ := id hB1
        rcases (show a1.toInt = 0 ∨ a1.toInt = 1 by omega) with ka | ka
        · have ea : a1 = 0 := by rw [t_eq, ka]; decide
          refine lv_aload_n hx hb dX10_image_27 rfl (lv_at hl 0 rfl) ?_
          refine r_getr (ci := 9) (C := RX10) (T := TX10) (N := 10) hx hb hts iX10 hown hW rfl 0 6 rfl (g_lt hG (by decide)) (g_kd hG (by decide) rfl) (by decide) q3 (fun _ h9 => h9) (hP _ (List.mem_of_getElem? (i := 6) rfl)) rfl rfl dX10_image_28 ?_
          refine lv_iload_n hx hb dX10_image_31 rfl (lv_at hl 1 rfl) ?_
          refine r_aald hx hb hW 32 rfl (g_lt hG (by decide)) 15 4 (g_kd hG (by decide) rfl) rfl rfl (fun _ _ _ _ => rfl) (g_ix hG (c := 2) (by decide) rfl (t_in (by omega) (by omega))) (some (gA G 49)) (by rw [ea]; exact hP (32, 0, 49) (by decide)) dX10_image_32 ?_
          refine W.eq (g2 := F0 mM 33 ls [.ref (gA G 49)]) rfl ?_
          refine lv_aload_n hx hb dX10_image_33 rfl (lv_at hl 0 rfl) ?_
          refine r_getr (ci := 9) (C := RX10) (T := TX10) (N := 10) hx hb hts iX10 hown hW rfl 0 7 rfl (g_lt hG (by decide)) (g_kd hG (by decide) rfl) (by decide) q1 (fun _ h9 => h9) hH rfl rfl dX10_image_34 ?_
          refine r_callv hW hA (va_runV (As := [.ref (gA G h)]) (rest := []) ⟨hx, hb, hml, hown, hts⟩ (t_X5_becomeLike l D G S _ hG hP 49 h (by decide) hh (by omega) B c hB1 hR) (cwV 1 hts gX10_image_X5_becomeLike rfl rfl rfl (by decide +kernel) ⟨Nat.le_of_ble_eq_true rfl, Nat.le_of_ble_eq_true rfl⟩) (r_preV (k := 49) hA hW (ci := 4) (C := RX5) (T := TX5) (N := 16) rfl rfl (g_lt hG (by decide)) (g_kd hG (by decide) rfl) rfl rfl) rfl rfl hl.1 rfl (lv_room (Nat.le_of_ble_eq_true rfl)) dX10_image_37 ⟨Nat.zero_le _, Nat.zero_le _⟩) (fun S37 H locs hp37 hW => ?_)
          obtain ⟨r0, r1, r2, r3, r4, r5, r6, t, hs37, hq37⟩ := hp37
          rw [hs37] at hW hq37
          refine lv_lconst (v := 1) hx hb dX10_image_40 (by decide) ?_
          refine r_lret hx hb hr hlocks hW ?_ dX10_image_41
          refine ⟨?_, (fun j a b => up_n _ _ (by omega))⟩
          have e : fImg B a1 = 1 := by unfold fImg; rw [if_pos (by omega), if_neg (by omega)]
          have en : a1.toNatClampNeg = 0 := by rw [ea]; decide
          rw [e, en]
          exact ⟨rfl, Or.inl ⟨rfl, hq37, (Ch3.rp (Ch3.ri (Ch3.ri (Ch3.ri (Ch3.ri (Ch3.ri (Ch3.ri (Ch3.ri Ch3.rf (by omega)) (by omega)) (by omega)) (by omega)) (by omega)) (by omega)) (by omega)) (by omega))⟩⟩
        · have ea : a1 = 1 := by rw [t_eq, ka]; decide
          refine lv_aload_n hx hb dX10_image_27 rfl (lv_at hl 0 rfl) ?_
          refine r_getr (ci := 9) (C := RX10) (T := TX10) (N := 10) hx hb hts iX10 hown hW rfl 0 6 rfl (g_lt hG (by decide)) (g_kd hG (by decide) rfl) (by decide) q3 (fun _ h9 => h9) (hP _ (List.mem_of_getElem? (i := 6) rfl)) rfl rfl dX10_image_28 ?_
          refine lv_iload_n hx hb dX10_image_31 rfl (lv_at hl 1 rfl) ?_
          refine r_aald hx hb hW 32 rfl (g_lt hG (by decide)) 15 4 (g_kd hG (by decide) rfl) rfl rfl (fun _ _ _ _ => rfl) (g_ix hG (c := 2) (by decide) rfl (t_in (by omega) (by omega))) (some (gA G 57)) (by rw [ea]; exact hP (32, 1, 57) (by decide)) dX10_image_32 ?_
          refine W.eq (g2 := F0 mM 33 ls [.ref (gA G 57)]) rfl ?_
          refine lv_aload_n hx hb dX10_image_33 rfl (lv_at hl 0 rfl) ?_
          refine r_getr (ci := 9) (C := RX10) (T := TX10) (N := 10) hx hb hts iX10 hown hW rfl 0 7 rfl (g_lt hG (by decide)) (g_kd hG (by decide) rfl) (by decide) q1 (fun _ h9 => h9) hH rfl rfl dX10_image_34 ?_
          refine r_callv hW hA (va_runV (As := [.ref (gA G h)]) (rest := []) ⟨hx, hb, hml, hown, hts⟩ (t_X5_becomeLike l D G S _ hG hP 57 h (by decide) hh (by omega) B c hB1 hR) (cwV 1 hts gX10_image_X5_becomeLike rfl rfl rfl (by decide +kernel) ⟨Nat.le_of_ble_eq_true rfl, Nat.le_of_ble_eq_true rfl⟩) (r_preV (k := 57) hA hW (ci := 4) (C := RX5) (T := TX5) (N := 16) rfl rfl (g_lt hG (by decide)) (g_kd hG (by decide) rfl) rfl rfl) rfl rfl hl.1 rfl (lv_room (Nat.le_of_ble_eq_true rfl)) dX10_image_37 ⟨Nat.zero_le _, Nat.zero_le _⟩) (fun S37 H locs hp37 hW => ?_)
          obtain ⟨r0, r1, r2, r3, r4, r5, r6, t, hs37, hq37⟩ := hp37
          rw [hs37] at hW hq37
          refine lv_lconst (v := 1) hx hb dX10_image_40 (by decide) ?_
          refine r_lret hx hb hr hlocks hW ?_ dX10_image_41
          refine ⟨?_, (fun j a b => up_n _ _ (by omega))⟩
          have e : fImg B a1 = 1 := by unfold fImg; rw [if_pos (by omega), if_neg (by omega)]
          have en : a1.toNatClampNeg = 1 := by rw [ea]; decide
          rw [e, en]
          exact ⟨rfl, Or.inl ⟨rfl, hq37, (Ch3.rp (Ch3.ri (Ch3.ri (Ch3.ri (Ch3.ri (Ch3.ri (Ch3.ri (Ch3.ri Ch3.rf (by omega)) (by omega)) (by omega)) (by omega)) (by omega)) (by omega)) (by omega)) (by omega))⟩⟩
      · skip
        have hs0 : B 132 = 0 := by
          rcases hB with z | z
          · exact z.1
          · rw [z.1] at c20; exact absurd c20 (by decide)
        refine lv_ldc2 (v := (-9000000000000000002)) hx hb hown q4 dX10_image_23 ?_
        refine r_lret hx hb hr hlocks hW ?_ dX10_image_26
        refine ⟨?_, (fun j a b => rfl)⟩
        have e : fImg B a1 = STATEL := by unfold fImg; rw [if_pos (by omega), if_pos hs0]
        rw [e]
        exact ⟨rfl, Or.inr ⟨by decide, rfl⟩⟩
    · skip
      rw [t_lt, show (2 : Int32).toInt = 2 from by decide] at c6
      refine lv_ldc2 (v := (-9000000000000000001)) hx hb hown q0 dX10_image_9 ?_
      refine r_lret hx hb hr hlocks hW ?_ dX10_image_12
      refine ⟨?_, (fun j a b => rfl)⟩
      have e : fImg B a1 = BADL := by unfold fImg; rw [if_neg (by omega)]
      rw [e]
      exact ⟨rfl, Or.inr ⟨by decide, rfl⟩⟩

set_option maxHeartbeats 4000000 in
set_option maxRecDepth 100000 in
theorem t_X10_restore_s (l : Launch) (D : Dc) (G : Gg) (S : Sg) (z : Nat) (hG : GrG G) (hP : GrP G S) (h : Nat) (hh : PassR h) (hH : gp S 0 7 = some (gA G h)) (B1 B2 : Nat → Nat) (c : Nat) (hBa : BP B1 c) (hBb : BP B2 c) (hR1 : RP G S 49 B1) (hR2 : RP G S 57 B2) (h41 : h ≤ 41) (a1 : Int32) : ML l yX10_restore wsX10_restore rmX10_restore D G S z [.ref (gA G 0), .int a1] (fun r S' => (r = fRes B1 B2 a1 ∧ ((fRes B1 B2 a1 = 1 ∧ RP G S' h (if a1.toInt = 0 then B1 else B2) ∧ Ch3 (fun k => h ≤ k ∧ k ≤ h + 7) S S') ∨ (fRes B1 B2 a1 ≠ 1 ∧ S' = S))) ∧ (∀ j, j ≠ h + 7 → gp S' j = gp S j)) := by
  refine Met.ofW (cc := cX10_restore) (maxL := 2) (ret := (some .long)) (by decide +kernel) rfl ?_
  intro pP eE s mM args bl mT cD s₁ bD hml hv
  obtain ⟨rfl, hv⟩ := hv
  have hz := hv.1
  subst hz
  have hx := bD.exec
  have hb := bD.bytes
  have hr := bD.returns
  have hts := atoms_spec (ws := wsX10_restore) bD.pre
  have hown : s.vm.findClass RX10 = some mM.cls := findClass_of_methodNamed bD.named
  have hlocks := bD.notSynchronized
  have hW := Wd.start hv
  have hA : ∀ q, s.heap.size ≤ q → AW G s.heap.size q := fun q h => Or.inr h
  have hl := lv_entry ([.ref (gA G 0), .int a1]) (n := 2) (Nat.le_of_ble_eq_true rfl)
  rw [lg_entry_eq]
  generalize (lg_sl ([.ref (gA G 0), .int a1]) ++ List.replicate (2 - (lg_sl ([.ref (gA G 0), .int a1])).length) Slot.unset).toArray = ls at hl ⊢
  have hl : lv_has ls 2 [(0, .ref (gA G 0)), (1, .int a1)] := hl
  have q0 := hts (.constantLong RX10 66 (-9000000000000000001)) (List.mem_of_getElem? (i := 1) rfl)
  have q1 := hts (.fieldLink RX10 44 "WoodForTwo" "images" "[LWoodForTwo$Pass;") (List.mem_of_getElem? (i := 2) rfl)
  have q2 := hts (.fieldLink RX10 116 "WoodForTwo$Pass" "stands" "Z") (List.mem_of_getElem? (i := 3) rfl)
  have q3 := hts (.fieldLink RX10 49 "WoodForTwo" "here" "LWoodForTwo$Pass;") (List.mem_of_getElem? (i := 5) rfl)
  have q4 := hts (.constantLong RX10 134 (-9000000000000000002)) (List.mem_of_getElem? (i := 4) rfl)
  have iX10 : ∀ w ∈ wsX100, w ∈ wsX10_restore := fun _ h => List.mem_cons_of_mem _ (List.mem_append_left _ (List.mem_append_right _ (h)))
  have iX5 : ∀ w ∈ wsX50, w ∈ wsX10_restore := fun _ h => List.mem_cons_of_mem _ (List.mem_append_right _ (h))
  refine lv_iload_n hx hb dX10_restore_0 rfl (lv_at hl 1 rfl) ?_
  refine lv_if_lt (tgt := 9) hx hb dX10_restore_1 (by decide) (fun c1 => ?_) (fun c1 => ?_)
  · skip
    rw [t_lt, show (0 : Int32).toInt = 0 from by decide] at c1
    refine lv_ldc2 (v := (-9000000000000000001)) hx hb hown q0 dX10_restore_9 ?_
    refine r_lret hx hb hr hlocks hW ?_ dX10_restore_12
    refine ⟨?_, (fun j a => rfl)⟩
    have e : fRes B1 B2 a1 = BADL := by unfold fRes; rw [if_neg (by omega)]
    rw [e]
    exact ⟨rfl, Or.inr ⟨by decide, rfl⟩⟩
  · skip
    rw [t_lt, show (0 : Int32).toInt = 0 from by decide] at c1
    refine lv_iload_n hx hb dX10_restore_4 rfl (lv_at hl 1 rfl) ?_
    refine lv_iconst (v := 2) hx hb dX10_restore_5 (by decide) ?_
    refine lv_icmp_lt (tgt := 13) hx hb dX10_restore_6 (by decide) (fun c6 => ?_) (fun c6 => ?_)
    · skip
      rw [t_lt, show (2 : Int32).toInt = 2 from by decide] at c6
      rcases (show a1.toInt = 0 ∨ a1.toInt = 1 by omega) with ka | ka
      · have ea : a1 = 0 := by rw [t_eq, ka]; decide
        refine lv_aload_n hx hb dX10_restore_13 rfl (lv_at hl 0 rfl) ?_
        refine r_getr (ci := 9) (C := RX10) (T := TX10) (N := 10) hx hb hts iX10 hown hW rfl 0 6 rfl (g_lt hG (by decide)) (g_kd hG (by decide) rfl) (by decide) q1 (fun _ h9 => h9) (hP _ (List.mem_of_getElem? (i := 6) rfl)) rfl rfl dX10_restore_14 ?_
        refine lv_iload_n hx hb dX10_restore_17 rfl (lv_at hl 1 rfl) ?_
        refine r_aald hx hb hW 32 rfl (g_lt hG (by decide)) 15 4 (g_kd hG (by decide) rfl) rfl rfl (fun _ _ _ _ => rfl) (g_ix hG (c := 2) (by decide) rfl (t_in (by omega) (by omega))) (some (gA G 49)) (by rw [ea]; exact hP (32, 0, 49) (by decide)) dX10_restore_18 ?_
        refine W.eq (g2 := F0 mM 19 ls [.ref (gA G 49)]) rfl ?_
        refine r_geti (ci := 4) (C := RX5) (T := TX5) (N := 16) hx hb hts iX5 hown hW rfl 49 0 rfl (g_lt hG (by decide)) (g_kd hG (by decide) rfl) (by decide) q2 (fun _ h9 => h9) (nI (B1 132)) hR1.1.1 rfl rfl dX10_restore_19 ?_
        refine lv_if_ne (tgt := 29) hx hb dX10_restore_22 (by decide) (fun c22 => ?_) (fun c22 => ?_)
        · skip
          have hBi : BP1 B1 c := hBa.resolve_left (fun z => c22 (by rw [z.1]; rfl))
          refine lv_aload_n hx hb dX10_restore_29 rfl (lv_at hl 0 rfl) ?_
          refine r_getr (ci := 9) (C := RX10) (T := TX10) (N := 10) hx hb hts iX10 hown hW rfl 0 7 rfl (g_lt hG (by decide)) (g_kd hG (by decide) rfl) (by decide) q3 (fun _ h9 => h9) hH rfl rfl dX10_restore_30 ?_
          refine lv_aload_n hx hb dX10_restore_33 rfl (lv_at hl 0 rfl) ?_
          refine r_getr (ci := 9) (C := RX10) (T := TX10) (N := 10) hx hb hts iX10 hown hW rfl 0 6 rfl (g_lt hG (by decide)) (g_kd hG (by decide) rfl) (by decide) q1 (fun _ h9 => h9) (hP _ (List.mem_of_getElem? (i := 6) rfl)) rfl rfl dX10_restore_34 ?_
          refine lv_iload_n hx hb dX10_restore_37 rfl (lv_at hl 1 rfl) ?_
          refine r_aald hx hb hW 32 rfl (g_lt hG (by decide)) 15 4 (g_kd hG (by decide) rfl) rfl rfl (fun _ _ _ _ => rfl) (g_ix hG (c := 2) (by decide) rfl (t_in (by omega) (by omega))) (some (gA G 49)) (by rw [ea]; exact hP (32, 0, 49) (by decide)) dX10_restore_38 ?_
          refine W.eq (g2 := F0 mM 39 ls [.ref (gA G 49), .ref (gA G h)]) rfl ?_
          refine r_callv hW hA (va_runV (As := [.ref (gA G 49)]) (rest := []) ⟨hx, hb, hml, hown, hts⟩ (t_X5_becomeLike l D G S _ hG hP h 49 hh (by decide) (by omega) B1 c hBi hR1) (cwV 1 hts gX10_restore_X5_becomeLike rfl rfl rfl (by decide +kernel) ⟨Nat.le_of_ble_eq_true rfl, Nat.le_of_ble_eq_true rfl⟩) (r_preV (k := h) hA hW (ci := 4) (C := RX5) (T := TX5) (N := 16) rfl rfl (p_lt hG hh (i := 0) (by decide)) (p_kd hG hh) rfl rfl) rfl rfl hl.1 rfl (lv_room (Nat.le_of_ble_eq_true rfl)) dX10_restore_39 ⟨Nat.zero_le _, Nat.zero_le _⟩) (fun S39 H locs hp39 hW => ?_)
          obtain ⟨r0, r1, r2, r3, r4, r5, r6, t, hs39, hq39⟩ := hp39
          rw [hs39] at hW hq39
          refine lv_lconst (v := 1) hx hb dX10_restore_42 (by decide) ?_
          refine r_lret hx hb hr hlocks hW ?_ dX10_restore_43
          refine ⟨?_, (fun j a => up_n _ _ (by omega))⟩
          have ei : (if a1.toInt = 0 then B1 else B2) = B1 := if_pos ka
          have e : fRes B1 B2 a1 = 1 := by unfold fRes; rw [if_pos (by omega), ei, if_neg (by have := hBi.1; omega)]
          rw [e, ei]
          exact ⟨rfl, Or.inl ⟨rfl, hq39, (Ch3.rp (Ch3.ri (Ch3.ri (Ch3.ri (Ch3.ri (Ch3.ri (Ch3.ri (Ch3.ri Ch3.rf (by omega)) (by omega)) (by omega)) (by omega)) (by omega)) (by omega)) (by omega)) (by omega))⟩⟩
        · skip
          have hs0 : B1 132 = 0 := by
            rcases hBa with z | z
            · exact z.1
            · rw [z.1] at c22; exact absurd c22 (by decide)
          refine lv_ldc2 (v := (-9000000000000000002)) hx hb hown q4 dX10_restore_25 ?_
          refine r_lret hx hb hr hlocks hW ?_ dX10_restore_28
          refine ⟨?_, (fun j a => rfl)⟩
          have ei : (if a1.toInt = 0 then B1 else B2) = B1 := if_pos ka
          have e : fRes B1 B2 a1 = STATEL := by unfold fRes; rw [if_pos (by omega), ei, if_pos hs0]
          rw [e]
          exact ⟨rfl, Or.inr ⟨by decide, rfl⟩⟩
      · have ea : a1 = 1 := by rw [t_eq, ka]; decide
        refine lv_aload_n hx hb dX10_restore_13 rfl (lv_at hl 0 rfl) ?_
        refine r_getr (ci := 9) (C := RX10) (T := TX10) (N := 10) hx hb hts iX10 hown hW rfl 0 6 rfl (g_lt hG (by decide)) (g_kd hG (by decide) rfl) (by decide) q1 (fun _ h9 => h9) (hP _ (List.mem_of_getElem? (i := 6) rfl)) rfl rfl dX10_restore_14 ?_
        refine lv_iload_n hx hb dX10_restore_17 rfl (lv_at hl 1 rfl) ?_
        refine r_aald hx hb hW 32 rfl (g_lt hG (by decide)) 15 4 (g_kd hG (by decide) rfl) rfl rfl (fun _ _ _ _ => rfl) (g_ix hG (c := 2) (by decide) rfl (t_in (by omega) (by omega))) (some (gA G 57)) (by rw [ea]; exact hP (32, 1, 57) (by decide)) dX10_restore_18 ?_
        refine W.eq (g2 := F0 mM 19 ls [.ref (gA G 57)]) rfl ?_
        refine r_geti (ci := 4) (C := RX5) (T := TX5) (N := 16) hx hb hts iX5 hown hW rfl 57 0 rfl (g_lt hG (by decide)) (g_kd hG (by decide) rfl) (by decide) q2 (fun _ h9 => h9) (nI (B2 132)) hR2.1.1 rfl rfl dX10_restore_19 ?_
        refine lv_if_ne (tgt := 29) hx hb dX10_restore_22 (by decide) (fun c22 => ?_) (fun c22 => ?_)
        · skip
          have hBi : BP1 B2 c := hBb.resolve_left (fun z => c22 (by rw [z.1]; rfl))
          refine lv_aload_n hx hb dX10_restore_29 rfl (lv_at hl 0 rfl) ?_
          refine r_getr (ci := 9) (C := RX10) (T := TX10) (N := 10) hx hb hts iX10 hown hW rfl 0 7 rfl (g_lt hG (by decide)) (g_kd hG (by decide) rfl) (by decide) q3 (fun _ h9 => h9) hH rfl rfl dX10_restore_30 ?_
          refine lv_aload_n hx hb dX10_restore_33 rfl (lv_at hl 0 rfl) ?_
          refine r_getr (ci := 9) (C := RX10) (T := TX10) (N := 10) hx hb hts iX10 hown hW rfl 0 6 rfl (g_lt hG (by decide)) (g_kd hG (by decide) rfl) (by decide) q1 (fun _ h9 => h9) (hP _ (List.mem_of_getElem? (i := 6) rfl)) rfl rfl dX10_restore_34 ?_
          refine lv_iload_n hx hb dX10_restore_37 rfl (lv_at hl 1 rfl) ?_
          refine r_aald hx hb hW 32 rfl (g_lt hG (by decide)) 15 4 (g_kd hG (by decide) rfl) rfl rfl (fun _ _ _ _ => rfl) (g_ix hG (c := 2) (by decide) rfl (t_in (by omega) (by omega))) (some (gA G 57)) (by rw [ea]; exact hP (32, 1, 57) (by decide)) dX10_restore_38 ?_
          refine W.eq (g2 := F0 mM 39 ls [.ref (gA G 57), .ref (gA G h)]) rfl ?_
          refine r_callv hW hA (va_runV (As := [.ref (gA G 57)]) (rest := []) ⟨hx, hb, hml, hown, hts⟩ (t_X5_becomeLike l D G S _ hG hP h 57 hh (by decide) (by omega) B2 c hBi hR2) (cwV 1 hts gX10_restore_X5_becomeLike rfl rfl rfl (by decide +kernel) ⟨Nat.le_of_ble_eq_true rfl, Nat.le_of_ble_eq_true rfl⟩) (r_preV (k := h) hA hW (ci := 4) (C := RX5) (T := TX5) (N := 16) rfl rfl (p_lt hG hh (i := 0) (by decide)) (p_kd hG hh) rfl rfl) rfl rfl hl.1 rfl (lv_room (Nat.le_of_ble_eq_true rfl)) dX10_restore_39 ⟨Nat.zero_le _, Nat.zero_le _⟩) (fun S39 H locs hp39 hW => ?_)
          obtain ⟨r0, r1, r2, r3, r4, r5, r6, t, hs39, hq39⟩ := hp39
          rw [hs39] at hW hq39
          refine lv_lconst (v := 1) hx hb dX10_restore_42 (by decide) ?_
          refine r_lret hx hb hr hlocks hW ?_ dX10_restore_43
          refine ⟨?_, (fun j a => up_n _ _ (by omega))⟩
          have ei : (if a1.toInt = 0 then B1 else B2) = B2 := if_neg (by omega)
          have e : fRes B1 B2 a1 = 1 := by unfold fRes; rw [if_pos (by omega), ei, if_neg (by have := hBi.1; omega)]
          rw [e, ei]
          exact ⟨rfl, Or.inl ⟨rfl, hq39, (Ch3.rp (Ch3.ri (Ch3.ri (Ch3.ri (Ch3.ri (Ch3.ri (Ch3.ri (Ch3.ri Ch3.rf (by omega)) (by omega)) (by omega)) (by omega)) (by omega)) (by omega)) (by omega)) (by omega))⟩⟩
        · skip
          have hs0 : B2 132 = 0 := by
            rcases hBb with z | z
            · exact z.1
            · rw [z.1] at c22; exact absurd c22 (by decide)
          refine lv_ldc2 (v := (-9000000000000000002)) hx hb hown q4 dX10_restore_25 ?_
          refine r_lret hx hb hr hlocks hW ?_ dX10_restore_28
          refine ⟨?_, (fun j a => rfl)⟩
          have ei : (if a1.toInt = 0 then B1 else B2) = B2 := if_neg (by omega)
          have e : fRes B1 B2 a1 = STATEL := by unfold fRes; rw [if_pos (by omega), ei, if_pos hs0]
          rw [e]
          exact ⟨rfl, Or.inr ⟨by decide, rfl⟩⟩
    · skip
      rw [t_lt, show (2 : Int32).toInt = 2 from by decide] at c6
      refine lv_ldc2 (v := (-9000000000000000001)) hx hb hown q0 dX10_restore_9 ?_
      refine r_lret hx hb hr hlocks hW ?_ dX10_restore_12
      refine ⟨?_, (fun j a => rfl)⟩
      have e : fRes B1 B2 a1 = BADL := by unfold fRes; rw [if_neg (by omega)]
      rw [e]
      exact ⟨rfl, Or.inr ⟨by decide, rfl⟩⟩
