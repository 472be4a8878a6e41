def rmX11_row : Jvm.Room := { frames := 2, cells := 0, slots := 0, locals := 46 }
set_option maxHeartbeats 4000000 in
set_option maxRecDepth 100000 in
theorem t_X11_row (l : Launch) (D : Dc) (G : Gg) (S : Sg) (z : Nat) (hG : GrG G) (hP : GrP G S) (it : Nat → Nat → Int32) (la le : Nat → Int32) (hR : RowsM S it la le) (hL : LeOK le) (st : Int32) (hst : gi S 65 4 = st) (a1 a2 a3 : Int32) : ML l yX11_row wsX11_row rmX11_row D G S z [.ref (gA G 65), .int a1, .int a2, .int a3] (fun r S' => RowsM S' (fRow it la le st a1 a2 a3).2.1 (fRow it la le st a1 a2 a3).2.2.1 (fRow it la le st a1 a2 a3).2.2.2.1 ∧ gi S' 65 4 = (fRow it la le st a1 a2 a3).2.2.2.2 ∧ r = (fRow it la le st a1 a2 a3).1 ∧ Ch (fun k => 65 ≤ k ∧ k ≤ 74) S S') := by
  refine Met.ofW (cc := cX11_row) (maxL := 5) (ret := (some .long)) (by decide +kernel) rfl ?_
  intro pP eE s mM args bl mT cD s₁ bD hml hv
  obtain ⟨rfl, hv⟩ := hv
  have hz := hv.1
  subst hz
  have hx := bD.exec
  have hb := bD.bytes
  have hr := bD.returns
  have hts := atoms_spec (ws := wsX11_row) bD.pre
  have hown : s.vm.findClass RX11 = some mM.cls := findClass_of_methodNamed bD.named
  have hlocks := bD.notSynchronized
  have hW := Wd.start hv
  have hA : ∀ q, s.heap.size ≤ q → AW G s.heap.size q := fun q h => Or.inr h
  have hl := lv_entry ([.ref (gA G 65), .int a1, .int a2, .int a3]) (n := 5) (Nat.le_of_ble_eq_true rfl)
  rw [lg_entry_eq]
  generalize (lg_sl ([.ref (gA G 65), .int a1, .int a2, .int a3]) ++ List.replicate (5 - (lg_sl ([.ref (gA G 65), .int a1, .int a2, .int a3])).length) Slot.unset).toArray = ls at hl ⊢
  have hl : lv_has ls 5 [(0, .ref (gA G 65)), (1, .int a1), (2, .int a2), (3, .int a3)] := hl
  have q0 := hts (.constantLong RX11 54 (2)) (List.mem_of_getElem? (i := 1) rfl)
  have q1 := hts (.fieldLink RX11 17 "WoodForTwoModel" "lane" "[I") (List.mem_of_getElem? (i := 3) rfl)
  have q2 := hts (.fieldLink RX11 20 "WoodForTwoModel" "length" "[I") (List.mem_of_getElem? (i := 4) rfl)
  have q3 := hts (.fieldLink RX11 13 "WoodForTwoModel" "items" "[I") (List.mem_of_getElem? (i := 5) rfl)
  have q4 := hts (.constantLong RX11 56 (-9000000000000000001)) (List.mem_of_getElem? (i := 2) rfl)
  have iX11 : ∀ w ∈ wsX110, w ∈ wsX11_row := fun _ h => List.mem_cons_of_mem _ (List.mem_append_right _ (h))
  generalize hQ0 : MQ bl _ _ s _ _ _ = Q0
  refine lv_aload_n hx hb dX11_row_0 rfl (lv_at hl 0 rfl) ?_
  refine lv_iload_n hx hb dX11_row_1 rfl (lv_at hl 1 rfl) ?_
  refine r_calli hW hA (va_runV (As := [.int a1]) (rest := []) ⟨hx, hb, hml, hown, hts⟩ (t_X11_isRow l D G S _ hG hP a1) (cwV 1 hts gX11_row_X11_isRow rfl rfl rfl (by decide +kernel) ⟨Nat.le_of_ble_eq_true rfl, Nat.le_of_ble_eq_true rfl⟩) (r_preV (k := 65) hA hW (ci := 10) (C := RX11) (T := TX11) (N := 20) rfl rfl (g_lt hG (by decide)) (g_kd hG (by decide) rfl) rfl rfl) rfl rfl hl.1 rfl (lv_room (Nat.le_of_ble_eq_true rfl)) dX11_row_2 ⟨Nat.zero_le _, Nat.zero_le _⟩) (fun r2 S2 H locs hp2 hW => ?_)
  obtain ⟨hs2, hp2⟩ := hp2
  rw [hs2] at hW
  rcases hp2 with ⟨rfl, h2⟩ | ⟨rfl, h2⟩
  · skip
    refine lv_if_eq (tgt := 26) hx hb dX11_row_5 (by decide) (fun c5 => ?_) (fun c5 => ?_)
    · exact absurd c5 (by decide)
    · skip
      refine lv_iload_n hx hb dX11_row_8 rfl (lv_at hl 2 rfl) ?_
      refine lv_i2l hx hb dX11_row_9 rfl ?_
      refine lv_lconst (v := 0) hx hb dX11_row_10 (by decide) ?_
      refine lv_ldc2 (v := (2)) hx hb hown q0 dX11_row_11 ?_
      refine r_calli hW hA (va_runS (As := [.long (Int32.toInt64 a2), .long 0, .long (2)]) (rest := []) ⟨hx, hb, hml, hown, hts⟩ (t_X11_in l D G S _ (Int32.toInt64 a2) 0 (2) (a2).toInt 0 2 (Int32.toInt_toInt64 _) (by decide) (by decide)) (va_cwS 3 hts gX11_row_X11_in rfl rfl rfl (by decide +kernel) ⟨Nat.le_of_ble_eq_true rfl, Nat.le_of_ble_eq_true rfl⟩) (r_preS hA hW) rfl rfl hl.1 rfl (lv_room (Nat.le_of_ble_eq_true rfl)) dX11_row_14 ⟨Nat.zero_le _, Nat.zero_le _⟩) (fun r14 S14 H locs hp14 hW => ?_)
      obtain ⟨hs14, hp14⟩ := hp14
      rw [hs14] at hW
      rcases hp14 with ⟨rfl, h14⟩ | ⟨rfl, h14⟩
      · skip
        refine lv_if_eq (tgt := 26) hx hb dX11_row_17 (by decide) (fun c17 => ?_) (fun c17 => ?_)
        · exact absurd c17 (by decide)
        · skip
          refine lv_iload_n hx hb dX11_row_20 rfl (lv_at hl 3 rfl) ?_
          refine lv_bipush (v := 40) hx hb dX11_row_21 (by decide) ?_
          refine lv_icmp_le (tgt := 30) hx hb dX11_row_23 (by decide) (fun c23 => ?_) (fun c23 => ?_)
          · skip
            rw [t_le, show (40 : Int32).toInt = 40 from by decide] at c23
            refine lv_iload_n hx hb dX11_row_30 rfl (lv_at hl 3 rfl) ?_
            refine lv_if_ge (tgt := 40) hx hb dX11_row_31 (by decide) (fun c31 => ?_) (fun c31 => ?_)
            · skip
              rw [t_le, show (0 : Int32).toInt = 0 from by decide] at c31
              have hn_a1 := n_nat (x := a1) (by omega)
              refine lv_aload_n hx hb dX11_row_40 rfl (lv_at hl 0 rfl) ?_
              refine r_getr (ci := 10) (C := RX11) (T := TX11) (N := 20) hx hb hts iX11 hown hW rfl 65 2 rfl (g_lt hG (by decide)) (g_kd hG (by decide) rfl) (by decide) q1 (fun _ h9 => h9) (hP _ (List.mem_of_getElem? (i := 62) rfl)) rfl rfl dX11_row_41 ?_
              refine lv_iload_n hx hb dX11_row_44 rfl (lv_at hl 1 rfl) ?_
              refine lv_iload_n hx hb dX11_row_45 rfl (lv_at hl 2 rfl) ?_
              refine r_iast hx hb hW 68 rfl (g_lt hG (by decide)) (g_kd hG (by decide) rfl) (g_ix hG (c := 8) (by decide) rfl (t_in (by omega) (by omega))) (ri S 68 (va_up (gi S 68) (a1).toNatClampNeg a2)) (gi S 68) rfl (e_is _ _ _) rfl rfl c_i0 dX11_row_46 (fun H locs hW => ?_)
              refine lv_aload_n hx hb dX11_row_47 rfl (lv_at hl 0 rfl) ?_
              refine r_getr (ci := 10) (C := RX11) (T := TX11) (N := 20) hx hb hts iX11 hown hW rfl 65 3 rfl (g_lt hG (by decide)) (g_kd hG (by decide) rfl) (by decide) q2 (fun _ h9 => h9) (hP _ (List.mem_of_getElem? (i := 63) rfl)) rfl rfl dX11_row_48 ?_
              refine lv_iload_n hx hb dX11_row_51 rfl (lv_at hl 1 rfl) ?_
              refine lv_iload_n hx hb dX11_row_52 rfl (lv_at hl 3 rfl) ?_
              refine r_iast hx hb hW 69 rfl (g_lt hG (by decide)) (g_kd hG (by decide) rfl) (g_ix hG (c := 8) (by decide) rfl (t_in (by omega) (by omega))) (ri (ri S 68 (va_up (gi S 68) (a1).toNatClampNeg a2)) 69 (va_up (gi S 69) (a1).toNatClampNeg a3)) (gi S 69) (e_in (by decide) rfl) (e_is _ _ _) rfl rfl c_i0 dX11_row_53 (fun H locs hW => ?_)
              refine lv_iconst (v := 0) hx hb dX11_row_54 (by decide) ?_
              refine lv_istore (lv' := [(4, .int 0), (0, .ref (gA G 65)), (1, .int a1), (2, .int a2), (3, .int a3)]) hx hb dX11_row_55 hl (by decide) rfl (fun ls hl => ?_)
              rw [show (ri (ri S 68 (va_up (gi S 68) (a1).toNatClampNeg a2)) 69 (va_up (gi S 69) (a1).toNatClampNeg a3)) = (ri (ri (ri S 68 (va_up (gi S 68) (a1).toNatClampNeg a2)) 69 (va_up (gi S 69) (a1).toNatClampNeg a3)) 67 (gi S 67)) from ((ri_id (ri (ri S 68 (va_up (gi S 68) (a1).toNatClampNeg a2)) 69 (va_up (gi S 69) (a1).toNatClampNeg a3)) 67).symm.trans (congrArg (fun z => ri (ri (ri S 68 (va_up (gi S 68) (a1).toNatClampNeg a2)) 69 (va_up (gi S 69) (a1).toNatClampNeg a3)) 67 z) (e_in (by decide) (e_in (by decide) rfl))))] at hW
              have L57 : ∀ (n : Nat) (i : Nat) (t : Nat → Int32) (H : Heap) (locs : List Loc) (ls : Array Slot), (40 - i) < n → i ≤ 40 → (∀ j, j < i → t (40 * a1.toNatClampNeg + j) = 0) → (∀ x, x < 40 * a1.toNatClampNeg ∨ 40 * a1.toNatClampNeg + 40 ≤ x → t x = gi S 67 x) → Wd D (AW G s.heap.size) s G (ri (ri (ri S 68 (va_up (gi S 68) (a1).toNatClampNeg a2)) 69 (va_up (gi S 69) (a1).toNatClampNeg a3)) 67 t) H locs → lv_has ls 5 [(4, .int (nI i)), (0, .ref (gA G 65)), (1, .int a1), (2, .int a2), (3, .int a3)] → W pP l eE (headSpec wsX11_row rmX11_row).room s mM ([.ref (gA G 65), .int a1, .int a2, .int a3] : List Value).toArray bl mT cD H locs 0 0 Q0 (F0 mM 57 ls []) := by
                intro n
                induction n with
                | zero => intro i t H locs ls hm; exact absurd hm (Nat.not_lt_zero _)
                | succ n ih57 =>
                  intro i t H locs ls hm57 hi ht0 ht1 hW hl
                  refine lv_iload hx hb dX11_row_57 (lv_at hl 0 rfl) ?_
                  refine lv_bipush (v := 40) hx hb dX11_row_59 (by decide) ?_
                  refine lv_icmp_ge (tgt := 83) hx hb dX11_row_61 (by decide) (fun c61 => ?_) (fun c61 => ?_)
                  · skip
                    have hge : 40 ≤ i := (n_le (a := 40) (by omega) (by omega)).mp c61
                    refine lv_aload_n hx hb dX11_row_83 rfl (lv_at hl 1 rfl) ?_
                    refine lv_iload_n hx hb dX11_row_84 rfl (lv_at hl 4 rfl) ?_
                    refine lv_i2l hx hb dX11_row_85 rfl ?_
                    refine r_calll hW hA (va_runV (As := [.long (Int32.toInt64 a3)]) (rest := []) ⟨hx, hb, hml, hown, hts⟩ (t_X11_good l D G (ri (ri (ri S 68 (va_up (gi S 68) (a1).toNatClampNeg a2)) 69 (va_up (gi S 69) (a1).toNatClampNeg a3)) 67 t) _ hG hP (Int32.toInt64 a3)) (cwV 1 hts gX11_row_X11_good rfl rfl rfl (by decide +kernel) ⟨Nat.le_of_ble_eq_true rfl, Nat.le_of_ble_eq_true rfl⟩) (r_preV (k := 65) hA hW (ci := 10) (C := RX11) (T := TX11) (N := 20) rfl rfl (g_lt hG (by decide)) (g_kd hG (by decide) rfl) rfl rfl) rfl rfl hl.1 rfl (lv_room (Nat.le_of_ble_eq_true rfl)) dX11_row_86 ⟨Nat.zero_le _, Nat.zero_le _⟩) (fun r86 S86 H locs hp86 hW => ?_)
                    obtain ⟨hs86, rfl⟩ := hp86
                    rw [hs86] at hW
                    rw [← hQ0]
                    refine r_lret hx hb hr hlocks hW ?_ dX11_row_89
                    have e : fRow it la le st a1 a2 a3 = (a3.toInt64, va_up it a1.toNatClampNeg (fun _ => 0), va_up la a1.toNatClampNeg a2, va_up le a1.toNatClampNeg a3, 0) := by unfold fRow; rw [if_pos (by omega), if_neg (by omega)]
                    rw [e]; dsimp only
                    have hi40 : i = 40 := by omega
                    subst hi40
                    refine ⟨?_, (congrFun (e_is _ _ _) 4).trans rfl, rfl, (Ch.ri (Ch.ri (Ch.ri (Ch.ri Ch.rf (by omega)) (by omega)) (by omega)) (by omega))⟩
                    intro j hj
                    obtain ⟨y1, y2, y3⟩ := hR j hj
                    refine ⟨?_, ?_, fun x hx => ?_⟩
                    · rw [(e_in (by decide) (e_in (by decide) (e_in (by decide) (e_is _ _ _))))]; exact up_cg _ _ y1
                    · rw [(e_in (by decide) (e_in (by decide) (e_is _ _ _)))]; exact up_cg _ _ y2
                    · rw [(e_in (by decide) (e_is _ _ _))]
                      by_cases hja : j = a1.toNatClampNeg
                      · rw [hja, up_s]; exact ht0 x hx
                      · rw [up_n _ _ hja]; exact (ht1 _ (by omega)).trans (y3 x hx)
                  · skip
                    have hlt : i < 40 := by
                      have h9 : ¬ 40 ≤ i := fun q => c61 ((n_le (a := 40) (by omega) (by omega)).mpr q)
                      omega
                    refine lv_aload_n hx hb dX11_row_64 rfl (lv_at hl 1 rfl) ?_
                    refine r_getr (ci := 10) (C := RX11) (T := TX11) (N := 20) hx hb hts iX11 hown hW rfl 65 1 rfl (g_lt hG (by decide)) (g_kd hG (by decide) rfl) (by decide) q3 (fun _ h9 => h9) (hP _ (List.mem_of_getElem? (i := 61) rfl)) rfl rfl dX11_row_65 ?_
                    refine lv_bipush (v := 40) hx hb dX11_row_68 (by decide) ?_
                    refine lv_iload_n hx hb dX11_row_70 rfl (lv_at hl 2 rfl) ?_
                    refine lv_imul hx hb dX11_row_71 ?_
                    refine lv_iload hx hb dX11_row_72 (lv_at hl 0 rfl) ?_
                    refine lv_iadd hx hb dX11_row_74 ?_
                    rw [show ((40 * a1) + (nI i) : Int32) = (nI (40 * a1.toNatClampNeg + i)) from by conv => lhs; rw [n_nI (x := a1) (by omega), show (40 : Int32) = nI 40 from by decide, n_mul, n_add]]
                    refine lv_iconst (v := 0) hx hb dX11_row_75 (by decide) ?_
                    refine r_iast hx hb hW 67 rfl (g_lt hG (by decide)) (g_kd hG (by decide) rfl) (g_ix hG (c := 320) (by decide) rfl (n_inI (by omega) (by decide))) (ri (ri (ri S 68 (va_up (gi S 68) (a1).toNatClampNeg a2)) 69 (va_up (gi S 69) (a1).toNatClampNeg a3)) 67 (va_up t ((nI (40 * a1.toNatClampNeg + i))).toNatClampNeg 0)) t (e_is _ _ _) (e_is _ _ _) rfl rfl c_i dX11_row_76 (fun H locs hW => ?_)
                    rw [show ((nI (40 * a1.toNatClampNeg + i))).toNatClampNeg = (40 * a1.toNatClampNeg + i) from n_clamp (by omega)] at hW
                    refine lv_iinc (v := (nI (i + 1))) (lv' := [(4, .int (nI (i + 1))), (0, .ref (gA G 65)), (1, .int a1), (2, .int a2), (3, .int a3)]) hx hb dX11_row_77 hl (k := 0) rfl (nI_1 i) (by decide) rfl (fun ls hl => ?_)
                    refine lv_goto (tgt := 57) hx hb dX11_row_80 (by decide) ?_
                    exact ih57 (i + 1) (va_up t (40 * a1.toNatClampNeg + i) 0) _ _ ls (by omega) (by omega) (fun j hj => by by_cases z : j = i; (subst z; exact up_s _ _ _); exact (up_n _ _ (by omega)).trans (ht0 j (by omega))) (fun x hx => (up_n _ _ (by omega)).trans (ht1 x hx)) hW (lv_sub hl [0, 1, 2, 3, 4] rfl)
              exact L57 _ 0 (gi S 67) _ _ ls (Nat.lt_succ_self _) (Nat.zero_le _) (fun j hj => absurd hj (Nat.not_lt_zero _)) (fun _ _ => rfl) hW (lv_sub hl [0, 1, 2, 3, 4] rfl)
            · skip
              rw [t_le, show (0 : Int32).toInt = 0 from by decide] at c31
              refine lv_aload_n hx hb dX11_row_34 rfl (lv_at hl 0 rfl) ?_
              refine lv_iconst (v := 4) hx hb dX11_row_35 (by decide) ?_
              refine r_calll hW hA (va_runV (As := [.int 4]) (rest := []) ⟨hx, hb, hml, hown, hts⟩ (t_X11_found l D G S _ hG hP 4) (cwV 1 hts gX11_row_X11_found rfl rfl rfl (by decide +kernel) ⟨Nat.le_of_ble_eq_true rfl, Nat.le_of_ble_eq_true rfl⟩) (r_preV (k := 65) hA hW (ci := 10) (C := RX11) (T := TX11) (N := 20) rfl rfl (g_lt hG (by decide)) (g_kd hG (by decide) rfl) rfl rfl) rfl rfl hl.1 rfl (lv_room (Nat.le_of_ble_eq_true rfl)) dX11_row_36 ⟨Nat.zero_le _, Nat.zero_le _⟩) (fun r36 S36 H locs hp36 hW => ?_)
              obtain ⟨hs36, rfl⟩ := hp36
              rw [hs36] at hW
              rw [← hQ0]
              refine r_lret hx hb hr hlocks hW ?_ dX11_row_39
              have e : fRow it la le st a1 a2 a3 = (FND 4, it, la, le, 4) := by unfold fRow; rw [if_pos (by omega), if_pos (by omega)]
              rw [e]; dsimp only
              refine ⟨?_, congrFun (e_is _ _ _) 4, rfl, (Ch.ri Ch.rf (by omega))⟩
              intro j hj
              obtain ⟨y1, y2, y3⟩ := hR j hj
              exact ⟨(congrFun (e_in (by omega) rfl) j).trans y1, (congrFun (e_in (by omega) rfl) j).trans y2, fun i hi => (congrFun (e_in (by omega) rfl) (40 * j + i)).trans (y3 i hi)⟩
          · skip
            rw [t_le, show (40 : Int32).toInt = 40 from by decide] at c23
            refine lv_ldc2 (v := (-9000000000000000001)) hx hb hown q4 dX11_row_26 ?_
            rw [← hQ0]
            refine r_lret hx hb hr hlocks hW ?_ dX11_row_29
            have e : fRow it la le st a1 a2 a3 = (BADL, it, la, le, st) := by unfold fRow; rw [if_neg (by omega)]
            rw [e]; dsimp only
            exact ⟨hR, hst, rfl, Ch.rf⟩
      · skip
        refine lv_if_eq (tgt := 26) hx hb dX11_row_17 (by decide) (fun c17 => ?_) (fun c17 => ?_)
        · skip
          refine lv_ldc2 (v := (-9000000000000000001)) hx hb hown q4 dX11_row_26 ?_
          rw [← hQ0]
          refine r_lret hx hb hr hlocks hW ?_ dX11_row_29
          have e : fRow it la le st a1 a2 a3 = (BADL, it, la, le, st) := by unfold fRow; rw [if_neg (by omega)]
          rw [e]; dsimp only
          exact ⟨hR, hst, rfl, Ch.rf⟩
        · exact absurd (by decide) c17
  · skip
    refine lv_if_eq (tgt := 26) hx hb dX11_row_5 (by decide) (fun c5 => ?_) (fun c5 => ?_)
    · skip
      refine lv_ldc2 (v := (-9000000000000000001)) hx hb hown q4 dX11_row_26 ?_
      rw [← hQ0]
      refine r_lret hx hb hr hlocks hW ?_ dX11_row_29
      have e : fRow it la le st a1 a2 a3 = (BADL, it, la, le, st) := by unfold fRow; rw [if_neg (by omega)]
      rw [e]; dsimp only
      exact ⟨hR, hst, rfl, Ch.rf⟩
    · exact absurd (by decide) c5

def rmX11_set : Jvm.Room := { frames := 2, cells := 0, slots := 0, locals := 46 }
set_option maxHeartbeats 4000000 in
set_option maxRecDepth 100000 in
theorem t_X11_set (l : Launch) (D : Dc) (G : Gg) (S : Sg) (z : Nat) (hG : GrG G) (hP : GrP G S) (it : Nat → Nat → Int32) (la le : Nat → Int32) (hR : RowsM S it la le) (hL : LeOK le) (st : Int32) (hst : gi S 65 4 = st) (a1 a2 a3 : Int32) : ML l yX11_set wsX11_set rmX11_set D G S z [.ref (gA G 65), .int a1, .int a2, .int a3] (fun r S' => RowsM S' (fSet it la le st a1 a2 a3).2.1 la le ∧ gi S' 65 4 = (fSet it la le st a1 a2 a3).2.2 ∧ r = (fSet it la le st a1 a2 a3).1 ∧ Ch (fun k => 65 ≤ k ∧ k ≤ 74) S S') := by
  refine Met.ofW (cc := cX11_set) (maxL := 4) (ret := (some .long)) (by decide +kernel) rfl ?_
  intro pP eE s mM args bl mT cD s₁ bD hml hv
  obtain ⟨rfl, hv⟩ := hv
  have hz := hv.1
  subst hz
  have hx := bD.exec
  have hb := bD.bytes
  have hr := bD.returns
  have hts := atoms_spec (ws := wsX11_set) bD.pre
  have hown : s.vm.findClass RX11 = some mM.cls := findClass_of_methodNamed bD.named
  have hlocks := bD.notSynchronized
  have hW := Wd.start hv
  have hA : ∀ q, s.heap.size ≤ q → AW G s.heap.size q := fun q h => Or.inr h
  have hl := lv_entry ([.ref (gA G 65), .int a1, .int a2, .int a3]) (n := 4) (Nat.le_of_ble_eq_true rfl)
  rw [lg_entry_eq]
  generalize (lg_sl ([.ref (gA G 65), .int a1, .int a2, .int a3]) ++ List.replicate (4 - (lg_sl ([.ref (gA G 65), .int a1, .int a2, .int a3])).length) Slot.unset).toArray = ls at hl ⊢
  have hl : lv_has ls 4 [(0, .ref (gA G 65)), (1, .int a1), (2, .int a2), (3, .int a3)] := hl
  have q0 := hts (.fieldLink RX11 20 "WoodForTwoModel" "length" "[I") (List.mem_of_getElem? (i := 2) rfl)
  have q1 := hts (.fieldLink RX11 13 "WoodForTwoModel" "items" "[I") (List.mem_of_getElem? (i := 3) rfl)
  have q2 := hts (.fieldLink RX11 17 "WoodForTwoModel" "lane" "[I") (List.mem_of_getElem? (i := 4) rfl)
  have q3 := hts (.constantLong RX11 56 (-9000000000000000001)) (List.mem_of_getElem? (i := 1) rfl)
  have iX11 : ∀ w ∈ wsX110, w ∈ wsX11_set := fun _ h => List.mem_cons_of_mem _ (List.mem_append_right _ (h))
  refine lv_aload_n hx hb dX11_set_0 rfl (lv_at hl 0 rfl) ?_
  refine lv_iload_n hx hb dX11_set_1 rfl (lv_at hl 1 rfl) ?_
  refine r_calli hW hA (va_runV (As := [.int a1]) (rest := []) ⟨hx, hb, hml, hown, hts⟩ (t_X11_isRow l D G S _ hG hP a1) (cwV 1 hts gX11_set_X11_isRow rfl rfl rfl (by decide +kernel) ⟨Nat.le_of_ble_eq_true rfl, Nat.le_of_ble_eq_true rfl⟩) (r_preV (k := 65) hA hW (ci := 10) (C := RX11) (T := TX11) (N := 20) rfl rfl (g_lt hG (by decide)) (g_kd hG (by decide) rfl) rfl rfl) rfl rfl hl.1 rfl (lv_room (Nat.le_of_ble_eq_true rfl)) dX11_set_2 ⟨Nat.zero_le _, Nat.zero_le _⟩) (fun r2 S2 H locs hp2 hW => ?_)
  obtain ⟨hs2, hp2⟩ := hp2
  rw [hs2] at hW
  rcases hp2 with ⟨rfl, h2⟩ | ⟨rfl, h2⟩
  · skip
    refine lv_if_ne (tgt := 12) hx hb dX11_set_5 (by decide) (fun c5 => ?_) (fun c5 => ?_)
    · skip
      have hn_a1 := n_nat (x := a1) (by omega)
      have hr_a1 := hR a1.toNatClampNeg (by omega)
      have hle_a1 := hL a1.toNatClampNeg (by omega)
      have hgl : (gi S 69 a1.toNatClampNeg).toInt = (le a1.toNatClampNeg).toInt := by rw [hr_a1.2.1]
      refine lv_aload_n hx hb dX11_set_12 rfl (lv_at hl 0 rfl) ?_
      refine r_getr (ci := 10) (C := RX11) (T := TX11) (N := 20) hx hb hts iX11 hown hW rfl 65 3 rfl (g_lt hG (by decide)) (g_kd hG (by decide) rfl) (by decide) q0 (fun _ h9 => h9) (hP _ (List.mem_of_getElem? (i := 63) rfl)) rfl rfl dX11_set_13 ?_
      refine lv_iload_n hx hb dX11_set_16 rfl (lv_at hl 1 rfl) ?_
      refine r_iald hx hb hW 69 rfl (g_lt hG (by decide)) (g_kd hG (by decide) rfl) (g_ix hG (c := 8) (by decide) rfl (t_in (by omega) (by omega))) ((gi S 69) (a1).toNatClampNeg) rfl dX11_set_17 ?_
      refine lv_if_ge (tgt := 27) hx hb dX11_set_18 (by decide) (fun c18 => ?_) (fun c18 => ?_)
      · skip
        rw [t_le, show (0 : Int32).toInt = 0 from by decide] at c18
        have hsub : (gi S 69 a1.toNatClampNeg - 1).toInt = (gi S 69 a1.toNatClampNeg).toInt - 1 := by rw [hr_a1.2.1]; exact t_sub (by rw [show (1 : Int32).toInt = 1 from by decide]; omega) (by rw [show (1 : Int32).toInt = 1 from by decide]; omega)
        refine lv_iload_n hx hb dX11_set_27 rfl (lv_at hl 2 rfl) ?_
        refine lv_i2l hx hb dX11_set_28 rfl ?_
        refine lv_lconst (v := 0) hx hb dX11_set_29 (by decide) ?_
        refine lv_aload_n hx hb dX11_set_30 rfl (lv_at hl 0 rfl) ?_
        refine r_getr (ci := 10) (C := RX11) (T := TX11) (N := 20) hx hb hts iX11 hown hW rfl 65 3 rfl (g_lt hG (by decide)) (g_kd hG (by decide) rfl) (by decide) q0 (fun _ h9 => h9) (hP _ (List.mem_of_getElem? (i := 63) rfl)) rfl rfl dX11_set_31 ?_
        refine lv_iload_n hx hb dX11_set_34 rfl (lv_at hl 1 rfl) ?_
        refine r_iald hx hb hW 69 rfl (g_lt hG (by decide)) (g_kd hG (by decide) rfl) (g_ix hG (c := 8) (by decide) rfl (t_in (by omega) (by omega))) ((gi S 69) (a1).toNatClampNeg) rfl dX11_set_35 ?_
        refine lv_iconst (v := 1) hx hb dX11_set_36 (by decide) ?_
        refine lv_isub hx hb dX11_set_37 ?_
        refine lv_i2l hx hb dX11_set_38 rfl ?_
        refine r_calli hW hA (va_runS (As := [.long (Int32.toInt64 a2), .long 0, .long (Int32.toInt64 (((gi S 69) (a1).toNatClampNeg) - 1))]) (rest := []) ⟨hx, hb, hml, hown, hts⟩ (t_X11_in l D G S _ (Int32.toInt64 a2) 0 (Int32.toInt64 (((gi S 69) (a1).toNatClampNeg) - 1)) (a2).toInt 0 ((((gi S 69) (a1).toNatClampNeg) - 1)).toInt (Int32.toInt_toInt64 _) (by decide) (Int32.toInt_toInt64 _)) (va_cwS 3 hts gX11_set_X11_in rfl rfl rfl (by decide +kernel) ⟨Nat.le_of_ble_eq_true rfl, Nat.le_of_ble_eq_true rfl⟩) (r_preS hA hW) rfl rfl hl.1 rfl (lv_room (Nat.le_of_ble_eq_true rfl)) dX11_set_39 ⟨Nat.zero_le _, Nat.zero_le _⟩) (fun r39 S39 H locs hp39 hW => ?_)
        obtain ⟨hs39, hp39⟩ := hp39
        rw [hs39] at hW
        rcases hp39 with ⟨rfl, h39⟩ | ⟨rfl, h39⟩
        · skip
          refine lv_if_ne (tgt := 51) hx hb dX11_set_42 (by decide) (fun c42 => ?_) (fun c42 => ?_)
          · skip
            rw [hsub] at h39
            have hn_a2 := n_nat (x := a2) (by omega)
            rw [hr_a1.2.1] at h39
            have hle40 : (le a1.toNatClampNeg).toInt ≤ 40 := by omega
            refine lv_aload_n hx hb dX11_set_51 rfl (lv_at hl 0 rfl) ?_
            refine r_getr (ci := 10) (C := RX11) (T := TX11) (N := 20) hx hb hts iX11 hown hW rfl 65 1 rfl (g_lt hG (by decide)) (g_kd hG (by decide) rfl) (by decide) q1 (fun _ h9 => h9) (hP _ (List.mem_of_getElem? (i := 61) rfl)) rfl rfl dX11_set_52 ?_
            refine lv_bipush (v := 40) hx hb dX11_set_55 (by decide) ?_
            refine lv_iload_n hx hb dX11_set_57 rfl (lv_at hl 1 rfl) ?_
            refine lv_imul hx hb dX11_set_58 ?_
            refine lv_iload_n hx hb dX11_set_59 rfl (lv_at hl 2 rfl) ?_
            refine lv_iadd hx hb dX11_set_60 ?_
            rw [show ((40 * a1) + a2 : Int32) = (nI (40 * a1.toNatClampNeg + a2.toNatClampNeg)) from ix40 (by omega) (by omega)]
            refine lv_aload_n hx hb dX11_set_61 rfl (lv_at hl 0 rfl) ?_
            refine r_getr (ci := 10) (C := RX11) (T := TX11) (N := 20) hx hb hts iX11 hown hW rfl 65 2 rfl (g_lt hG (by decide)) (g_kd hG (by decide) rfl) (by decide) q2 (fun _ h9 => h9) (hP _ (List.mem_of_getElem? (i := 62) rfl)) rfl rfl dX11_set_62 ?_
            refine lv_iload_n hx hb dX11_set_65 rfl (lv_at hl 1 rfl) ?_
            refine r_iald hx hb hW 68 rfl (g_lt hG (by decide)) (g_kd hG (by decide) rfl) (g_ix hG (c := 8) (by decide) rfl (t_in (by omega) (by omega))) ((gi S 68) (a1).toNatClampNeg) rfl dX11_set_66 ?_
            refine lv_iload_n hx hb dX11_set_67 rfl (lv_at hl 3 rfl) ?_
            refine r_calli hW hA (va_runS (As := [.int ((gi S 68) (a1).toNatClampNeg), .int a3]) (rest := [.int (nI (40 * a1.toNatClampNeg + a2.toNatClampNeg)), .ref (gA G 67)]) ⟨hx, hb, hml, hown, hts⟩ (t_X11_held l D G S _ ((gi S 68) (a1).toNatClampNeg) a3) (va_cwS 2 hts gX11_set_X11_held rfl rfl rfl (by decide +kernel) ⟨Nat.le_of_ble_eq_true rfl, Nat.le_of_ble_eq_true rfl⟩) (r_preS hA hW) rfl rfl hl.1 rfl (lv_room (Nat.le_of_ble_eq_true rfl)) dX11_set_68 ⟨Nat.zero_le _, Nat.zero_le _⟩) (fun r68 S68 H locs hp68 hW => ?_)
            obtain ⟨hs68, rfl⟩ := hp68
            rw [hs68] at hW
            refine r_iast hx hb hW 67 rfl (g_lt hG (by decide)) (g_kd hG (by decide) rfl) (g_ix hG (c := 320) (by decide) rfl (n_inI (by omega) (by decide))) (ri S 67 (va_up (gi S 67) ((nI (40 * a1.toNatClampNeg + a2.toNatClampNeg))).toNatClampNeg (lowB ((gi S 68) (a1).toNatClampNeg) a3))) (gi S 67) rfl (e_is _ _ _) rfl rfl c_i0 dX11_set_71 (fun H locs hW => ?_)
            rw [show ((nI (40 * a1.toNatClampNeg + a2.toNatClampNeg))).toNatClampNeg = (40 * a1.toNatClampNeg + a2.toNatClampNeg) from n_clamp (by omega)] at hW
            refine lv_aload_n hx hb dX11_set_72 rfl (lv_at hl 0 rfl) ?_
            refine lv_aload_n hx hb dX11_set_73 rfl (lv_at hl 0 rfl) ?_
            refine r_getr (ci := 10) (C := RX11) (T := TX11) (N := 20) hx hb hts iX11 hown hW rfl 65 1 rfl (g_lt hG (by decide)) (g_kd hG (by decide) rfl) (by decide) q1 (fun _ h9 => h9) (hP _ (List.mem_of_getElem? (i := 61) rfl)) rfl rfl dX11_set_74 ?_
            refine lv_bipush (v := 40) hx hb dX11_set_77 (by decide) ?_
            refine lv_iload_n hx hb dX11_set_79 rfl (lv_at hl 1 rfl) ?_
            refine lv_imul hx hb dX11_set_80 ?_
            refine lv_iload_n hx hb dX11_set_81 rfl (lv_at hl 2 rfl) ?_
            refine lv_iadd hx hb dX11_set_82 ?_
            rw [show ((40 * a1) + a2 : Int32) = (nI (40 * a1.toNatClampNeg + a2.toNatClampNeg)) from ix40 (by omega) (by omega)]
            refine r_iald hx hb hW 67 rfl (g_lt hG (by decide)) (g_kd hG (by decide) rfl) (g_ix hG (c := 320) (by decide) rfl (n_inI (by omega) (by decide))) ((va_up (gi S 67) (40 * a1.toNatClampNeg + a2.toNatClampNeg) (lowB ((gi S 68) (a1).toNatClampNeg) a3)) (40 * a1.toNatClampNeg + a2.toNatClampNeg)) ((congrFun (e_is _ _ _) _).trans (congrArg (va_up (gi S 67) (40 * a1.toNatClampNeg + a2.toNatClampNeg) (lowB ((gi S 68) (a1).toNatClampNeg) a3)) (n_clamp (by omega)))) dX11_set_83 ?_
            refine lv_i2l hx hb dX11_set_84 rfl ?_
            refine r_calll hW hA (va_runV (As := [.long (Int32.toInt64 ((va_up (gi S 67) (40 * a1.toNatClampNeg + a2.toNatClampNeg) (lowB ((gi S 68) (a1).toNatClampNeg) a3)) (40 * a1.toNatClampNeg + a2.toNatClampNeg)))]) (rest := []) ⟨hx, hb, hml, hown, hts⟩ (t_X11_good l D G (ri S 67 (va_up (gi S 67) (40 * a1.toNatClampNeg + a2.toNatClampNeg) (lowB ((gi S 68) (a1).toNatClampNeg) a3))) _ hG hP (Int32.toInt64 ((va_up (gi S 67) (40 * a1.toNatClampNeg + a2.toNatClampNeg) (lowB ((gi S 68) (a1).toNatClampNeg) a3)) (40 * a1.toNatClampNeg + a2.toNatClampNeg)))) (cwV 1 hts gX11_set_X11_good rfl rfl rfl (by decide +kernel) ⟨Nat.le_of_ble_eq_true rfl, Nat.le_of_ble_eq_true rfl⟩) (r_preV (k := 65) hA hW (ci := 10) (C := RX11) (T := TX11) (N := 20) rfl rfl (g_lt hG (by decide)) (g_kd hG (by decide) rfl) rfl rfl) rfl rfl hl.1 rfl (lv_room (Nat.le_of_ble_eq_true rfl)) dX11_set_85 ⟨Nat.zero_le _, Nat.zero_le _⟩) (fun r85 S85 H locs hp85 hW => ?_)
            obtain ⟨hs85, rfl⟩ := hp85
            rw [hs85] at hW
            refine r_lret hx hb hr hlocks hW ?_ dX11_set_88
            have ef : fos (le a1.toNatClampNeg) a2 1 = 0 := by unfold fos; rw [if_neg (by omega), if_pos (by rw [show (1 : Int32).toInt = 1 from by decide]; omega)]
            have e : fSet it la le st a1 a2 a3 = ((lowB (la a1.toNatClampNeg) a3).toInt64, va_up it a1.toNatClampNeg (va_up (it a1.toNatClampNeg) a2.toNatClampNeg (lowB (la a1.toNatClampNeg) a3)), 0) := by unfold fSet; rw [if_pos (by omega), if_pos ef]
            rw [e, ← hr_a1.1]; dsimp only
            refine ⟨?_, rfl, by rw [up_s], (Ch.ri (Ch.ri Ch.rf (by omega)) (by omega))⟩
            intro j hj
            obtain ⟨y1, y2, y3⟩ := hR j hj
            refine ⟨?_, ?_, fun i hi => ?_⟩
            · refine Eq.trans ?_ y1; simp only [gi_ri]; rw [up_n _ _ (by omega), up_n _ _ (by omega)]
            · refine Eq.trans ?_ y2; simp only [gi_ri]; rw [up_n _ _ (by omega), up_n _ _ (by omega)]
            · rw [(e_in (by decide) (e_is _ _ _))]
              by_cases hja : j = a1.toNatClampNeg
              · rw [hja, up_s]
                by_cases hia : i = a2.toNatClampNeg
                · rw [hia, up_s, up_s]
                · rw [up_n _ _ (by omega), up_n _ _ hia]; exact hr_a1.2.2 i hi
              · rw [up_n _ _ hja, up_n _ _ (by omega)]; exact y3 i hi
          · exact absurd c42 (by decide)
        · skip
          refine lv_if_ne (tgt := 51) hx hb dX11_set_42 (by decide) (fun c42 => ?_) (fun c42 => ?_)
          · exact absurd (by decide) c42
          · skip
            rw [hsub] at h39
            refine lv_aload_n hx hb dX11_set_45 rfl (lv_at hl 0 rfl) ?_
            refine lv_iconst (v := 2) hx hb dX11_set_46 (by decide) ?_
            refine r_calll hW hA (va_runV (As := [.int 2]) (rest := []) ⟨hx, hb, hml, hown, hts⟩ (t_X11_found l D G S _ hG hP 2) (cwV 1 hts gX11_set_X11_found rfl rfl rfl (by decide +kernel) ⟨Nat.le_of_ble_eq_true rfl, Nat.le_of_ble_eq_true rfl⟩) (r_preV (k := 65) hA hW (ci := 10) (C := RX11) (T := TX11) (N := 20) rfl rfl (g_lt hG (by decide)) (g_kd hG (by decide) rfl) rfl rfl) rfl rfl hl.1 rfl (lv_room (Nat.le_of_ble_eq_true rfl)) dX11_set_47 ⟨Nat.zero_le _, Nat.zero_le _⟩) (fun r47 S47 H locs hp47 hW => ?_)
            obtain ⟨hs47, rfl⟩ := hp47
            rw [hs47] at hW
            refine r_lret hx hb hr hlocks hW ?_ dX11_set_50
            have ef : fos (le a1.toNatClampNeg) a2 1 = 2 := by unfold fos; rw [if_neg (by omega), if_neg (by rw [show (1 : Int32).toInt = 1 from by decide]; omega)]
            have e : fSet it la le st a1 a2 a3 = (FND 2, it, 2) := by unfold fSet; rw [if_pos (by omega), ef, if_neg (by decide)]
            rw [e]; dsimp only
            refine ⟨?_, congrFun (e_is _ _ _) 4, rfl, (Ch.ri Ch.rf (by omega))⟩
            intro j hj
            obtain ⟨y1, y2, y3⟩ := hR j hj
            exact ⟨(congrFun (e_in (by omega) rfl) j).trans y1, (congrFun (e_in (by omega) rfl) j).trans y2, fun i hi => (congrFun (e_in (by omega) rfl) (40 * j + i)).trans (y3 i hi)⟩
      · skip
        rw [t_le, show (0 : Int32).toInt = 0 from by decide] at c18
        refine lv_aload_n hx hb dX11_set_21 rfl (lv_at hl 0 rfl) ?_
        refine lv_iconst (v := 1) hx hb dX11_set_22 (by decide) ?_
        refine r_calll hW hA (va_runV (As := [.int 1]) (rest := []) ⟨hx, hb, hml, hown, hts⟩ (t_X11_found l D G S _ hG hP 1) (cwV 1 hts gX11_set_X11_found rfl rfl rfl (by decide +kernel) ⟨Nat.le_of_ble_eq_true rfl, Nat.le_of_ble_eq_true rfl⟩) (r_preV (k := 65) hA hW (ci := 10) (C := RX11) (T := TX11) (N := 20) rfl rfl (g_lt hG (by decide)) (g_kd hG (by decide) rfl) rfl rfl) rfl rfl hl.1 rfl (lv_room (Nat.le_of_ble_eq_true rfl)) dX11_set_23 ⟨Nat.zero_le _, Nat.zero_le _⟩) (fun r23 S23 H locs hp23 hW => ?_)
        obtain ⟨hs23, rfl⟩ := hp23
        rw [hs23] at hW
        refine r_lret hx hb hr hlocks hW ?_ dX11_set_26
        have ef : fos (le a1.toNatClampNeg) a2 1 = 1 := by unfold fos; rw [if_pos (by omega)]
        have e : fSet it la le st a1 a2 a3 = (FND 1, it, 1) := by unfold fSet; rw [if_pos (by omega), ef, if_neg (by decide)]
        rw [e]; dsimp only
        refine ⟨?_, congrFun (e_is _ _ _) 4, rfl, (Ch.ri Ch.rf (by omega))⟩
        intro j hj
        obtain ⟨y1, y2, y3⟩ := hR j hj
        exact ⟨(congrFun (e_in (by omega) rfl) j).trans y1, (congrFun (e_in (by omega) rfl) j).trans y2, fun i hi => (congrFun (e_in (by omega) rfl) (40 * j + i)).trans (y3 i hi)⟩
    · exact absurd c5 (by decide)
  · skip
    refine lv_if_ne (tgt := 12) hx hb dX11_set_5 (by decide) (fun c5 => ?_) (fun c5 => ?_)
    · exact absurd (by decide) c5
    · skip
      refine lv_ldc2 (v := (-9000000000000000001)) hx hb hown q3 dX11_set_8 ?_
      refine r_lret hx hb hr hlocks hW ?_ dX11_set_11
      have e : fSet it la le st a1 a2 a3 = (BADL, it, st) := by unfold fSet; rw [if_neg (by omega)]
      rw [e]; dsimp only
      exact ⟨hR, hst, rfl, Ch.rf⟩

def rmX11_drop : Jvm.Room := { frames := 2, cells := 0, slots := 0, locals := 46 }
set_option maxHeartbeats 4000000 in
set_option maxRecDepth 100000 in
theorem t_X11_drop (l : Launch) (D : Dc) (G : Gg) (S : Sg) (z : Nat) (hG : GrG G) (hP : GrP G S) (it : Nat → Nat → Int32) (la le : Nat → Int32) (hR : RowsM S it la le) (hL : LeOK le) (st : Int32) (hst : gi S 65 4 = st) (a1 : Int32) : ML l yX11_drop wsX11_drop rmX11_drop D G S z [.ref (gA G 65), .int a1] (fun r S' => RowsM S' it la (fDrop le st a1).2.1 ∧ gi S' 65 4 = (fDrop le st a1).2.2 ∧ r = (fDrop le st a1).1 ∧ Ch (fun k => 65 ≤ k ∧ k ≤ 74) S S') := by
  refine Met.ofW (cc := cX11_drop) (maxL := 3) (ret := (some .long)) (by decide +kernel) rfl ?_
  intro pP eE s mM args bl mT cD s₁ bD hml hv
  obtain ⟨rfl, hv⟩ := hv
  have hz := hv.1
  subst hz
  have hx := bD.exec
  have hb := bD.bytes
  have hr := bD.returns
  have hts := atoms_spec (ws := wsX11_drop) bD.pre
  have hown : s.vm.findClass RX11 = some mM.cls := findClass_of_methodNamed bD.named
  have hlocks := bD.notSynchronized
  have hW := Wd.start hv
  have hA : ∀ q, s.heap.size ≤ q → AW G s.heap.size q := fun q h => Or.inr h
  have hl := lv_entry ([.ref (gA G 65), .int a1]) (n := 3) (Nat.le_of_ble_eq_true rfl)
  rw [lg_entry_eq]
  generalize (lg_sl ([.ref (gA G 65), .int a1]) ++ List.replicate (3 - (lg_sl ([.ref (gA G 65), .int a1])).length) Slot.unset).toArray = ls at hl ⊢
  have hl : lv_has ls 3 [(0, .ref (gA G 65)), (1, .int a1)] := hl
  have q0 := hts (.fieldLink RX11 20 "WoodForTwoModel" "length" "[I") (List.mem_of_getElem? (i := 2) rfl)
  have q1 := hts (.constantLong RX11 56 (-9000000000000000001)) (List.mem_of_getElem? (i := 1) rfl)
  have iX11 : ∀ w ∈ wsX110, w ∈ wsX11_drop := fun _ h => List.mem_cons_of_mem _ (List.mem_append_right _ (h))
  refine lv_aload_n hx hb dX11_drop_0 rfl (lv_at hl 0 rfl) ?_
  refine lv_iload_n hx hb dX11_drop_1 rfl (lv_at hl 1 rfl) ?_
  refine r_calli hW hA (va_runV (As := [.int a1]) (rest := []) ⟨hx, hb, hml, hown, hts⟩ (t_X11_isRow l D G S _ hG hP a1) (cwV 1 hts gX11_drop_X11_isRow rfl rfl rfl (by decide +kernel) ⟨Nat.le_of_ble_eq_true rfl, Nat.le_of_ble_eq_true rfl⟩) (r_preV (k := 65) hA hW (ci := 10) (C := RX11) (T := TX11) (N := 20) rfl rfl (g_lt hG (by decide)) (g_kd hG (by decide) rfl) rfl rfl) rfl rfl hl.1 rfl (lv_room (Nat.le_of_ble_eq_true rfl)) dX11_drop_2 ⟨Nat.zero_le _, Nat.zero_le _⟩) (fun r2 S2 H locs hp2 hW => ?_)
  obtain ⟨hs2, hp2⟩ := hp2
  rw [hs2] at hW
  rcases hp2 with ⟨rfl, h2⟩ | ⟨rfl, h2⟩
  · skip
    refine lv_if_ne (tgt := 12) hx hb dX11_drop_5 (by decide) (fun c5 => ?_) (fun c5 => ?_)
    · skip
      have hn_a1 := n_nat (x := a1) (by omega)
      have hr_a1 := hR a1.toNatClampNeg (by omega)
      have hle_a1 := hL a1.toNatClampNeg (by omega)
      refine lv_aload_n hx hb dX11_drop_12 rfl (lv_at hl 0 rfl) ?_
      refine r_getr (ci := 10) (C := RX11) (T := TX11) (N := 20) hx hb hts iX11 hown hW rfl 65 3 rfl (g_lt hG (by decide)) (g_kd hG (by decide) rfl) (by decide) q0 (fun _ h9 => h9) (hP _ (List.mem_of_getElem? (i := 63) rfl)) rfl rfl dX11_drop_13 ?_
      refine lv_iload_n hx hb dX11_drop_16 rfl (lv_at hl 1 rfl) ?_
      refine r_iald hx hb hW 69 rfl (g_lt hG (by decide)) (g_kd hG (by decide) rfl) (g_ix hG (c := 8) (by decide) rfl (t_in (by omega) (by omega))) ((gi S 69) (a1).toNatClampNeg) rfl dX11_drop_17 ?_
      refine lv_if_ge (tgt := 27) hx hb dX11_drop_18 (by decide) (fun c18 => ?_) (fun c18 => ?_)
      · skip
        rw [t_le, show (0 : Int32).toInt = 0 from by decide] at c18
        refine lv_aload_n hx hb dX11_drop_27 rfl (lv_at hl 0 rfl) ?_
        refine r_getr (ci := 10) (C := RX11) (T := TX11) (N := 20) hx hb hts iX11 hown hW rfl 65 3 rfl (g_lt hG (by decide)) (g_kd hG (by decide) rfl) (by decide) q0 (fun _ h9 => h9) (hP _ (List.mem_of_getElem? (i := 63) rfl)) rfl rfl dX11_drop_28 ?_
        refine lv_iload_n hx hb dX11_drop_31 rfl (lv_at hl 1 rfl) ?_
        refine r_iald hx hb hW 69 rfl (g_lt hG (by decide)) (g_kd hG (by decide) rfl) (g_ix hG (c := 8) (by decide) rfl (t_in (by omega) (by omega))) ((gi S 69) (a1).toNatClampNeg) rfl dX11_drop_32 ?_
        refine lv_istore_n (lv' := [(2, .int ((gi S 69) (a1).toNatClampNeg)), (0, .ref (gA G 65)), (1, .int a1)]) hx hb dX11_drop_33 rfl hl (by decide) rfl (fun ls hl => ?_)
        refine lv_aload_n hx hb dX11_drop_34 rfl (lv_at hl 1 rfl) ?_
        refine r_getr (ci := 10) (C := RX11) (T := TX11) (N := 20) hx hb hts iX11 hown hW rfl 65 3 rfl (g_lt hG (by decide)) (g_kd hG (by decide) rfl) (by decide) q0 (fun _ h9 => h9) (hP _ (List.mem_of_getElem? (i := 63) rfl)) rfl rfl dX11_drop_35 ?_
        refine lv_iload_n hx hb dX11_drop_38 rfl (lv_at hl 2 rfl) ?_
        refine lv_iconst (v := (-1)) hx hb dX11_drop_39 (by decide) ?_
        refine r_iast hx hb hW 69 rfl (g_lt hG (by decide)) (g_kd hG (by decide) rfl) (g_ix hG (c := 8) (by decide) rfl (t_in (by omega) (by omega))) (ri S 69 (va_up (gi S 69) (a1).toNatClampNeg (-1))) (gi S 69) rfl (e_is _ _ _) rfl rfl c_i0 dX11_drop_40 (fun H locs hW => ?_)
        refine lv_aload_n hx hb dX11_drop_41 rfl (lv_at hl 1 rfl) ?_
        refine lv_iload_n hx hb dX11_drop_42 rfl (lv_at hl 0 rfl) ?_
        refine lv_i2l hx hb dX11_drop_43 rfl ?_
        refine r_calll hW hA (va_runV (As := [.long (Int32.toInt64 ((gi S 69) (a1).toNatClampNeg))]) (rest := []) ⟨hx, hb, hml, hown, hts⟩ (t_X11_good l D G (ri S 69 (va_up (gi S 69) (a1).toNatClampNeg (-1))) _ hG hP (Int32.toInt64 ((gi S 69) (a1).toNatClampNeg))) (cwV 1 hts gX11_drop_X11_good rfl rfl rfl (by decide +kernel) ⟨Nat.le_of_ble_eq_true rfl, Nat.le_of_ble_eq_true rfl⟩) (r_preV (k := 65) hA hW (ci := 10) (C := RX11) (T := TX11) (N := 20) rfl rfl (g_lt hG (by decide)) (g_kd hG (by decide) rfl) rfl rfl) rfl rfl hl.1 rfl (lv_room (Nat.le_of_ble_eq_true rfl)) dX11_drop_44 ⟨Nat.zero_le _, Nat.zero_le _⟩) (fun r44 S44 H locs hp44 hW => ?_)
        obtain ⟨hs44, rfl⟩ := hp44
        rw [hs44] at hW
        refine r_lret hx hb hr hlocks hW ?_ dX11_drop_47
        have e : fDrop le st a1 = ((le a1.toNatClampNeg).toInt64, va_up le a1.toNatClampNeg (-1), 0) := by unfold fDrop; rw [if_pos (by omega), if_neg (by rw [← hr_a1.2.1]; omega)]
        rw [e, ← hr_a1.2.1]; dsimp only
        refine ⟨?_, rfl, rfl, (Ch.ri (Ch.ri Ch.rf (by omega)) (by omega))⟩
        intro j hj
        obtain ⟨y1, y2, y3⟩ := hR j hj
        refine ⟨?_, ?_, fun i hi => ?_⟩
        · refine Eq.trans ?_ y1; simp only [gi_ri]; rw [up_n _ _ (by omega), up_n _ _ (by omega)]
        · rw [(e_in (by decide) (e_is _ _ _))]; exact up_cg _ _ y2
        · refine Eq.trans ?_ (y3 i hi); simp only [gi_ri]; rw [up_n _ _ (by omega), up_n _ _ (by omega)]
      · skip
        rw [t_le, show (0 : Int32).toInt = 0 from by decide] at c18
        refine lv_aload_n hx hb dX11_drop_21 rfl (lv_at hl 0 rfl) ?_
        refine lv_iconst (v := 1) hx hb dX11_drop_22 (by decide) ?_
        refine r_calll hW hA (va_runV (As := [.int 1]) (rest := []) ⟨hx, hb, hml, hown, hts⟩ (t_X11_found l D G S _ hG hP 1) (cwV 1 hts gX11_drop_X11_found rfl rfl rfl (by decide +kernel) ⟨Nat.le_of_ble_eq_true rfl, Nat.le_of_ble_eq_true rfl⟩) (r_preV (k := 65) hA hW (ci := 10) (C := RX11) (T := TX11) (N := 20) rfl rfl (g_lt hG (by decide)) (g_kd hG (by decide) rfl) rfl rfl) rfl rfl hl.1 rfl (lv_room (Nat.le_of_ble_eq_true rfl)) dX11_drop_23 ⟨Nat.zero_le _, Nat.zero_le _⟩) (fun r23 S23 H locs hp23 hW => ?_)
        obtain ⟨hs23, rfl⟩ := hp23
        rw [hs23] at hW
        refine r_lret hx hb hr hlocks hW ?_ dX11_drop_26
        have e : fDrop le st a1 = (FND 1, le, 1) := by unfold fDrop; rw [if_pos (by omega), if_pos (by rw [← hr_a1.2.1]; rw [← hr_a1.2.1] at hle_a1; omega)]
        rw [e]; dsimp only
        refine ⟨?_, congrFun (e_is _ _ _) 4, rfl, (Ch.ri Ch.rf (by omega))⟩
        intro j hj
        obtain ⟨y1, y2, y3⟩ := hR j hj
        exact ⟨(congrFun (e_in (by omega) rfl) j).trans y1, (congrFun (e_in (by omega) rfl) j).trans y2, fun i hi => (congrFun (e_in (by omega) rfl) (40 * j + i)).trans (y3 i hi)⟩
    · exact absurd c5 (by decide)
  · skip
    refine lv_if_ne (tgt := 12) hx hb dX11_drop_5 (by decide) (fun c5 => ?_) (fun c5 => ?_)
    · exact absurd (by decide) c5
    · skip
      refine lv_ldc2 (v := (-9000000000000000001)) hx hb hown q1 dX11_drop_8 ?_
      refine r_lret hx hb hr hlocks hW ?_ dX11_drop_11
      have e : fDrop le st a1 = (BADL, le, st) := by unfold fDrop; rw [if_neg (by omega)]
      rw [e]; dsimp only
      exact ⟨hR, hst, rfl, Ch.rf⟩

def rmX11_copy : Jvm.Room := { frames := 2, cells := 0, slots := 0, locals := 46 }
set_option maxHeartbeats 4000000 in
set_option maxRecDepth 100000 in
theorem t_X11_copy (l : Launch) (D : Dc) (G : Gg) (S : Sg) (z : Nat) (hG : GrG G) (hP : GrP G S) (it : Nat → Nat → Int32) (la le : Nat → Int32) (hR : RowsM S it la le) (hL : LeOK le) (st : Int32) (hst : gi S 65 4 = st) (a1 a2 a3 a4 a5 : Int32) : ML l yX11_copy wsX11_copy rmX11_copy D G S z [.ref (gA G 65), .int a1, .int a2, .int a3, .int a4, .int a5] (fun r S' => RowsM S' (fCopy it la le st a1 a2 a3 a4 a5).2.1 la le ∧ gi S' 65 4 = (fCopy it la le st a1 a2 a3 a4 a5).2.2 ∧ r = (fCopy it la le st a1 a2 a3 a4 a5).1 ∧ Ch (fun k => 65 ≤ k ∧ k ≤ 74) S S') := by
  refine Met.ofW (cc := cX11_copy) (maxL := 7) (ret := (some .long)) (by decide +kernel) rfl ?_
  intro pP eE s mM args bl mT cD s₁ bD hml hv
  obtain ⟨rfl, hv⟩ := hv
  have hz := hv.1
  subst hz
  have hx := bD.exec
  have hb := bD.bytes
  have hr := bD.returns
  have hts := atoms_spec (ws := wsX11_copy) bD.pre
  have hown : s.vm.findClass RX11 = some mM.cls := findClass_of_methodNamed bD.named
  have hlocks := bD.notSynchronized
  have hW := Wd.start hv
  have hA : ∀ q, s.heap.size ≤ q → AW G s.heap.size q := fun q h => Or.inr h
  have hl := lv_entry ([.ref (gA G 65), .int a1, .int a2, .int a3, .int a4, .int a5]) (n := 7) (Nat.le_of_ble_eq_true rfl)
  rw [lg_entry_eq]
  generalize (lg_sl ([.ref (gA G 65), .int a1, .int a2, .int a3, .int a4, .int a5]) ++ List.replicate (7 - (lg_sl ([.ref (gA G 65), .int a1, .int a2, .int a3, .int a4, .int a5])).length) Slot.unset).toArray = ls at hl ⊢
  have hl : lv_has ls 7 [(0, .ref (gA G 65)), (1, .int a1), (2, .int a2), (3, .int a3), (4, .int a4), (5, .int a5)] := hl
  have q0 := hts (.fieldLink RX11 20 "WoodForTwoModel" "length" "[I") (List.mem_of_getElem? (i := 2) rfl)
  have q1 := hts (.fieldLink RX11 17 "WoodForTwoModel" "lane" "[I") (List.mem_of_getElem? (i := 3) rfl)
  have q2 := hts (.fieldLink RX11 13 "WoodForTwoModel" "items" "[I") (List.mem_of_getElem? (i := 5) rfl)
  have q3 := hts (.fieldLink RX11 23 "WoodForTwoModel" "spare" "[I") (List.mem_of_getElem? (i := 4) rfl)
  have q4 := hts (.constantLong RX11 56 (-9000000000000000001)) (List.mem_of_getElem? (i := 1) rfl)
  have iX11 : ∀ w ∈ wsX110, w ∈ wsX11_copy := fun _ h => List.mem_cons_of_mem _ (List.mem_append_right _ (h))
  generalize hQ0 : MQ bl _ _ s _ _ _ = Q0
  refine lv_aload_n hx hb dX11_copy_0 rfl (lv_at hl 0 rfl) ?_
  refine lv_iload_n hx hb dX11_copy_1 rfl (lv_at hl 1 rfl) ?_
  refine r_calli hW hA (va_runV (As := [.int a1]) (rest := []) ⟨hx, hb, hml, hown, hts⟩ (t_X11_isRow l D G S _ hG hP a1) (cwV 1 hts gX11_copy_X11_isRow rfl rfl rfl (by decide +kernel) ⟨Nat.le_of_ble_eq_true rfl, Nat.le_of_ble_eq_true rfl⟩) (r_preV (k := 65) hA hW (ci := 10) (C := RX11) (T := TX11) (N := 20) rfl rfl (g_lt hG (by decide)) (g_kd hG (by decide) rfl) rfl rfl) rfl rfl hl.1 rfl (lv_room (Nat.le_of_ble_eq_true rfl)) dX11_copy_2 ⟨Nat.zero_le _, Nat.zero_le _⟩) (fun r2 S2 H locs hp2 hW => ?_)
  obtain ⟨hs2, hp2⟩ := hp2
  rw [hs2] at hW
  rcases hp2 with ⟨rfl, h2⟩ | ⟨rfl, h2⟩
  · skip
    refine lv_if_eq (tgt := 16) hx hb dX11_copy_5 (by decide) (fun c5 => ?_) (fun c5 => ?_)
    · exact absurd c5 (by decide)
    · skip
      refine lv_aload_n hx hb dX11_copy_8 rfl (lv_at hl 0 rfl) ?_
      refine lv_iload_n hx hb dX11_copy_9 rfl (lv_at hl 3 rfl) ?_
      refine r_calli hW hA (va_runV (As := [.int a3]) (rest := []) ⟨hx, hb, hml, hown, hts⟩ (t_X11_isRow l D G S _ hG hP a3) (cwV 1 hts gX11_copy_X11_isRow rfl rfl rfl (by decide +kernel) ⟨Nat.le_of_ble_eq_true rfl, Nat.le_of_ble_eq_true rfl⟩) (r_preV (k := 65) hA hW (ci := 10) (C := RX11) (T := TX11) (N := 20) rfl rfl (g_lt hG (by decide)) (g_kd hG (by decide) rfl) rfl rfl) rfl rfl hl.1 rfl (lv_room (Nat.le_of_ble_eq_true rfl)) dX11_copy_10 ⟨Nat.zero_le _, Nat.zero_le _⟩) (fun r10 S10 H locs hp10 hW => ?_)
      obtain ⟨hs10, hp10⟩ := hp10
      rw [hs10] at hW
      rcases hp10 with ⟨rfl, h10⟩ | ⟨rfl, h10⟩
      · skip
        refine lv_if_ne (tgt := 20) hx hb dX11_copy_13 (by decide) (fun c13 => ?_) (fun c13 => ?_)
        · skip
          have hn_a1 := n_nat (x := a1) (by omega)
          have hr_a1 := hR a1.toNatClampNeg (by omega)
          have hle_a1 := hL a1.toNatClampNeg (by omega)
          have hn_a3 := n_nat (x := a3) (by omega)
          have hr_a3 := hR a3.toNatClampNeg (by omega)
          have hle_a3 := hL a3.toNatClampNeg (by omega)
          refine lv_aload_n hx hb dX11_copy_20 rfl (lv_at hl 0 rfl) ?_
          refine r_getr (ci := 10) (C := RX11) (T := TX11) (N := 20) hx hb hts iX11 hown hW rfl 65 3 rfl (g_lt hG (by decide)) (g_kd hG (by decide) rfl) (by decide) q0 (fun _ h9 => h9) (hP _ (List.mem_of_getElem? (i := 63) rfl)) rfl rfl dX11_copy_21 ?_
          refine lv_iload_n hx hb dX11_copy_24 rfl (lv_at hl 1 rfl) ?_
          refine r_iald hx hb hW 69 rfl (g_lt hG (by decide)) (g_kd hG (by decide) rfl) (g_ix hG (c := 8) (by decide) rfl (t_in (by omega) (by omega))) ((gi S 69) (a1).toNatClampNeg) rfl dX11_copy_25 ?_
          refine lv_if_lt (tgt := 38) hx hb dX11_copy_26 (by decide) (fun c26 => ?_) (fun c26 => ?_)
          · skip
            rw [t_lt, show (0 : Int32).toInt = 0 from by decide] at c26
            refine lv_aload_n hx hb dX11_copy_38 rfl (lv_at hl 0 rfl) ?_
            refine lv_iconst (v := 1) hx hb dX11_copy_39 (by decide) ?_
            refine r_calll hW hA (va_runV (As := [.int 1]) (rest := []) ⟨hx, hb, hml, hown, hts⟩ (t_X11_found l D G S _ hG hP 1) (cwV 1 hts gX11_copy_X11_found rfl rfl rfl (by decide +kernel) ⟨Nat.le_of_ble_eq_true rfl, Nat.le_of_ble_eq_true rfl⟩) (r_preV (k := 65) hA hW (ci := 10) (C := RX11) (T := TX11) (N := 20) rfl rfl (g_lt hG (by decide)) (g_kd hG (by decide) rfl) rfl rfl) rfl rfl hl.1 rfl (lv_room (Nat.le_of_ble_eq_true rfl)) dX11_copy_40 ⟨Nat.zero_le _, Nat.zero_le _⟩) (fun r40 S40 H locs hp40 hW => ?_)
            obtain ⟨hs40, rfl⟩ := hp40
            rw [hs40] at hW
            rw [← hQ0]
            refine r_lret hx hb hr hlocks hW ?_ dX11_copy_43
            have e : fCopy it la le st a1 a2 a3 a4 a5 = (FND 1, it, 1) := by unfold fCopy; rw [if_pos (by omega), if_pos (by rw [← hr_a1.2.1, ← hr_a3.2.1]; rw [← hr_a1.2.1] at hle_a1; rw [← hr_a3.2.1] at hle_a3; omega)]
            rw [e]; dsimp only
            refine ⟨?_, congrFun (e_is _ _ _) 4, rfl, (Ch.ri Ch.rf (by omega))⟩
            intro j hj
            obtain ⟨y1, y2, y3⟩ := hR j hj
            exact ⟨(congrFun (e_in (by omega) rfl) j).trans y1, (congrFun (e_in (by omega) rfl) j).trans y2, fun i hi => (congrFun (e_in (by omega) rfl) (40 * j + i)).trans (y3 i hi)⟩
          · skip
            rw [t_lt, show (0 : Int32).toInt = 0 from by decide] at c26
            refine lv_aload_n hx hb dX11_copy_29 rfl (lv_at hl 0 rfl) ?_
            refine r_getr (ci := 10) (C := RX11) (T := TX11) (N := 20) hx hb hts iX11 hown hW rfl 65 3 rfl (g_lt hG (by decide)) (g_kd hG (by decide) rfl) (by decide) q0 (fun _ h9 => h9) (hP _ (List.mem_of_getElem? (i := 63) rfl)) rfl rfl dX11_copy_30 ?_
            refine lv_iload_n hx hb dX11_copy_33 rfl (lv_at hl 3 rfl) ?_
            refine r_iald hx hb hW 69 rfl (g_lt hG (by decide)) (g_kd hG (by decide) rfl) (g_ix hG (c := 8) (by decide) rfl (t_in (by omega) (by omega))) ((gi S 69) (a3).toNatClampNeg) rfl dX11_copy_34 ?_
            refine lv_if_ge (tgt := 44) hx hb dX11_copy_35 (by decide) (fun c35 => ?_) (fun c35 => ?_)
            · skip
              rw [t_le, show (0 : Int32).toInt = 0 from by decide] at c35
              refine lv_aload_n hx hb dX11_copy_44 rfl (lv_at hl 0 rfl) ?_
              refine r_getr (ci := 10) (C := RX11) (T := TX11) (N := 20) hx hb hts iX11 hown hW rfl 65 2 rfl (g_lt hG (by decide)) (g_kd hG (by decide) rfl) (by decide) q1 (fun _ h9 => h9) (hP _ (List.mem_of_getElem? (i := 62) rfl)) rfl rfl dX11_copy_45 ?_
              refine lv_iload_n hx hb dX11_copy_48 rfl (lv_at hl 1 rfl) ?_
              refine r_iald hx hb hW 68 rfl (g_lt hG (by decide)) (g_kd hG (by decide) rfl) (g_ix hG (c := 8) (by decide) rfl (t_in (by omega) (by omega))) ((gi S 68) (a1).toNatClampNeg) rfl dX11_copy_49 ?_
              refine lv_aload_n hx hb dX11_copy_50 rfl (lv_at hl 0 rfl) ?_
              refine r_getr (ci := 10) (C := RX11) (T := TX11) (N := 20) hx hb hts iX11 hown hW rfl 65 2 rfl (g_lt hG (by decide)) (g_kd hG (by decide) rfl) (by decide) q1 (fun _ h9 => h9) (hP _ (List.mem_of_getElem? (i := 62) rfl)) rfl rfl dX11_copy_51 ?_
              refine lv_iload_n hx hb dX11_copy_54 rfl (lv_at hl 3 rfl) ?_
              refine r_iald hx hb hW 68 rfl (g_lt hG (by decide)) (g_kd hG (by decide) rfl) (g_ix hG (c := 8) (by decide) rfl (t_in (by omega) (by omega))) ((gi S 68) (a3).toNatClampNeg) rfl dX11_copy_55 ?_
              refine lv_icmp_eq (tgt := 65) hx hb dX11_copy_56 (by decide) (fun c56 => ?_) (fun c56 => ?_)
              · skip
                rw [t_eq] at c56
                refine lv_iload_n hx hb dX11_copy_65 rfl (lv_at hl 2 rfl) ?_
                refine lv_iload hx hb dX11_copy_66 (lv_at hl 5 rfl) ?_
                refine lv_aload_n hx hb dX11_copy_68 rfl (lv_at hl 0 rfl) ?_
                refine r_getr (ci := 10) (C := RX11) (T := TX11) (N := 20) hx hb hts iX11 hown hW rfl 65 3 rfl (g_lt hG (by decide)) (g_kd hG (by decide) rfl) (by decide) q0 (fun _ h9 => h9) (hP _ (List.mem_of_getElem? (i := 63) rfl)) rfl rfl dX11_copy_69 ?_
                refine lv_iload_n hx hb dX11_copy_72 rfl (lv_at hl 1 rfl) ?_
                refine r_iald hx hb hW 69 rfl (g_lt hG (by decide)) (g_kd hG (by decide) rfl) (g_ix hG (c := 8) (by decide) rfl (t_in (by omega) (by omega))) ((gi S 69) (a1).toNatClampNeg) rfl dX11_copy_73 ?_
                refine r_calli hW hA (va_runS (As := [.int a2, .int a5, .int ((gi S 69) (a1).toNatClampNeg)]) (rest := []) ⟨hx, hb, hml, hown, hts⟩ (t_X11_isWithin l D G S _ a2 a5 ((gi S 69) (a1).toNatClampNeg)) (va_cwS 3 hts gX11_copy_X11_isWithin rfl rfl rfl (by decide +kernel) ⟨Nat.le_of_ble_eq_true rfl, Nat.le_of_ble_eq_true rfl⟩) (r_preS hA hW) rfl rfl hl.1 rfl (lv_room (Nat.le_of_ble_eq_true rfl)) dX11_copy_74 ⟨Nat.zero_le _, Nat.zero_le _⟩) (fun r74 S74 H locs hp74 hW => ?_)
                obtain ⟨hs74, hp74⟩ := hp74
                rw [hs74] at hW
                rcases hp74 with ⟨rfl, h74⟩ | ⟨rfl, h74⟩
                · skip
                  refine lv_if_eq (tgt := 96) hx hb dX11_copy_77 (by decide) (fun c77 => ?_) (fun c77 => ?_)
                  · exact absurd c77 (by decide)
                  · skip
                    refine lv_iload hx hb dX11_copy_80 (lv_at hl 4 rfl) ?_
                    refine lv_iload hx hb dX11_copy_82 (lv_at hl 5 rfl) ?_
                    refine lv_aload_n hx hb dX11_copy_84 rfl (lv_at hl 0 rfl) ?_
                    refine r_getr (ci := 10) (C := RX11) (T := TX11) (N := 20) hx hb hts iX11 hown hW rfl 65 3 rfl (g_lt hG (by decide)) (g_kd hG (by decide) rfl) (by decide) q0 (fun _ h9 => h9) (hP _ (List.mem_of_getElem? (i := 63) rfl)) rfl rfl dX11_copy_85 ?_
                    refine lv_iload_n hx hb dX11_copy_88 rfl (lv_at hl 3 rfl) ?_
                    refine r_iald hx hb hW 69 rfl (g_lt hG (by decide)) (g_kd hG (by decide) rfl) (g_ix hG (c := 8) (by decide) rfl (t_in (by omega) (by omega))) ((gi S 69) (a3).toNatClampNeg) rfl dX11_copy_89 ?_
                    refine r_calli hW hA (va_runS (As := [.int a4, .int a5, .int ((gi S 69) (a3).toNatClampNeg)]) (rest := []) ⟨hx, hb, hml, hown, hts⟩ (t_X11_isWithin l D G S _ a4 a5 ((gi S 69) (a3).toNatClampNeg)) (va_cwS 3 hts gX11_copy_X11_isWithin rfl rfl rfl (by decide +kernel) ⟨Nat.le_of_ble_eq_true rfl, Nat.le_of_ble_eq_true rfl⟩) (r_preS hA hW) rfl rfl hl.1 rfl (lv_room (Nat.le_of_ble_eq_true rfl)) dX11_copy_90 ⟨Nat.zero_le _, Nat.zero_le _⟩) (fun r90 S90 H locs hp90 hW => ?_)
                    obtain ⟨hs90, hp90⟩ := hp90
                    rw [hs90] at hW
                    rcases hp90 with ⟨rfl, h90⟩ | ⟨rfl, h90⟩
                    · skip
                      refine lv_if_ne (tgt := 102) hx hb dX11_copy_93 (by decide) (fun c93 => ?_) (fun c93 => ?_)
                      · skip
                        refine lv_iconst (v := 0) hx hb dX11_copy_102 (by decide) ?_
                        refine lv_istore (lv' := [(6, .int 0), (0, .ref (gA G 65)), (1, .int a1), (2, .int a2), (3, .int a3), (4, .int a4), (5, .int a5)]) hx hb dX11_copy_103 hl (by decide) rfl (fun ls hl => ?_)
                        have hn_a2 := n_nat (x := a2) (by omega)
                        have hn_a4 := n_nat (x := a4) (by omega)
                        have hn_a5 := n_nat (x := a5) (by omega)
                        have e5 : a5 = nI a5.toNatClampNeg := n_nI (by omega)
                        have h40a : (gi S 69 a1.toNatClampNeg).toInt ≤ 40 := by rw [hr_a1.2.1]; omega
                        have h40b : (gi S 69 a3.toNatClampNeg).toInt ≤ 40 := by rw [hr_a3.2.1]; omega
                        rw [show S = (ri S 70 (gi S 70)) from (ri_id S 70).symm] at hW
                        have L105 : ∀ (n : Nat) (i : Nat) (t : Nat → Int32) (H : Heap) (locs : List Loc) (ls : Array Slot), (a5.toNatClampNeg - i) < n → i ≤ a5.toNatClampNeg → (∀ j, j < i → t j = gi S 67 (40 * a1.toNatClampNeg + a2.toNatClampNeg + j)) → Wd D (AW G s.heap.size) s G (ri S 70 t) H locs → lv_has ls 7 [(6, .int (nI i)), (0, .ref (gA G 65)), (1, .int a1), (2, .int a2), (3, .int a3), (4, .int a4), (5, .int a5)] → W pP l eE (headSpec wsX11_copy rmX11_copy).room s mM ([.ref (gA G 65), .int a1, .int a2, .int a3, .int a4, .int a5] : List Value).toArray bl mT cD H locs 0 0 Q0 (F0 mM 105 ls []) := by
                          intro n
                          induction n with
                          | zero => intro i t H locs ls hm; exact absurd hm (Nat.not_lt_zero _)
                          | succ n ih105 =>
                            intro i t H locs ls hm105 hi ht hW hl
                            refine lv_iload hx hb dX11_copy_105 (lv_at hl 0 rfl) ?_
                            refine lv_iload hx hb dX11_copy_107 (lv_at hl 6 rfl) ?_
                            refine lv_icmp_ge (tgt := 139) hx hb dX11_copy_109 (by decide) (fun c109 => ?_) (fun c109 => ?_)
                            · skip
                              have hge : a5.toNatClampNeg ≤ i := by
                                have h9 := c109
                                rw [e5] at h9
                                exact (n_le (by omega) (by omega)).mp h9
                              refine lv_iconst (v := 0) hx hb dX11_copy_139 (by decide) ?_
                              refine lv_istore (lv' := [(6, .int 0), (0, .ref (gA G 65)), (1, .int a1), (2, .int a2), (3, .int a3), (4, .int a4), (5, .int a5)]) hx hb dX11_copy_140 hl (by decide) rfl (fun ls hl => ?_)
                              have hi5 : i = a5.toNatClampNeg := by omega
                              rw [show (ri S 70 t) = (ri (ri S 70 t) 67 (gi S 67)) from ((ri_id (ri S 70 t) 67).symm.trans (congrArg (fun z => ri (ri S 70 t) 67 z) (e_in (by decide) rfl)))] at hW
                              have L142 : ∀ (n : Nat) (k : Nat) (u : Nat → Int32) (H : Heap) (locs : List Loc) (ls : Array Slot), (a5.toNatClampNeg - k) < n → k ≤ a5.toNatClampNeg → (∀ j, j < k → u (40 * a3.toNatClampNeg + a4.toNatClampNeg + j) = t j) → (∀ x, x < 40 * a3.toNatClampNeg + a4.toNatClampNeg ∨ 40 * a3.toNatClampNeg + a4.toNatClampNeg + a5.toNatClampNeg ≤ x → u x = gi S 67 x) → Wd D (AW G s.heap.size) s G (ri (ri S 70 t) 67 u) H locs → lv_has ls 7 [(6, .int (nI k)), (0, .ref (gA G 65)), (1, .int a1), (2, .int a2), (3, .int a3), (4, .int a4), (5, .int a5)] → W pP l eE (headSpec wsX11_copy rmX11_copy).room s mM ([.ref (gA G 65), .int a1, .int a2, .int a3, .int a4, .int a5] : List Value).toArray bl mT cD H locs 0 0 Q0 (F0 mM 142 ls []) := by
                                intro n
                                induction n with
                                | zero => intro k u H locs ls hm; exact absurd hm (Nat.not_lt_zero _)
                                | succ n ih142 =>
                                  intro k u H locs ls hm142 hk hu0 hu1 hW hl
                                  refine lv_iload hx hb dX11_copy_142 (lv_at hl 0 rfl) ?_
                                  refine lv_iload hx hb dX11_copy_144 (lv_at hl 6 rfl) ?_
                                  refine lv_icmp_ge (tgt := 177) hx hb dX11_copy_146 (by decide) (fun c146 => ?_) (fun c146 => ?_)
                                  · skip
                                    have hge : a5.toNatClampNeg ≤ k := by
                                      have h9 := c146
                                      rw [e5] at h9
                                      exact (n_le (by omega) (by omega)).mp h9
                                    refine lv_aload_n hx hb dX11_copy_177 rfl (lv_at hl 1 rfl) ?_
                                    refine lv_iload hx hb dX11_copy_178 (lv_at hl 6 rfl) ?_
                                    refine lv_i2l hx hb dX11_copy_180 rfl ?_
                                    refine r_calll hW hA (va_runV (As := [.long (Int32.toInt64 a5)]) (rest := []) ⟨hx, hb, hml, hown, hts⟩ (t_X11_good l D G (ri (ri S 70 t) 67 u) _ hG hP (Int32.toInt64 a5)) (cwV 1 hts gX11_copy_X11_good rfl rfl rfl (by decide +kernel) ⟨Nat.le_of_ble_eq_true rfl, Nat.le_of_ble_eq_true rfl⟩) (r_preV (k := 65) hA hW (ci := 10) (C := RX11) (T := TX11) (N := 20) rfl rfl (g_lt hG (by decide)) (g_kd hG (by decide) rfl) rfl rfl) rfl rfl hl.1 rfl (lv_room (Nat.le_of_ble_eq_true rfl)) dX11_copy_181 ⟨Nat.zero_le _, Nat.zero_le _⟩) (fun r181 S181 H locs hp181 hW => ?_)
                                    obtain ⟨hs181, rfl⟩ := hp181
                                    rw [hs181] at hW
                                    rw [← hQ0]
                                    refine r_lret hx hb hr hlocks hW ?_ dX11_copy_184
                                    have e : fCopy it la le st a1 a2 a3 a4 a5 = (a5.toInt64, va_up it a3.toNatClampNeg (va_cpy (it a1.toNatClampNeg) (it a3.toNatClampNeg) a2.toNatClampNeg a4.toNatClampNeg a5.toNatClampNeg), 0) := by unfold fCopy; rw [if_pos (by omega), if_neg (by rw [← hr_a1.2.1, ← hr_a3.2.1]; omega), if_neg (by rw [← hr_a1.1, ← hr_a3.1, t_eq]; omega), if_pos (by rw [← hr_a1.2.1, ← hr_a3.2.1]; omega)]
                                    rw [e]; dsimp only
                                    have hk5 : k = a5.toNatClampNeg := by omega
                                    refine ⟨?_, rfl, rfl, (Ch.ri (Ch.ri (Ch.ri Ch.rf (by omega)) (by omega)) (by omega))⟩
                                    intro j hj
                                    obtain ⟨y1, y2, y3⟩ := hR j hj
                                    refine ⟨?_, ?_, fun x hx => ?_⟩
                                    · refine Eq.trans ?_ y1; simp only [gi_ri]; rw [up_n _ _ (by omega), up_n _ _ (by omega), up_n _ _ (by omega)]
                                    · refine Eq.trans ?_ y2; simp only [gi_ri]; rw [up_n _ _ (by omega), up_n _ _ (by omega), up_n _ _ (by omega)]
                                    · rw [(e_in (by decide) (e_is _ _ _))]
                                      by_cases hja : j = a3.toNatClampNeg
                                      · rw [hja, up_s]
                                        unfold va_cpy
                                        by_cases hin : a4.toNatClampNeg ≤ x ∧ x < a4.toNatClampNeg + a5.toNatClampNeg
                                        · rw [if_pos hin, show 40 * a3.toNatClampNeg + x = 40 * a3.toNatClampNeg + a4.toNatClampNeg + (x - a4.toNatClampNeg) by omega, hu0 _ (by omega), ht _ (by omega), ← hr_a1.2.2 _ (by omega), Nat.add_assoc]
                                        · rw [if_neg hin, hu1 _ (by omega)]; exact hr_a3.2.2 x hx
                                      · rw [up_n _ _ hja, hu1 _ (by omega)]; exact y3 x hx
                                  · skip
                                    have hlt : k < a5.toNatClampNeg := by
                                      have h9 := c146
                                      rw [e5, n_le (by omega) (by omega)] at h9
                                      omega
                                    refine lv_aload_n hx hb dX11_copy_149 rfl (lv_at hl 1 rfl) ?_
                                    refine r_getr (ci := 10) (C := RX11) (T := TX11) (N := 20) hx hb hts iX11 hown hW rfl 65 1 rfl (g_lt hG (by decide)) (g_kd hG (by decide) rfl) (by decide) q2 (fun _ h9 => h9) (hP _ (List.mem_of_getElem? (i := 61) rfl)) rfl rfl dX11_copy_150 ?_
                                    refine lv_bipush (v := 40) hx hb dX11_copy_153 (by decide) ?_
                                    refine lv_iload_n hx hb dX11_copy_155 rfl (lv_at hl 4 rfl) ?_
                                    refine lv_imul hx hb dX11_copy_156 ?_
                                    refine lv_iload hx hb dX11_copy_157 (lv_at hl 5 rfl) ?_
                                    refine lv_iadd hx hb dX11_copy_159 ?_
                                    refine lv_iload hx hb dX11_copy_160 (lv_at hl 0 rfl) ?_
                                    refine lv_iadd hx hb dX11_copy_162 ?_
                                    rw [show (((40 * a3) + a4) + (nI k) : Int32) = (nI (40 * a3.toNatClampNeg + a4.toNatClampNeg + k)) from by rw [ix40 (by omega) (by omega), n_add]]
                                    refine lv_aload_n hx hb dX11_copy_163 rfl (lv_at hl 1 rfl) ?_
                                    refine r_getr (ci := 10) (C := RX11) (T := TX11) (N := 20) hx hb hts iX11 hown hW rfl 65 5 rfl (g_lt hG (by decide)) (g_kd hG (by decide) rfl) (by decide) q3 (fun _ h9 => h9) (hP _ (List.mem_of_getElem? (i := 64) rfl)) rfl rfl dX11_copy_164 ?_
                                    refine lv_iload hx hb dX11_copy_167 (lv_at hl 0 rfl) ?_
                                    refine r_iald hx hb hW 70 rfl (g_lt hG (by decide)) (g_kd hG (by decide) rfl) (g_ix hG (c := 40) (by decide) rfl (n_inI (by omega) (by decide))) (t k) ((congrFun (e_in (by decide) (e_is _ _ _)) _).trans (congrArg t (n_clamp (by omega)))) dX11_copy_169 ?_
                                    refine r_iast hx hb hW 67 rfl (g_lt hG (by decide)) (g_kd hG (by decide) rfl) (g_ix hG (c := 320) (by decide) rfl (n_inI (by omega) (by decide))) (ri (ri S 70 t) 67 (va_up u ((nI (40 * a3.toNatClampNeg + a4.toNatClampNeg + k))).toNatClampNeg (t k))) u (e_is _ _ _) (e_is _ _ _) rfl rfl c_i dX11_copy_170 (fun H locs hW => ?_)
                                    rw [show ((nI (40 * a3.toNatClampNeg + a4.toNatClampNeg + k))).toNatClampNeg = (40 * a3.toNatClampNeg + a4.toNatClampNeg + k) from n_clamp (by omega)] at hW
                                    refine lv_iinc (v := (nI (k + 1))) (lv' := [(6, .int (nI (k + 1))), (0, .ref (gA G 65)), (1, .int a1), (2, .int a2), (3, .int a3), (4, .int a4), (5, .int a5)]) hx hb dX11_copy_171 hl (k := 0) rfl (nI_1 k) (by decide) rfl (fun ls hl => ?_)
                                    refine lv_goto (tgt := 142) hx hb dX11_copy_174 (by decide) ?_
                                    exact ih142 (k + 1) (va_up u (40 * a3.toNatClampNeg + a4.toNatClampNeg + k) (t k)) _ _ ls (by omega) (by omega) (fun j hj => by by_cases z : j = k; (subst z; exact up_s _ _ _); exact (up_n _ _ (by omega)).trans (hu0 j (by omega))) (fun x hx => (up_n _ _ (by omega)).trans (hu1 x hx)) hW (lv_sub hl [0, 1, 2, 3, 4, 5, 6] rfl)
                              exact L142 _ 0 (gi S 67) _ _ ls (Nat.lt_succ_self _) (Nat.zero_le _) (fun j hj => absurd hj (Nat.not_lt_zero _)) (fun _ _ => rfl) hW (lv_sub hl [0, 1, 2, 3, 4, 5, 6] rfl)
                            · skip
                              have hlt : i < a5.toNatClampNeg := by
                                have h9 := c109
                                rw [e5, n_le (by omega) (by omega)] at h9
                                omega
                              refine lv_aload_n hx hb dX11_copy_112 rfl (lv_at hl 1 rfl) ?_
                              refine r_getr (ci := 10) (C := RX11) (T := TX11) (N := 20) hx hb hts iX11 hown hW rfl 65 5 rfl (g_lt hG (by decide)) (g_kd hG (by decide) rfl) (by decide) q3 (fun _ h9 => h9) (hP _ (List.mem_of_getElem? (i := 64) rfl)) rfl rfl dX11_copy_113 ?_
                              refine lv_iload hx hb dX11_copy_116 (lv_at hl 0 rfl) ?_
                              refine lv_aload_n hx hb dX11_copy_118 rfl (lv_at hl 1 rfl) ?_
                              refine r_getr (ci := 10) (C := RX11) (T := TX11) (N := 20) hx hb hts iX11 hown hW rfl 65 1 rfl (g_lt hG (by decide)) (g_kd hG (by decide) rfl) (by decide) q2 (fun _ h9 => h9) (hP _ (List.mem_of_getElem? (i := 61) rfl)) rfl rfl dX11_copy_119 ?_
                              refine lv_bipush (v := 40) hx hb dX11_copy_122 (by decide) ?_
                              refine lv_iload_n hx hb dX11_copy_124 rfl (lv_at hl 2 rfl) ?_
                              refine lv_imul hx hb dX11_copy_125 ?_
                              refine lv_iload_n hx hb dX11_copy_126 rfl (lv_at hl 3 rfl) ?_
                              refine lv_iadd hx hb dX11_copy_127 ?_
                              refine lv_iload hx hb dX11_copy_128 (lv_at hl 0 rfl) ?_
                              refine lv_iadd hx hb dX11_copy_130 ?_
                              rw [show (((40 * a1) + a2) + (nI i) : Int32) = (nI (40 * a1.toNatClampNeg + a2.toNatClampNeg + i)) from by rw [ix40 (by omega) (by omega), n_add]]
                              refine r_iald hx hb hW 67 rfl (g_lt hG (by decide)) (g_kd hG (by decide) rfl) (g_ix hG (c := 320) (by decide) rfl (n_inI (by omega) (by decide))) (gi S 67 (40 * a1.toNatClampNeg + a2.toNatClampNeg + i)) ((congrFun (e_in (by decide) rfl) _).trans (congrArg (gi S 67) (n_clamp (by omega)))) dX11_copy_131 ?_
                              refine r_iast hx hb hW 70 rfl (g_lt hG (by decide)) (g_kd hG (by decide) rfl) (g_ix hG (c := 40) (by decide) rfl (n_inI (by omega) (by decide))) (ri S 70 (va_up t ((nI i)).toNatClampNeg (gi S 67 (40 * a1.toNatClampNeg + a2.toNatClampNeg + i)))) t (e_is _ _ _) (e_is _ _ _) rfl rfl c_i dX11_copy_132 (fun H locs hW => ?_)
                              rw [show ((nI i)).toNatClampNeg = i from n_clamp (by omega)] at hW
                              refine lv_iinc (v := (nI (i + 1))) (lv' := [(6, .int (nI (i + 1))), (0, .ref (gA G 65)), (1, .int a1), (2, .int a2), (3, .int a3), (4, .int a4), (5, .int a5)]) hx hb dX11_copy_133 hl (k := 0) rfl (nI_1 i) (by decide) rfl (fun ls hl => ?_)
                              refine lv_goto (tgt := 105) hx hb dX11_copy_136 (by decide) ?_
                              exact ih105 (i + 1) (va_up t i (gi S 67 (40 * a1.toNatClampNeg + a2.toNatClampNeg + i))) _ _ ls (by omega) (by omega) (fun j hj => by by_cases z : j = i; (subst z; exact up_s _ _ _); exact (up_n _ _ z).trans (ht j (by omega))) hW (lv_sub hl [0, 1, 2, 3, 4, 5, 6] rfl)
                        exact L105 _ 0 (gi S 70) _ _ ls (Nat.lt_succ_self _) (Nat.zero_le _) (fun j hj => absurd hj (Nat.not_lt_zero _)) hW (lv_sub hl [0, 1, 2, 3, 4, 5, 6] rfl)
                      · exact absurd c93 (by decide)
                    · skip
                      refine lv_if_ne (tgt := 102) hx hb dX11_copy_93 (by decide) (fun c93 => ?_) (fun c93 => ?_)
                      · exact absurd (by decide) c93
                      · skip
                        refine lv_aload_n hx hb dX11_copy_96 rfl (lv_at hl 0 rfl) ?_
                        refine lv_iconst (v := 2) hx hb dX11_copy_97 (by decide) ?_
                        refine r_calll hW hA (va_runV (As := [.int 2]) (rest := []) ⟨hx, hb, hml, hown, hts⟩ (t_X11_found l D G S _ hG hP 2) (cwV 1 hts gX11_copy_X11_found rfl rfl rfl (by decide +kernel) ⟨Nat.le_of_ble_eq_true rfl, Nat.le_of_ble_eq_true rfl⟩) (r_preV (k := 65) hA hW (ci := 10) (C := RX11) (T := TX11) (N := 20) rfl rfl (g_lt hG (by decide)) (g_kd hG (by decide) rfl) rfl rfl) rfl rfl hl.1 rfl (lv_room (Nat.le_of_ble_eq_true rfl)) dX11_copy_98 ⟨Nat.zero_le _, Nat.zero_le _⟩) (fun r98 S98 H locs hp98 hW => ?_)
                        obtain ⟨hs98, rfl⟩ := hp98
                        rw [hs98] at hW
                        rw [← hQ0]
                        refine r_lret hx hb hr hlocks hW ?_ dX11_copy_101
                        have e : fCopy it la le st a1 a2 a3 a4 a5 = (FND 2, it, 2) := by unfold fCopy; rw [if_pos (by omega), if_neg (by rw [← hr_a1.2.1, ← hr_a3.2.1]; omega), if_neg (by rw [← hr_a1.1, ← hr_a3.1, t_eq]; omega), if_neg (by rw [← hr_a1.2.1, ← hr_a3.2.1]; omega)]
                        rw [e]; dsimp only
                        refine ⟨?_, congrFun (e_is _ _ _) 4, rfl, (Ch.ri Ch.rf (by omega))⟩
                        intro j hj
                        obtain ⟨y1, y2, y3⟩ := hR j hj
                        exact ⟨(congrFun (e_in (by omega) rfl) j).trans y1, (congrFun (e_in (by omega) rfl) j).trans y2, fun i hi => (congrFun (e_in (by omega) rfl) (40 * j + i)).trans (y3 i hi)⟩
                · skip
                  refine lv_if_eq (tgt := 96) hx hb dX11_copy_77 (by decide) (fun c77 => ?_) (fun c77 => ?_)
                  · skip
                    refine lv_aload_n hx hb dX11_copy_96 rfl (lv_at hl 0 rfl) ?_
                    refine lv_iconst (v := 2) hx hb dX11_copy_97 (by decide) ?_
                    refine r_calll hW hA (va_runV (As := [.int 2]) (rest := []) ⟨hx, hb, hml, hown, hts⟩ (t_X11_found l D G S _ hG hP 2) (cwV 1 hts gX11_copy_X11_found rfl rfl rfl (by decide +kernel) ⟨Nat.le_of_ble_eq_true rfl, Nat.le_of_ble_eq_true rfl⟩) (r_preV (k := 65) hA hW (ci := 10) (C := RX11) (T := TX11) (N := 20) rfl rfl (g_lt hG (by decide)) (g_kd hG (by decide) rfl) rfl rfl) rfl rfl hl.1 rfl (lv_room (Nat.le_of_ble_eq_true rfl)) dX11_copy_98 ⟨Nat.zero_le _, Nat.zero_le _⟩) (fun r98 S98 H locs hp98 hW => ?_)
                    obtain ⟨hs98, rfl⟩ := hp98
                    rw [hs98] at hW
                    rw [← hQ0]
                    refine r_lret hx hb hr hlocks hW ?_ dX11_copy_101
                    have e : fCopy it la le st a1 a2 a3 a4 a5 = (FND 2, it, 2) := by unfold fCopy; rw [if_pos (by omega), if_neg (by rw [← hr_a1.2.1, ← hr_a3.2.1]; omega), if_neg (by rw [← hr_a1.1, ← hr_a3.1, t_eq]; omega), if_neg (by rw [← hr_a1.2.1, ← hr_a3.2.1]; omega)]
                    rw [e]; dsimp only
                    refine ⟨?_, congrFun (e_is _ _ _) 4, rfl, (Ch.ri Ch.rf (by omega))⟩
                    intro j hj
                    obtain ⟨y1, y2, y3⟩ := hR j hj
                    exact ⟨(congrFun (e_in (by omega) rfl) j).trans y1, (congrFun (e_in (by omega) rfl) j).trans y2, fun i hi => (congrFun (e_in (by omega) rfl) (40 * j + i)).trans (y3 i hi)⟩
                  · exact absurd (by decide) c77
              · skip
                rw [t_eq] at c56
                refine lv_aload_n hx hb dX11_copy_59 rfl (lv_at hl 0 rfl) ?_
                refine lv_iconst (v := 5) hx hb dX11_copy_60 (by decide) ?_
                refine r_calll hW hA (va_runV (As := [.int 5]) (rest := []) ⟨hx, hb, hml, hown, hts⟩ (t_X11_found l D G S _ hG hP 5) (cwV 1 hts gX11_copy_X11_found rfl rfl rfl (by decide +kernel) ⟨Nat.le_of_ble_eq_true rfl, Nat.le_of_ble_eq_true rfl⟩) (r_preV (k := 65) hA hW (ci := 10) (C := RX11) (T := TX11) (N := 20) rfl rfl (g_lt hG (by decide)) (g_kd hG (by decide) rfl) rfl rfl) rfl rfl hl.1 rfl (lv_room (Nat.le_of_ble_eq_true rfl)) dX11_copy_61 ⟨Nat.zero_le _, Nat.zero_le _⟩) (fun r61 S61 H locs hp61 hW => ?_)
                obtain ⟨hs61, rfl⟩ := hp61
                rw [hs61] at hW
                rw [← hQ0]
                refine r_lret hx hb hr hlocks hW ?_ dX11_copy_64
                have e : fCopy it la le st a1 a2 a3 a4 a5 = (FND 5, it, 5) := by unfold fCopy; rw [if_pos (by omega), if_neg (by rw [← hr_a1.2.1, ← hr_a3.2.1]; omega), if_pos (by rw [← hr_a1.1, ← hr_a3.1, t_eq]; exact c56)]
                rw [e]; dsimp only
                refine ⟨?_, congrFun (e_is _ _ _) 4, rfl, (Ch.ri Ch.rf (by omega))⟩
                intro j hj
                obtain ⟨y1, y2, y3⟩ := hR j hj
                exact ⟨(congrFun (e_in (by omega) rfl) j).trans y1, (congrFun (e_in (by omega) rfl) j).trans y2, fun i hi => (congrFun (e_in (by omega) rfl) (40 * j + i)).trans (y3 i hi)⟩
            · skip
              rw [t_le, show (0 : Int32).toInt = 0 from by decide] at c35
              refine lv_aload_n hx hb dX11_copy_38 rfl (lv_at hl 0 rfl) ?_
              refine lv_iconst (v := 1) hx hb dX11_copy_39 (by decide) ?_
              refine r_calll hW hA (va_runV (As := [.int 1]) (rest := []) ⟨hx, hb, hml, hown, hts⟩ (t_X11_found l D G S _ hG hP 1) (cwV 1 hts gX11_copy_X11_found rfl rfl rfl (by decide +kernel) ⟨Nat.le_of_ble_eq_true rfl, Nat.le_of_ble_eq_true rfl⟩) (r_preV (k := 65) hA hW (ci := 10) (C := RX11) (T := TX11) (N := 20) rfl rfl (g_lt hG (by decide)) (g_kd hG (by decide) rfl) rfl rfl) rfl rfl hl.1 rfl (lv_room (Nat.le_of_ble_eq_true rfl)) dX11_copy_40 ⟨Nat.zero_le _, Nat.zero_le _⟩) (fun r40 S40 H locs hp40 hW => ?_)
              obtain ⟨hs40, rfl⟩ := hp40
              rw [hs40] at hW
              rw [← hQ0]
              refine r_lret hx hb hr hlocks hW ?_ dX11_copy_43
              have e : fCopy it la le st a1 a2 a3 a4 a5 = (FND 1, it, 1) := by unfold fCopy; rw [if_pos (by omega), if_pos (by rw [← hr_a1.2.1, ← hr_a3.2.1]; rw [← hr_a1.2.1] at hle_a1; rw [← hr_a3.2.1] at hle_a3; omega)]
              rw [e]; dsimp only
              refine ⟨?_, congrFun (e_is _ _ _) 4, rfl, (Ch.ri Ch.rf (by omega))⟩
              intro j hj
              obtain ⟨y1, y2, y3⟩ := hR j hj
              exact ⟨(congrFun (e_in (by omega) rfl) j).trans y1, (congrFun (e_in (by omega) rfl) j).trans y2, fun i hi => (congrFun (e_in (by omega) rfl) (40 * j + i)).trans (y3 i hi)⟩
        · exact absurd c13 (by decide)
      · skip
        refine lv_if_ne (tgt := 20) hx hb dX11_copy_13 (by decide) (fun c13 => ?_) (fun c13 => ?_)
        · exact absurd (by decide) c13
        · skip
          refine lv_ldc2 (v := (-9000000000000000001)) hx hb hown q4 dX11_copy_16 ?_
          rw [← hQ0]
          refine r_lret hx hb hr hlocks hW ?_ dX11_copy_19
          have e : fCopy it la le st a1 a2 a3 a4 a5 = (BADL, it, st) := by unfold fCopy; rw [if_neg (by omega)]
          rw [e]; dsimp only
          exact ⟨hR, hst, rfl, Ch.rf⟩
  · skip
    refine lv_if_eq (tgt := 16) hx hb dX11_copy_5 (by decide) (fun c5 => ?_) (fun c5 => ?_)
    · skip
      refine lv_ldc2 (v := (-9000000000000000001)) hx hb hown q4 dX11_copy_16 ?_
      rw [← hQ0]
      refine r_lret hx hb hr hlocks hW ?_ dX11_copy_19
      have e : fCopy it la le st a1 a2 a3 a4 a5 = (BADL, it, st) := by unfold fCopy; rw [if_neg (by omega)]
      rw [e]; dsimp only
      exact ⟨hR, hst, rfl, Ch.rf⟩
    · exact absurd (by decide) c5
