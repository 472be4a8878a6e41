theorem cpy_cg {f f' g g' : Nat → Int32} {sp dp n k : Nat} (hf : ∀ j, j < 40 → f j = f' j) (hg : ∀ j, j < 40 → g j = g' j) (h1 : sp + n ≤ 40) (hk : k < 40) : va_cpy f g sp dp n k = va_cpy f' g' sp dp n k := by
  unfold va_cpy
  split
  · exact hf _ (by omega)
  · exact hg _ hk
theorem sh24 (v : Int32) : (v <<< ((24 : Int32) &&& 31)) >>> ((24 : Int32) &&& 31) = v.toInt8.toInt32 := by
  apply Int32.toBitVec_inj.mp
  show ((v.toBitVec <<< 24).sshiftRight 24) = (v.toBitVec.signExtend 8).signExtend 32
  ext i hi
  simp [BitVec.getElem_sshiftRight, BitVec.getElem_signExtend, BitVec.getElem_shiftLeft, BitVec.msb_eq_getLsbD_last, BitVec.getLsbD_signExtend, BitVec.getLsbD_shiftLeft]
  by_cases h8 : i < 8
  · simp [h8, show 24 + i < 32 by omega, show ¬ 24 + i < 24 by omega, show i < 32 by omega]
  · simp [h8, show ¬ 24 + i < 32 by omega]
theorem sh16 (v : Int32) : (v <<< ((16 : Int32) &&& 31)) >>> ((16 : Int32) &&& 31) = v.toInt16.toInt32 := by
  apply Int32.toBitVec_inj.mp
  show ((v.toBitVec <<< 16).sshiftRight 16) = (v.toBitVec.signExtend 16).signExtend 32
  ext i hi
  simp [BitVec.getElem_sshiftRight, BitVec.getElem_signExtend, BitVec.getElem_shiftLeft, BitVec.msb_eq_getLsbD_last, BitVec.getLsbD_signExtend, BitVec.getLsbD_shiftLeft]
  by_cases h8 : i < 16
  · simp [h8, show 16 + i < 32 by omega, show ¬ 16 + i < 16 by omega, show i < 32 by omega]
  · simp [h8, show ¬ 16 + i < 32 by omega]
theorem ix40 {a b : Int32} (ha : 0 ≤ a.toInt) (hb : 0 ≤ b.toInt) : (40 : Int32) * a + b = nI (40 * a.toNatClampNeg + b.toNatClampNeg) := by
  have e1 := n_nI ha
  have e2 := n_nI hb
  generalize a.toNatClampNeg = x at e1 ⊢
  generalize b.toNatClampNeg = y at e2 ⊢
  rw [e1, e2, show (40 : Int32) = nI 40 from by decide, n_mul, n_add]
/-- the rows of the reference -/
def RowsM (S : Sg) (it : Nat → Nat → Int32) (la le : Nat → Int32) : Prop := ∀ r, r < 8 → gi S 68 r = la r ∧ gi S 69 r = le r ∧ ∀ j, j < 40 → gi S 67 (40 * r + j) = it r j
def rmX10_copy : Jvm.Room := { frames := 1, cells := 0, slots := 0, locals := 40 }
set_option maxHeartbeats 4000000 in
set_option maxRecDepth 100000 in
theorem t_X10_copy (l : Launch) (D : Dc) (G : Gg) (S : Sg) (z : Nat) (hG : GrG G) (hP : GrP G S) (it : Nat → Nat → Int32) (la le : Nat → Int32) (hR : RowsX S it la le) (hL : LeOK le) (st : Int32) (hst : gi S 0 9 = st) (a1 a2 a3 a4 a5 : Int32) : ML l yX10_copy wsX10_copy rmX10_copy D G S z [.ref (gA G 0), .int a1, .int a2, .int a3, .int a4, .int a5] (fun r S' => RowsX S' (fCopy it la le st a1 a2 a3 a4 a5).2.1 la le ∧ gi S' 0 9 = (fCopy it la le st a1 a2 a3 a4 a5).2.2 ∧ r = (fCopy it la le st a1 a2 a3 a4 a5).1 ∧ Ch (fun k => k = 0 ∨ (2 ≤ k ∧ k ≤ 11)) S S') := by
  refine Met.ofW (cc := cX10_copy) (maxL := 6) (ret := (some .long)) (by decide +kernel) rfl ?_
  intro pP eE s mM args bl mT cD s₁ bD hml hv
  obtain ⟨rfl, hv⟩ := hv
  have hz := hv.1
  subst hz
  have hx := bD.exec
  have hb := bD.bytes
  have hr := bD.returns
  have hts := atoms_spec (ws := wsX10_copy) bD.pre
  have hown : s.vm.findClass RX10 = some mM.cls := findClass_of_methodNamed bD.named
  have hlocks := bD.notSynchronized
  have hW := Wd.start hv
  have hA : ∀ q, s.heap.size ≤ q → AW G s.heap.size q := fun q h => Or.inr h
  have hl := lv_entry ([.ref (gA G 0), .int a1, .int a2, .int a3, .int a4, .int a5]) (n := 6) (Nat.le_of_ble_eq_true rfl)
  rw [lg_entry_eq]
  generalize (lg_sl ([.ref (gA G 0), .int a1, .int a2, .int a3, .int a4, .int a5]) ++ List.replicate (6 - (lg_sl ([.ref (gA G 0), .int a1, .int a2, .int a3, .int a4, .int a5])).length) Slot.unset).toArray = ls at hl ⊢
  have hl : lv_has ls 6 [(0, .ref (gA G 0)), (1, .int a1), (2, .int a2), (3, .int a3), (4, .int a4), (5, .int a5)] := hl
  have q0 := hts (.fieldLink RX10 18 "WoodForTwo" "sizes" "[I") (List.mem_of_getElem? (i := 2) rfl)
  have q1 := hts (.fieldLink RX10 14 "WoodForTwo" "lanes" "[I") (List.mem_of_getElem? (i := 3) rfl)
  have q2 := hts (.fieldLink RX10 11 "WoodForTwo" "items" "[[I") (List.mem_of_getElem? (i := 4) rfl)
  have q3 := hts (.methodLink RX10 88 arraycopyName) (List.mem_of_getElem? (i := 5) rfl)
  have q4 := hts (.native arraycopyName) (List.mem_of_getElem? (i := 6) rfl)
  have q5 := hts (.static arraycopyName) (List.mem_of_getElem? (i := 7) rfl)
  have q6 := hts (.initialized "java/lang/System") (List.mem_of_getElem? (i := 8) rfl)
  have q7 := hts (.constantLong RX10 66 (-9000000000000000001)) (List.mem_of_getElem? (i := 1) rfl)
  have iX10 : ∀ w ∈ wsX100, w ∈ wsX10_copy := fun _ h => List.mem_cons_of_mem _ (List.mem_append_right _ (h))
  refine lv_iload_n hx hb dX10_copy_0 rfl (lv_at hl 1 rfl) ?_
  refine r_calli hW hA (va_runS (As := [.int a1]) (rest := []) ⟨hx, hb, hml, hown, hts⟩ (t_X10_isRow l D G S _ a1) (va_cwS 1 hts gX10_copy_X10_isRow rfl rfl rfl (by decide +kernel) ⟨Nat.le_of_ble_eq_true rfl, Nat.le_of_ble_eq_true rfl⟩) (r_preS hA hW) rfl rfl hl.1 rfl (lv_room (Nat.le_of_ble_eq_true rfl)) dX10_copy_1 ⟨Nat.zero_le _, Nat.zero_le _⟩) (fun r1 S1 H locs hp1 hW => ?_)
  obtain ⟨hs1, hp1⟩ := hp1
  rw [hs1] at hW
  rcases hp1 with ⟨rfl, h1⟩ | ⟨rfl, h1⟩
  · skip
    refine lv_if_eq (tgt := 14) hx hb dX10_copy_4 (by decide) (fun c4 => ?_) (fun c4 => ?_)
    · exact absurd c4 (by decide)
    · skip
      refine lv_iload_n hx hb dX10_copy_7 rfl (lv_at hl 3 rfl) ?_
      refine r_calli hW hA (va_runS (As := [.int a3]) (rest := []) ⟨hx, hb, hml, hown, hts⟩ (t_X10_isRow l D G S _ a3) (va_cwS 1 hts gX10_copy_X10_isRow rfl rfl rfl (by decide +kernel) ⟨Nat.le_of_ble_eq_true rfl, Nat.le_of_ble_eq_true rfl⟩) (r_preS hA hW) rfl rfl hl.1 rfl (lv_room (Nat.le_of_ble_eq_true rfl)) dX10_copy_8 ⟨Nat.zero_le _, Nat.zero_le _⟩) (fun r8 S8 H locs hp8 hW => ?_)
      obtain ⟨hs8, hp8⟩ := hp8
      rw [hs8] at hW
      rcases hp8 with ⟨rfl, h8⟩ | ⟨rfl, h8⟩
      · skip
        refine lv_if_ne (tgt := 18) hx hb dX10_copy_11 (by decide) (fun c11 => ?_) (fun c11 => ?_)
        · skip
          have hn_a1 := n_nat (x := a1) (by omega)
          have hr_a1 := hR a1.toNatClampNeg (by omega)
          have hle_a1 := hL a1.toNatClampNeg (by omega)
          have hn_a3 := n_nat (x := a3) (by omega)
          have hr_a3 := hR a3.toNatClampNeg (by omega)
          have hle_a3 := hL a3.toNatClampNeg (by omega)
          refine lv_aload_n hx hb dX10_copy_18 rfl (lv_at hl 0 rfl) ?_
          refine r_getr (ci := 9) (C := RX10) (T := TX10) (N := 10) hx hb hts iX10 hown hW rfl 0 2 rfl (g_lt hG (by decide)) (g_kd hG (by decide) rfl) (by decide) q0 (fun _ h9 => h9) (hP _ (List.mem_of_getElem? (i := 2) rfl)) rfl rfl dX10_copy_19 ?_
          refine lv_iload_n hx hb dX10_copy_22 rfl (lv_at hl 1 rfl) ?_
          refine r_iald hx hb hW 11 rfl (g_lt hG (by decide)) (g_kd hG (by decide) rfl) (g_ix hG (c := 8) (by decide) rfl (t_in (by omega) (by omega))) ((gi S 11) (a1).toNatClampNeg) rfl dX10_copy_23 ?_
          refine lv_iconst (v := (-1)) hx hb dX10_copy_24 (by decide) ?_
          refine lv_icmp_eq (tgt := 38) hx hb dX10_copy_25 (by decide) (fun c25 => ?_) (fun c25 => ?_)
          · skip
            rw [t_eq, show ((-1) : Int32).toInt = -1 from by decide] at c25
            refine lv_aload_n hx hb dX10_copy_38 rfl (lv_at hl 0 rfl) ?_
            refine lv_iconst (v := 1) hx hb dX10_copy_39 (by decide) ?_
            refine r_calll hW hA (va_runV (As := [.int 1]) (rest := []) ⟨hx, hb, hml, hown, hts⟩ (t_X10_found l D G S _ hG hP 1) (cwV 1 hts gX10_copy_X10_found rfl rfl rfl (by decide +kernel) ⟨Nat.le_of_ble_eq_true rfl, Nat.le_of_ble_eq_true rfl⟩) (r_preV (k := 0) hA hW (ci := 9) (C := RX10) (T := TX10) (N := 10) rfl rfl (g_lt hG (by decide)) (g_kd hG (by decide) rfl) rfl rfl) rfl rfl hl.1 rfl (lv_room (Nat.le_of_ble_eq_true rfl)) dX10_copy_40 ⟨Nat.zero_le _, Nat.zero_le _⟩) (fun r40 S40 H locs hp40 hW => ?_)
            obtain ⟨hs40, rfl⟩ := hp40
            rw [hs40] at hW
            refine r_lret hx hb hr hlocks hW ?_ dX10_copy_43
            have e : fCopy it la le st a1 a2 a3 a4 a5 = (FND 1, it, 1) := by unfold fCopy; rw [if_pos (by omega), if_pos (by rw [← hr_a1.2.1, ← hr_a3.2.1]; omega)]
            rw [e]; dsimp only
            refine ⟨?_, congrFun (e_is _ _ _) 9, rfl, (Ch.ri Ch.rf (by omega))⟩
            intro j hj
            obtain ⟨y1, y2, y3⟩ := hR j hj
            exact ⟨(congrFun (e_in (by omega) rfl) j).trans y1, (congrFun (e_in (by omega) rfl) j).trans y2, fun i hi => (congrFun (e_in (by omega) rfl) i).trans (y3 i hi)⟩
          · skip
            rw [t_eq, show ((-1) : Int32).toInt = -1 from by decide] at c25
            refine lv_aload_n hx hb dX10_copy_28 rfl (lv_at hl 0 rfl) ?_
            refine r_getr (ci := 9) (C := RX10) (T := TX10) (N := 10) hx hb hts iX10 hown hW rfl 0 2 rfl (g_lt hG (by decide)) (g_kd hG (by decide) rfl) (by decide) q0 (fun _ h9 => h9) (hP _ (List.mem_of_getElem? (i := 2) rfl)) rfl rfl dX10_copy_29 ?_
            refine lv_iload_n hx hb dX10_copy_32 rfl (lv_at hl 3 rfl) ?_
            refine r_iald hx hb hW 11 rfl (g_lt hG (by decide)) (g_kd hG (by decide) rfl) (g_ix hG (c := 8) (by decide) rfl (t_in (by omega) (by omega))) ((gi S 11) (a3).toNatClampNeg) rfl dX10_copy_33 ?_
            refine lv_iconst (v := (-1)) hx hb dX10_copy_34 (by decide) ?_
            refine lv_icmp_ne (tgt := 44) hx hb dX10_copy_35 (by decide) (fun c35 => ?_) (fun c35 => ?_)
            · skip
              rw [t_eq, show ((-1) : Int32).toInt = -1 from by decide] at c35
              refine lv_aload_n hx hb dX10_copy_44 rfl (lv_at hl 0 rfl) ?_
              refine r_getr (ci := 9) (C := RX10) (T := TX10) (N := 10) hx hb hts iX10 hown hW rfl 0 1 rfl (g_lt hG (by decide)) (g_kd hG (by decide) rfl) (by decide) q1 (fun _ h9 => h9) (hP _ (List.mem_of_getElem? (i := 1) rfl)) rfl rfl dX10_copy_45 ?_
              refine lv_iload_n hx hb dX10_copy_48 rfl (lv_at hl 1 rfl) ?_
              refine r_iald hx hb hW 10 rfl (g_lt hG (by decide)) (g_kd hG (by decide) rfl) (g_ix hG (c := 8) (by decide) rfl (t_in (by omega) (by omega))) ((gi S 10) (a1).toNatClampNeg) rfl dX10_copy_49 ?_
              refine lv_aload_n hx hb dX10_copy_50 rfl (lv_at hl 0 rfl) ?_
              refine r_getr (ci := 9) (C := RX10) (T := TX10) (N := 10) hx hb hts iX10 hown hW rfl 0 1 rfl (g_lt hG (by decide)) (g_kd hG (by decide) rfl) (by decide) q1 (fun _ h9 => h9) (hP _ (List.mem_of_getElem? (i := 1) rfl)) rfl rfl dX10_copy_51 ?_
              refine lv_iload_n hx hb dX10_copy_54 rfl (lv_at hl 3 rfl) ?_
              refine r_iald hx hb hW 10 rfl (g_lt hG (by decide)) (g_kd hG (by decide) rfl) (g_ix hG (c := 8) (by decide) rfl (t_in (by omega) (by omega))) ((gi S 10) (a3).toNatClampNeg) rfl dX10_copy_55 ?_
              refine lv_icmp_eq (tgt := 65) hx hb dX10_copy_56 (by decide) (fun c56 => ?_) (fun c56 => ?_)
              · skip
                rw [t_eq] at c56
                have hz1 : 0 ≤ (gi S 11 a1.toNatClampNeg).toInt ∧ (gi S 11 a1.toNatClampNeg).toInt ≤ 40 := by rw [hr_a1.2.1] at c25 ⊢; omega
                have hz3 : 0 ≤ (gi S 11 a3.toNatClampNeg).toInt ∧ (gi S 11 a3.toNatClampNeg).toInt ≤ 40 := by rw [hr_a3.2.1] at c35 ⊢; omega
                refine lv_aload_n hx hb dX10_copy_65 rfl (lv_at hl 0 rfl) ?_
                refine r_getr (ci := 9) (C := RX10) (T := TX10) (N := 10) hx hb hts iX10 hown hW rfl 0 2 rfl (g_lt hG (by decide)) (g_kd hG (by decide) rfl) (by decide) q0 (fun _ h9 => h9) (hP _ (List.mem_of_getElem? (i := 2) rfl)) rfl rfl dX10_copy_66 ?_
                refine lv_iload_n hx hb dX10_copy_69 rfl (lv_at hl 1 rfl) ?_
                refine r_iald hx hb hW 11 rfl (g_lt hG (by decide)) (g_kd hG (by decide) rfl) (g_ix hG (c := 8) (by decide) rfl (t_in (by omega) (by omega))) ((gi S 11) (a1).toNatClampNeg) rfl dX10_copy_70 ?_
                refine lv_iload_n hx hb dX10_copy_71 rfl (lv_at hl 2 rfl) ?_
                refine lv_iload hx hb dX10_copy_72 (lv_at hl 5 rfl) ?_
                refine r_calli hW hA (va_runS (As := [.int ((gi S 11) (a1).toNatClampNeg), .int a2, .int a5]) (rest := []) ⟨hx, hb, hml, hown, hts⟩ (t_X10_isSpan l D G S _ ((gi S 11) (a1).toNatClampNeg) a2 a5 hz1.1 hz1.2) (va_cwS 3 hts gX10_copy_X10_isSpan rfl rfl rfl (by decide +kernel) ⟨Nat.le_of_ble_eq_true rfl, Nat.le_of_ble_eq_true rfl⟩) (r_preS hA hW) rfl rfl hl.1 rfl (lv_room (Nat.le_of_ble_eq_true rfl)) dX10_copy_74 ⟨Nat.zero_le _, Nat.zero_le _⟩) (fun r74 S74 H locs hp74 hW => ?_)
                obtain ⟨hs74, hp74⟩ := hp74
                rw [hs74] at hW
                rcases hp74 with ⟨rfl, h74⟩ | ⟨rfl, h74⟩
                · skip
                  refine lv_if_eq (tgt := 96) hx hb dX10_copy_77 (by decide) (fun c77 => ?_) (fun c77 => ?_)
                  · exact absurd c77 (by decide)
                  · skip
                    refine lv_aload_n hx hb dX10_copy_80 rfl (lv_at hl 0 rfl) ?_
                    refine r_getr (ci := 9) (C := RX10) (T := TX10) (N := 10) hx hb hts iX10 hown hW rfl 0 2 rfl (g_lt hG (by decide)) (g_kd hG (by decide) rfl) (by decide) q0 (fun _ h9 => h9) (hP _ (List.mem_of_getElem? (i := 2) rfl)) rfl rfl dX10_copy_81 ?_
                    refine lv_iload_n hx hb dX10_copy_84 rfl (lv_at hl 3 rfl) ?_
                    refine r_iald hx hb hW 11 rfl (g_lt hG (by decide)) (g_kd hG (by decide) rfl) (g_ix hG (c := 8) (by decide) rfl (t_in (by omega) (by omega))) ((gi S 11) (a3).toNatClampNeg) rfl dX10_copy_85 ?_
                    refine lv_iload hx hb dX10_copy_86 (lv_at hl 4 rfl) ?_
                    refine lv_iload hx hb dX10_copy_88 (lv_at hl 5 rfl) ?_
                    refine r_calli hW hA (va_runS (As := [.int ((gi S 11) (a3).toNatClampNeg), .int a4, .int a5]) (rest := []) ⟨hx, hb, hml, hown, hts⟩ (t_X10_isSpan l D G S _ ((gi S 11) (a3).toNatClampNeg) a4 a5 hz3.1 hz3.2) (va_cwS 3 hts gX10_copy_X10_isSpan rfl rfl rfl (by decide +kernel) ⟨Nat.le_of_ble_eq_true rfl, Nat.le_of_ble_eq_true rfl⟩) (r_preS hA hW) rfl rfl hl.1 rfl (lv_room (Nat.le_of_ble_eq_true rfl)) dX10_copy_90 ⟨Nat.zero_le _, Nat.zero_le _⟩) (fun r90 S90 H locs hp90 hW => ?_)
                    obtain ⟨hs90, hp90⟩ := hp90
                    rw [hs90] at hW
                    rcases hp90 with ⟨rfl, h90⟩ | ⟨rfl, h90⟩
                    · skip
                      refine lv_if_ne (tgt := 102) hx hb dX10_copy_93 (by decide) (fun c93 => ?_) (fun c93 => ?_)
                      · skip
                        have hn_a2 := n_nat (x := a2) (by omega)
                        have hn_a4 := n_nat (x := a4) (by omega)
                        have hn_a5 := n_nat (x := a5) (by omega)
                        refine lv_aload_n hx hb dX10_copy_102 rfl (lv_at hl 0 rfl) ?_
                        refine r_getr (ci := 9) (C := RX10) (T := TX10) (N := 10) hx hb hts iX10 hown hW rfl 0 0 rfl (g_lt hG (by decide)) (g_kd hG (by decide) rfl) (by decide) q2 (fun _ h9 => h9) (hP _ (List.mem_of_getElem? (i := 0) rfl)) rfl rfl dX10_copy_103 ?_
                        refine lv_iload_n hx hb dX10_copy_106 rfl (lv_at hl 1 rfl) ?_
                        refine r_aald hx hb hW 1 rfl (g_lt hG (by decide)) 16 5 (g_kd hG (by decide) rfl) rfl rfl (fun _ _ _ _ => rfl) (g_ix hG (c := 8) (by decide) rfl (t_in (by omega) (by omega))) (some (gA G (2 + a1.toNatClampNeg))) (rw_lk hP (by omega)) dX10_copy_107 ?_
                        refine W.eq (g2 := F0 mM 108 ls [.ref (gA G (2 + a1.toNatClampNeg))]) rfl ?_
                        refine lv_iload_n hx hb dX10_copy_108 rfl (lv_at hl 2 rfl) ?_
                        refine lv_aload_n hx hb dX10_copy_109 rfl (lv_at hl 0 rfl) ?_
                        refine r_getr (ci := 9) (C := RX10) (T := TX10) (N := 10) hx hb hts iX10 hown hW rfl 0 0 rfl (g_lt hG (by decide)) (g_kd hG (by decide) rfl) (by decide) q2 (fun _ h9 => h9) (hP _ (List.mem_of_getElem? (i := 0) rfl)) rfl rfl dX10_copy_110 ?_
                        refine lv_iload_n hx hb dX10_copy_113 rfl (lv_at hl 3 rfl) ?_
                        refine r_aald hx hb hW 1 rfl (g_lt hG (by decide)) 16 5 (g_kd hG (by decide) rfl) rfl rfl (fun _ _ _ _ => rfl) (g_ix hG (c := 8) (by decide) rfl (t_in (by omega) (by omega))) (some (gA G (2 + a3.toNatClampNeg))) (rw_lk hP (by omega)) dX10_copy_114 ?_
                        refine W.eq (g2 := F0 mM 115 ls [.ref (gA G (2 + a3.toNatClampNeg)), .int a2, .ref (gA G (2 + a1.toNatClampNeg))]) rfl ?_
                        refine lv_iload hx hb dX10_copy_115 (lv_at hl 4 rfl) ?_
                        refine lv_iload hx hb dX10_copy_117 (lv_at hl 5 rfl) ?_
                        refine r_copyi hx hb (hml.trans hl.1.symm) hown q3 q4 q5 q6 hW (2 + a1.toNatClampNeg) (2 + a3.toNatClampNeg) rfl rfl (rw_lt hG (r := a1.toNatClampNeg) (by omega)) (rw_lt hG (r := a3.toNatClampNeg) (by omega)) (rw_kd hG (r := a1.toNatClampNeg) (by omega)) (rw_kd hG (r := a3.toNatClampNeg) (by omega)) (by rw [t_lt, show (0 : Int32).toInt = 0 from by decide]; omega) (by rw [t_lt, show (0 : Int32).toInt = 0 from by decide]; omega) (by rw [t_lt, show (0 : Int32).toInt = 0 from by decide]; omega) (by rw [rw_z hG (by omega)]; omega) (by rw [rw_z hG (by omega)]; omega) (Nat.le_of_ble_eq_true rfl) (Nat.le_of_ble_eq_true rfl) (ri S (2 + a3.toNatClampNeg) (va_cpy (gi S (2 + a1.toNatClampNeg)) (gi S (2 + a3.toNatClampNeg)) (a2).toNatClampNeg (a4).toNatClampNeg (a5).toNatClampNeg)) (gi S (2 + a3.toNatClampNeg)) (gi S (2 + a1.toNatClampNeg)) rfl rfl (e_is _ _ _) rfl rfl c_i0 dX10_copy_119 (fun H locs hW => ?_)
                        refine lv_aload_n hx hb dX10_copy_122 rfl (lv_at hl 0 rfl) ?_
                        refine lv_iload hx hb dX10_copy_123 (lv_at hl 5 rfl) ?_
                        refine lv_i2l hx hb dX10_copy_125 rfl ?_
                        refine r_calll hW hA (va_runV (As := [.long (Int32.toInt64 a5)]) (rest := []) ⟨hx, hb, hml, hown, hts⟩ (t_X10_fine l D G (ri S (2 + a3.toNatClampNeg) (va_cpy (gi S (2 + a1.toNatClampNeg)) (gi S (2 + a3.toNatClampNeg)) (a2).toNatClampNeg (a4).toNatClampNeg (a5).toNatClampNeg)) _ hG hP (Int32.toInt64 a5)) (cwV 1 hts gX10_copy_X10_fine rfl rfl rfl (by decide +kernel) ⟨Nat.le_of_ble_eq_true rfl, Nat.le_of_ble_eq_true rfl⟩) (r_preV (k := 0) hA hW (ci := 9) (C := RX10) (T := TX10) (N := 10) rfl rfl (g_lt hG (by decide)) (g_kd hG (by decide) rfl) rfl rfl) rfl rfl hl.1 rfl (lv_room (Nat.le_of_ble_eq_true rfl)) dX10_copy_126 ⟨Nat.zero_le _, Nat.zero_le _⟩) (fun r126 S126 H locs hp126 hW => ?_)
                        obtain ⟨hs126, rfl⟩ := hp126
                        rw [hs126] at hW
                        refine r_lret hx hb hr hlocks hW ?_ dX10_copy_129
                        have e : fCopy it la le st a1 a2 a3 a4 a5 = (a5.toInt64, va_up it a3.toNatClampNeg (va_cpy (it a1.toNatClampNeg) (it a3.toNatClampNeg) a2.toNatClampNeg a4.toNatClampNeg a5.toNatClampNeg), 0) := by unfold fCopy; rw [if_pos (by omega), if_neg (by rw [← hr_a1.2.1, ← hr_a3.2.1]; omega), if_neg (by rw [← hr_a1.1, ← hr_a3.1, t_eq]; omega), if_pos (by rw [← hr_a1.2.1, ← hr_a3.2.1]; omega)]
                        rw [e]; dsimp only
                        refine ⟨?_, rfl, rfl, (Ch.ri (Ch.ri Ch.rf (by omega)) (by omega))⟩
                        intro j hj
                        obtain ⟨y1, y2, y3⟩ := hR j hj
                        refine ⟨?_, ?_, fun i hi => ?_⟩
                        · refine Eq.trans ?_ y1; simp only [gi_ri]; rw [up_n _ _ (by omega), up_n _ _ (by omega)]
                        · refine Eq.trans ?_ y2; simp only [gi_ri]; rw [up_n _ _ (by omega), up_n _ _ (by omega)]
                        · by_cases hja : j = a3.toNatClampNeg
                          · rw [hja, (e_in (by omega) (e_is _ _ _)), up_s]; exact cpy_cg hr_a1.2.2 hr_a3.2.2 (by omega) hi
                          · rw [up_n _ _ hja]; refine Eq.trans ?_ (y3 i hi)
                            simp only [gi_ri]
                            rw [up_n _ _ (by omega), up_n _ _ (by omega)]
                      · exact absurd c93 (by decide)
                    · skip
                      refine lv_if_ne (tgt := 102) hx hb dX10_copy_93 (by decide) (fun c93 => ?_) (fun c93 => ?_)
                      · exact absurd (by decide) c93
                      · skip
                        refine lv_aload_n hx hb dX10_copy_96 rfl (lv_at hl 0 rfl) ?_
                        refine lv_iconst (v := 2) hx hb dX10_copy_97 (by decide) ?_
                        refine r_calll hW hA (va_runV (As := [.int 2]) (rest := []) ⟨hx, hb, hml, hown, hts⟩ (t_X10_found l D G S _ hG hP 2) (cwV 1 hts gX10_copy_X10_found rfl rfl rfl (by decide +kernel) ⟨Nat.le_of_ble_eq_true rfl, Nat.le_of_ble_eq_true rfl⟩) (r_preV (k := 0) hA hW (ci := 9) (C := RX10) (T := TX10) (N := 10) rfl rfl (g_lt hG (by decide)) (g_kd hG (by decide) rfl) rfl rfl) rfl rfl hl.1 rfl (lv_room (Nat.le_of_ble_eq_true rfl)) dX10_copy_98 ⟨Nat.zero_le _, Nat.zero_le _⟩) (fun r98 S98 H locs hp98 hW => ?_)
                        obtain ⟨hs98, rfl⟩ := hp98
                        rw [hs98] at hW
                        refine r_lret hx hb hr hlocks hW ?_ dX10_copy_101
                        have e : fCopy it la le st a1 a2 a3 a4 a5 = (FND 2, it, 2) := by unfold fCopy; rw [if_pos (by omega), if_neg (by rw [← hr_a1.2.1, ← hr_a3.2.1]; omega), if_neg (by rw [← hr_a1.1, ← hr_a3.1, t_eq]; omega), if_neg (by rw [← hr_a1.2.1, ← hr_a3.2.1]; omega)]
                        rw [e]; dsimp only
                        refine ⟨?_, congrFun (e_is _ _ _) 9, rfl, (Ch.ri Ch.rf (by omega))⟩
                        intro j hj
                        obtain ⟨y1, y2, y3⟩ := hR j hj
                        exact ⟨(congrFun (e_in (by omega) rfl) j).trans y1, (congrFun (e_in (by omega) rfl) j).trans y2, fun i hi => (congrFun (e_in (by omega) rfl) i).trans (y3 i hi)⟩
                · skip
                  refine lv_if_eq (tgt := 96) hx hb dX10_copy_77 (by decide) (fun c77 => ?_) (fun c77 => ?_)
                  · skip
                    refine lv_aload_n hx hb dX10_copy_96 rfl (lv_at hl 0 rfl) ?_
                    refine lv_iconst (v := 2) hx hb dX10_copy_97 (by decide) ?_
                    refine r_calll hW hA (va_runV (As := [.int 2]) (rest := []) ⟨hx, hb, hml, hown, hts⟩ (t_X10_found l D G S _ hG hP 2) (cwV 1 hts gX10_copy_X10_found rfl rfl rfl (by decide +kernel) ⟨Nat.le_of_ble_eq_true rfl, Nat.le_of_ble_eq_true rfl⟩) (r_preV (k := 0) hA hW (ci := 9) (C := RX10) (T := TX10) (N := 10) rfl rfl (g_lt hG (by decide)) (g_kd hG (by decide) rfl) rfl rfl) rfl rfl hl.1 rfl (lv_room (Nat.le_of_ble_eq_true rfl)) dX10_copy_98 ⟨Nat.zero_le _, Nat.zero_le _⟩) (fun r98 S98 H locs hp98 hW => ?_)
                    obtain ⟨hs98, rfl⟩ := hp98
                    rw [hs98] at hW
                    refine r_lret hx hb hr hlocks hW ?_ dX10_copy_101
                    have e : fCopy it la le st a1 a2 a3 a4 a5 = (FND 2, it, 2) := by unfold fCopy; rw [if_pos (by omega), if_neg (by rw [← hr_a1.2.1, ← hr_a3.2.1]; omega), if_neg (by rw [← hr_a1.1, ← hr_a3.1, t_eq]; omega), if_neg (by rw [← hr_a1.2.1, ← hr_a3.2.1]; omega)]
                    rw [e]; dsimp only
                    refine ⟨?_, congrFun (e_is _ _ _) 9, rfl, (Ch.ri Ch.rf (by omega))⟩
                    intro j hj
                    obtain ⟨y1, y2, y3⟩ := hR j hj
                    exact ⟨(congrFun (e_in (by omega) rfl) j).trans y1, (congrFun (e_in (by omega) rfl) j).trans y2, fun i hi => (congrFun (e_in (by omega) rfl) i).trans (y3 i hi)⟩
                  · exact absurd (by decide) c77
              · skip
                rw [t_eq] at c56
                refine lv_aload_n hx hb dX10_copy_59 rfl (lv_at hl 0 rfl) ?_
                refine lv_iconst (v := 5) hx hb dX10_copy_60 (by decide) ?_
                refine r_calll hW hA (va_runV (As := [.int 5]) (rest := []) ⟨hx, hb, hml, hown, hts⟩ (t_X10_found l D G S _ hG hP 5) (cwV 1 hts gX10_copy_X10_found rfl rfl rfl (by decide +kernel) ⟨Nat.le_of_ble_eq_true rfl, Nat.le_of_ble_eq_true rfl⟩) (r_preV (k := 0) hA hW (ci := 9) (C := RX10) (T := TX10) (N := 10) rfl rfl (g_lt hG (by decide)) (g_kd hG (by decide) rfl) rfl rfl) rfl rfl hl.1 rfl (lv_room (Nat.le_of_ble_eq_true rfl)) dX10_copy_61 ⟨Nat.zero_le _, Nat.zero_le _⟩) (fun r61 S61 H locs hp61 hW => ?_)
                obtain ⟨hs61, rfl⟩ := hp61
                rw [hs61] at hW
                refine r_lret hx hb hr hlocks hW ?_ dX10_copy_64
                have e : fCopy it la le st a1 a2 a3 a4 a5 = (FND 5, it, 5) := by unfold fCopy; rw [if_pos (by omega), if_neg (by rw [← hr_a1.2.1, ← hr_a3.2.1]; omega), if_pos (by rw [← hr_a1.1, ← hr_a3.1, t_eq]; exact c56)]
                rw [e]; dsimp only
                refine ⟨?_, congrFun (e_is _ _ _) 9, rfl, (Ch.ri Ch.rf (by omega))⟩
                intro j hj
                obtain ⟨y1, y2, y3⟩ := hR j hj
                exact ⟨(congrFun (e_in (by omega) rfl) j).trans y1, (congrFun (e_in (by omega) rfl) j).trans y2, fun i hi => (congrFun (e_in (by omega) rfl) i).trans (y3 i hi)⟩
            · skip
              rw [t_eq, show ((-1) : Int32).toInt = -1 from by decide] at c35
              refine lv_aload_n hx hb dX10_copy_38 rfl (lv_at hl 0 rfl) ?_
              refine lv_iconst (v := 1) hx hb dX10_copy_39 (by decide) ?_
              refine r_calll hW hA (va_runV (As := [.int 1]) (rest := []) ⟨hx, hb, hml, hown, hts⟩ (t_X10_found l D G S _ hG hP 1) (cwV 1 hts gX10_copy_X10_found rfl rfl rfl (by decide +kernel) ⟨Nat.le_of_ble_eq_true rfl, Nat.le_of_ble_eq_true rfl⟩) (r_preV (k := 0) hA hW (ci := 9) (C := RX10) (T := TX10) (N := 10) rfl rfl (g_lt hG (by decide)) (g_kd hG (by decide) rfl) rfl rfl) rfl rfl hl.1 rfl (lv_room (Nat.le_of_ble_eq_true rfl)) dX10_copy_40 ⟨Nat.zero_le _, Nat.zero_le _⟩) (fun r40 S40 H locs hp40 hW => ?_)
              obtain ⟨hs40, rfl⟩ := hp40
              rw [hs40] at hW
              refine r_lret hx hb hr hlocks hW ?_ dX10_copy_43
              have e : fCopy it la le st a1 a2 a3 a4 a5 = (FND 1, it, 1) := by unfold fCopy; rw [if_pos (by omega), if_pos (by rw [← hr_a1.2.1, ← hr_a3.2.1]; omega)]
              rw [e]; dsimp only
              refine ⟨?_, congrFun (e_is _ _ _) 9, rfl, (Ch.ri Ch.rf (by omega))⟩
              intro j hj
              obtain ⟨y1, y2, y3⟩ := hR j hj
              exact ⟨(congrFun (e_in (by omega) rfl) j).trans y1, (congrFun (e_in (by omega) rfl) j).trans y2, fun i hi => (congrFun (e_in (by omega) rfl) i).trans (y3 i hi)⟩
        · exact absurd c11 (by decide)
      · skip
        refine lv_if_ne (tgt := 18) hx hb dX10_copy_11 (by decide) (fun c11 => ?_) (fun c11 => ?_)
        · exact absurd (by decide) c11
        · skip
          refine lv_ldc2 (v := (-9000000000000000001)) hx hb hown q7 dX10_copy_14 ?_
          refine r_lret hx hb hr hlocks hW ?_ dX10_copy_17
          have e : fCopy it la le st a1 a2 a3 a4 a5 = (BADL, it, st) := by unfold fCopy; rw [if_neg (by omega)]
          rw [e]; dsimp only
          exact ⟨hR, hst, rfl, Ch.rf⟩
  · skip
    refine lv_if_eq (tgt := 14) hx hb dX10_copy_4 (by decide) (fun c4 => ?_) (fun c4 => ?_)
    · skip
      refine lv_ldc2 (v := (-9000000000000000001)) hx hb hown q7 dX10_copy_14 ?_
      refine r_lret hx hb hr hlocks hW ?_ dX10_copy_17
      have e : fCopy it la le st a1 a2 a3 a4 a5 = (BADL, it, st) := by unfold fCopy; rw [if_neg (by omega)]
      rw [e]; dsimp only
      exact ⟨hR, hst, rfl, Ch.rf⟩
    · exact absurd (by decide) c4

def rmX11_in : Jvm.Room := { frames := 0, cells := 0, slots := 0, locals := 0 }
set_option maxHeartbeats 4000000 in
set_option maxRecDepth 100000 in
theorem t_X11_in (l : Launch) (D : Dc) (G : Gg) (S : Sg) (z : Nat) (a0 a1 a2 : Int64) (v0 v1 v2 : Int) (e0 : a0.toInt = v0) (e1 : a1.toInt = v1) (e2 : a2.toInt = v2) : MI l yX11_in wsX11_in rmX11_in D G S z [.long a0, .long a1, .long a2] (fun r S' => S' = S ∧ ((r = 1 ∧ (v1 ≤ v0 ∧ v0 ≤ v2)) ∨ (r = 0 ∧ ¬ (v1 ≤ v0 ∧ v0 ≤ v2)))) := by
  refine Met.ofW (cc := cX11_in) (maxL := 6) (ret := (some .boolean)) (by decide +kernel) rfl ?_
  intro pP eE s mM args bl mT cD s₁ bD hml hv
  obtain ⟨rfl, hv⟩ := hv
  have hz := hv.1
  subst hz
  have hx := bD.exec
  have hb := bD.bytes
  have hr := bD.returns
  have hts := atoms_spec (ws := wsX11_in) bD.pre
  have hown : s.vm.findClass RX11 = some mM.cls := findClass_of_methodNamed bD.named
  have hlocks := bD.notSynchronized
  have hW := Wd.start hv
  have hA : ∀ q, s.heap.size ≤ q → AW G s.heap.size q := fun q h => Or.inr h
  have hl := lv_entry ([.long a0, .long a1, .long a2]) (n := 6) (Nat.le_of_ble_eq_true rfl)
  rw [lg_entry_eq]
  generalize (lg_sl ([.long a0, .long a1, .long a2]) ++ List.replicate (6 - (lg_sl ([.long a0, .long a1, .long a2])).length) Slot.unset).toArray = ls at hl ⊢
  have hl : lv_has ls 6 [(0, .long a0), (2, .long a1), (4, .long a2)] := hl
  refine lv_lload_n hx hb dX11_in_0 rfl (lv_at hl 0 rfl) ?_
  refine lv_lload_n hx hb dX11_in_1 rfl (lv_at hl 1 rfl) ?_
  refine W.lcmp hx hb dX11_in_2 ?_
  refine lv_if_lt (tgt := 17) hx hb dX11_in_3 (by decide) (fun c3 => ?_) (fun c3 => ?_)
  · skip
    rw [lc_lt] at c3
    refine lv_iconst (v := 0) hx hb dX11_in_17 (by decide) ?_
    refine r_zret hx hb hr hlocks hW (Or.inl rfl) ?_ dX11_in_18
    exact ⟨rfl, Or.inr ⟨rfl, by omega⟩⟩
  · skip
    rw [lc_lt] at c3
    refine lv_lload_n hx hb dX11_in_6 rfl (lv_at hl 0 rfl) ?_
    refine lv_lload hx hb dX11_in_7 (lv_at hl 2 rfl) ?_
    refine W.lcmp hx hb dX11_in_9 ?_
    refine lv_if_gt (tgt := 17) hx hb dX11_in_10 (by decide) (fun c10 => ?_) (fun c10 => ?_)
    · skip
      rw [lc_gt] at c10
      refine lv_iconst (v := 0) hx hb dX11_in_17 (by decide) ?_
      refine r_zret hx hb hr hlocks hW (Or.inl rfl) ?_ dX11_in_18
      exact ⟨rfl, Or.inr ⟨rfl, by omega⟩⟩
    · skip
      rw [lc_gt] at c10
      refine lv_iconst (v := 1) hx hb dX11_in_13 (by decide) ?_
      refine lv_goto (tgt := 18) hx hb dX11_in_14 (by decide) ?_
      refine r_zret hx hb hr hlocks hW (Or.inr rfl) ?_ dX11_in_18
      exact ⟨rfl, Or.inl ⟨rfl, by omega⟩⟩

def rmX11_isRow : Jvm.Room := { frames := 1, cells := 0, slots := 0, locals := 25 }
set_option maxHeartbeats 4000000 in
set_option maxRecDepth 100000 in
theorem t_X11_isRow (l : Launch) (D : Dc) (G : Gg) (S : Sg) (z : Nat) (hG : GrG G) (hP : GrP G S) (a1 : Int32) : MI l yX11_isRow wsX11_isRow rmX11_isRow D G S z [.ref (gA G 65), .int a1] (fun r S' => S' = S ∧ ((r = 1 ∧ (0 ≤ a1.toInt ∧ a1.toInt < 8)) ∨ (r = 0 ∧ ¬ (0 ≤ a1.toInt ∧ a1.toInt < 8)))) := by
  refine Met.ofW (cc := cX11_isRow) (maxL := 2) (ret := (some .boolean)) (by decide +kernel) rfl ?_
  intro pP eE s mM args bl mT cD s₁ bD hml hv
  obtain ⟨rfl, hv⟩ := hv
  have hz := hv.1
  subst hz
  have hx := bD.exec
  have hb := bD.bytes
  have hr := bD.returns
  have hts := atoms_spec (ws := wsX11_isRow) bD.pre
  have hown : s.vm.findClass RX11 = some mM.cls := findClass_of_methodNamed bD.named
  have hlocks := bD.notSynchronized
  have hW := Wd.start hv
  have hA : ∀ q, s.heap.size ≤ q → AW G s.heap.size q := fun q h => Or.inr h
  have hl := lv_entry ([.ref (gA G 65), .int a1]) (n := 2) (Nat.le_of_ble_eq_true rfl)
  rw [lg_entry_eq]
  generalize (lg_sl ([.ref (gA G 65), .int a1]) ++ List.replicate (2 - (lg_sl ([.ref (gA G 65), .int a1])).length) Slot.unset).toArray = ls at hl ⊢
  have hl : lv_has ls 2 [(0, .ref (gA G 65)), (1, .int a1)] := hl
  have q0 := hts (.constantLong RX11 44 (7)) (List.mem_of_getElem? (i := 1) rfl)
  refine lv_iload_n hx hb dX11_isRow_0 rfl (lv_at hl 1 rfl) ?_
  refine lv_i2l hx hb dX11_isRow_1 rfl ?_
  refine lv_lconst (v := 0) hx hb dX11_isRow_2 (by decide) ?_
  refine lv_ldc2 (v := (7)) hx hb hown q0 dX11_isRow_3 ?_
  refine r_calli hW hA (va_runS (As := [.long (Int32.toInt64 a1), .long 0, .long (7)]) (rest := []) ⟨hx, hb, hml, hown, hts⟩ (t_X11_in l D G S _ (Int32.toInt64 a1) 0 (7) (a1).toInt 0 7 (Int32.toInt_toInt64 _) (by decide) (by decide)) (va_cwS 3 hts gX11_isRow_X11_in rfl rfl rfl (by decide +kernel) ⟨Nat.le_of_ble_eq_true rfl, Nat.le_of_ble_eq_true rfl⟩) (r_preS hA hW) rfl rfl hl.1 rfl (lv_room (Nat.le_of_ble_eq_true rfl)) dX11_isRow_6 ⟨Nat.zero_le _, Nat.zero_le _⟩) (fun r6 S6 H locs hp6 hW => ?_)
  obtain ⟨hs6, hp6⟩ := hp6
  rw [hs6] at hW
  rcases hp6 with ⟨rfl, h6⟩ | ⟨rfl, h6⟩
  · skip
    refine r_zret hx hb hr hlocks hW (Or.inr rfl) ?_ dX11_isRow_9
    exact ⟨rfl, Or.inl ⟨rfl, by omega⟩⟩
  · skip
    refine r_zret hx hb hr hlocks hW (Or.inl rfl) ?_ dX11_isRow_9
    exact ⟨rfl, Or.inr ⟨rfl, by omega⟩⟩

def rmX11_found : Jvm.Room := { frames := 0, cells := 0, slots := 0, locals := 0 }
set_option maxHeartbeats 4000000 in
set_option maxRecDepth 100000 in
theorem t_X11_found (l : Launch) (D : Dc) (G : Gg) (S : Sg) (z : Nat) (hG : GrG G) (hP : GrP G S) (a1 : Int32) : ML l yX11_found wsX11_found rmX11_found D G S z [.ref (gA G 65), .int a1] (fun r S' => S' = ri S 65 (va_up (gi S 65) 4 a1) ∧ r = FND a1) := by
  refine Met.ofW (cc := cX11_found) (maxL := 2) (ret := (some .long)) (by decide +kernel) rfl ?_
  intro pP eE s mM args bl mT cD s₁ bD hml hv
  obtain ⟨rfl, hv⟩ := hv
  have hz := hv.1
  subst hz
  have hx := bD.exec
  have hb := bD.bytes
  have hr := bD.returns
  have hts := atoms_spec (ws := wsX11_found) bD.pre
  have hown : s.vm.findClass RX11 = some mM.cls := findClass_of_methodNamed bD.named
  have hlocks := bD.notSynchronized
  have hW := Wd.start hv
  have hA : ∀ q, s.heap.size ≤ q → AW G s.heap.size q := fun q h => Or.inr h
  have hl := lv_entry ([.ref (gA G 65), .int a1]) (n := 2) (Nat.le_of_ble_eq_true rfl)
  rw [lg_entry_eq]
  generalize (lg_sl ([.ref (gA G 65), .int a1]) ++ List.replicate (2 - (lg_sl ([.ref (gA G 65), .int a1])).length) Slot.unset).toArray = ls at hl ⊢
  have hl : lv_has ls 2 [(0, .ref (gA G 65)), (1, .int a1)] := hl
  have q0 := hts (.fieldLink RX11 38 "WoodForTwoModel" "status" "I") (List.mem_of_getElem? (i := 1) rfl)
  have q1 := hts (.constantLong RX11 42 (-9000000000000000010)) (List.mem_of_getElem? (i := 2) rfl)
  have iX11 : ∀ w ∈ wsX110, w ∈ wsX11_found := fun _ h => List.mem_cons_of_mem _ (List.mem_append_right _ (h))
  refine lv_aload_n hx hb dX11_found_0 rfl (lv_at hl 0 rfl) ?_
  refine lv_iload_n hx hb dX11_found_1 rfl (lv_at hl 1 rfl) ?_
  refine r_puti (ci := 10) (C := RX11) (T := TX11) (N := 20) hx hb hts iX11 tyX11 tyX11_ok nmX11 hown hW rfl 65 4 rfl (g_lt hG (by decide)) (g_kd hG (by decide) rfl) (by decide) q0 (fun _ h9 => h9) rfl (tyX11_ok 4 (by decide)) rfl rfl (ri S 65 (va_up (gi S 65) 4 a1)) (gi S 65) (va_up (gi S 65) 4 a1) rfl (e_is _ _ _) rfl rfl rfl (Nat.le_of_ble_eq_true rfl) rfl c_i0 dX11_found_2 (fun H locs hW => ?_)
  refine lv_ldc2 (v := (-9000000000000000010)) hx hb hown q1 dX11_found_5 ?_
  refine lv_iload_n hx hb dX11_found_8 rfl (lv_at hl 1 rfl) ?_
  refine lv_i2l hx hb dX11_found_9 rfl ?_
  refine lv_lsub hx hb dX11_found_10 ?_
  refine r_lret hx hb hr hlocks hW ?_ dX11_found_11
  exact ⟨rfl, rfl⟩

def rmX11_good : Jvm.Room := { frames := 0, cells := 0, slots := 0, locals := 0 }
set_option maxHeartbeats 4000000 in
set_option maxRecDepth 100000 in
theorem t_X11_good (l : Launch) (D : Dc) (G : Gg) (S : Sg) (z : Nat) (hG : GrG G) (hP : GrP G S) (a1 : Int64) : ML l yX11_good wsX11_good rmX11_good D G S z [.ref (gA G 65), .long a1] (fun r S' => S' = ri S 65 (va_up (gi S 65) 4 0) ∧ r = a1) := by
  refine Met.ofW (cc := cX11_good) (maxL := 3) (ret := (some .long)) (by decide +kernel) rfl ?_
  intro pP eE s mM args bl mT cD s₁ bD hml hv
  obtain ⟨rfl, hv⟩ := hv
  have hz := hv.1
  subst hz
  have hx := bD.exec
  have hb := bD.bytes
  have hr := bD.returns
  have hts := atoms_spec (ws := wsX11_good) bD.pre
  have hown : s.vm.findClass RX11 = some mM.cls := findClass_of_methodNamed bD.named
  have hlocks := bD.notSynchronized
  have hW := Wd.start hv
  have hA : ∀ q, s.heap.size ≤ q → AW G s.heap.size q := fun q h => Or.inr h
  have hl := lv_entry ([.ref (gA G 65), .long a1]) (n := 3) (Nat.le_of_ble_eq_true rfl)
  rw [lg_entry_eq]
  generalize (lg_sl ([.ref (gA G 65), .long a1]) ++ List.replicate (3 - (lg_sl ([.ref (gA G 65), .long a1])).length) Slot.unset).toArray = ls at hl ⊢
  have hl : lv_has ls 3 [(0, .ref (gA G 65)), (1, .long a1)] := hl
  have q0 := hts (.fieldLink RX11 38 "WoodForTwoModel" "status" "I") (List.mem_of_getElem? (i := 1) rfl)
  have iX11 : ∀ w ∈ wsX110, w ∈ wsX11_good := fun _ h => List.mem_cons_of_mem _ (List.mem_append_right _ (h))
  refine lv_aload_n hx hb dX11_good_0 rfl (lv_at hl 0 rfl) ?_
  refine lv_iconst (v := 0) hx hb dX11_good_1 (by decide) ?_
  refine r_puti (ci := 10) (C := RX11) (T := TX11) (N := 20) hx hb hts iX11 tyX11 tyX11_ok nmX11 hown hW rfl 65 4 rfl (g_lt hG (by decide)) (g_kd hG (by decide) rfl) (by decide) q0 (fun _ h9 => h9) rfl (tyX11_ok 4 (by decide)) rfl rfl (ri S 65 (va_up (gi S 65) 4 0)) (gi S 65) (va_up (gi S 65) 4 0) rfl (e_is _ _ _) rfl rfl rfl (Nat.le_of_ble_eq_true rfl) rfl c_i0 dX11_good_2 (fun H locs hW => ?_)
  refine lv_lload_n hx hb dX11_good_5 rfl (lv_at hl 1 rfl) ?_
  refine r_lret hx hb hr hlocks hW ?_ dX11_good_6
  exact ⟨rfl, rfl⟩

def rmX11_held : Jvm.Room := { frames := 0, cells := 0, slots := 0, locals := 0 }
set_option maxHeartbeats 4000000 in
set_option maxRecDepth 100000 in
theorem t_X11_held (l : Launch) (D : Dc) (G : Gg) (S : Sg) (z : Nat) (a0 a1 : Int32) : MI l yX11_held wsX11_held rmX11_held D G S z [.int a0, .int a1] (fun r S' => S' = S ∧ r = lowB a0 a1) := by
  refine Met.ofW (cc := cX11_held) (maxL := 2) (ret := (some .int)) (by decide +kernel) rfl ?_
  intro pP eE s mM args bl mT cD s₁ bD hml hv
  obtain ⟨rfl, hv⟩ := hv
  have hz := hv.1
  subst hz
  have hx := bD.exec
  have hb := bD.bytes
  have hr := bD.returns
  have hts := atoms_spec (ws := wsX11_held) bD.pre
  have hown : s.vm.findClass RX11 = some mM.cls := findClass_of_methodNamed bD.named
  have hlocks := bD.notSynchronized
  have hW := Wd.start hv
  have hA : ∀ q, s.heap.size ≤ q → AW G s.heap.size q := fun q h => Or.inr h
  have hl := lv_entry ([.int a0, .int a1]) (n := 2) (Nat.le_of_ble_eq_true rfl)
  rw [lg_entry_eq]
  generalize (lg_sl ([.int a0, .int a1]) ++ List.replicate (2 - (lg_sl ([.int a0, .int a1])).length) Slot.unset).toArray = ls at hl ⊢
  have hl : lv_has ls 2 [(0, .int a0), (1, .int a1)] := hl
  refine lv_iload_n hx hb dX11_held_0 rfl (lv_at hl 0 rfl) ?_
  refine lv_if_ne (tgt := 14) hx hb dX11_held_1 (by decide) (fun c1 => ?_) (fun c1 => ?_)
  · skip
    rw [t_eq, show (0 : Int32).toInt = 0 from by decide] at c1
    refine lv_iload_n hx hb dX11_held_14 rfl (lv_at hl 0 rfl) ?_
    refine lv_iconst (v := 1) hx hb dX11_held_15 (by decide) ?_
    refine lv_icmp_ne (tgt := 29) hx hb dX11_held_16 (by decide) (fun c16 => ?_) (fun c16 => ?_)
    · skip
      rw [t_eq, show (1 : Int32).toInt = 1 from by decide] at c16
      refine lv_iload_n hx hb dX11_held_29 rfl (lv_at hl 1 rfl) ?_
      refine r_iret hx hb hr hlocks hW ?_ dX11_held_30
      refine ⟨rfl, ?_⟩
      unfold lowB
      first | (rw [if_pos (by omega)]; exact sh24 _) | (rw [if_neg (by omega), if_pos (by omega)]; exact sh16 _) | rw [if_neg (by omega), if_neg (by omega)]
    · skip
      rw [t_eq, show (1 : Int32).toInt = 1 from by decide] at c16
      refine lv_iload_n hx hb dX11_held_19 rfl (lv_at hl 1 rfl) ?_
      refine lv_bipush (v := 16) hx hb dX11_held_20 (by decide) ?_
      refine lv_ishl hx hb dX11_held_22 ?_
      refine lv_bipush (v := 16) hx hb dX11_held_23 (by decide) ?_
      refine lv_ishr hx hb dX11_held_25 ?_
      refine lv_goto (tgt := 30) hx hb dX11_held_26 (by decide) ?_
      refine r_iret hx hb hr hlocks hW ?_ dX11_held_30
      refine ⟨rfl, ?_⟩
      unfold lowB
      first | (rw [if_pos (by omega)]; exact sh24 _) | (rw [if_neg (by omega), if_pos (by omega)]; exact sh16 _) | rw [if_neg (by omega), if_neg (by omega)]
  · skip
    rw [t_eq, show (0 : Int32).toInt = 0 from by decide] at c1
    refine lv_iload_n hx hb dX11_held_4 rfl (lv_at hl 1 rfl) ?_
    refine lv_bipush (v := 24) hx hb dX11_held_5 (by decide) ?_
    refine lv_ishl hx hb dX11_held_7 ?_
    refine lv_bipush (v := 24) hx hb dX11_held_8 (by decide) ?_
    refine lv_ishr hx hb dX11_held_10 ?_
    refine lv_goto (tgt := 30) hx hb dX11_held_11 (by decide) ?_
    refine r_iret hx hb hr hlocks hW ?_ dX11_held_30
    refine ⟨rfl, ?_⟩
    unfold lowB
    first | (rw [if_pos (by omega)]; exact sh24 _) | (rw [if_neg (by omega), if_pos (by omega)]; exact sh16 _) | rw [if_neg (by omega), if_neg (by omega)]

def rmX11_isWithin : Jvm.Room := { frames := 0, cells := 0, slots := 0, locals := 0 }
set_option maxHeartbeats 4000000 in
set_option maxRecDepth 100000 in
theorem t_X11_isWithin (l : Launch) (D : Dc) (G : Gg) (S : Sg) (z : Nat) (a0 a1 a2 : Int32) : MI l yX11_isWithin wsX11_isWithin rmX11_isWithin D G S z [.int a0, .int a1, .int a2] (fun r S' => S' = S ∧ ((r = 1 ∧ (0 ≤ a0.toInt ∧ 0 ≤ a1.toInt ∧ a0.toInt + a1.toInt ≤ a2.toInt)) ∨ (r = 0 ∧ ¬ (0 ≤ a0.toInt ∧ 0 ≤ a1.toInt ∧ a0.toInt + a1.toInt ≤ a2.toInt)))) := by
  refine Met.ofW (cc := cX11_isWithin) (maxL := 3) (ret := (some .boolean)) (by decide +kernel) rfl ?_
  intro pP eE s mM args bl mT cD s₁ bD hml hv
  obtain ⟨rfl, hv⟩ := hv
  have hz := hv.1
  subst hz
  have hx := bD.exec
  have hb := bD.bytes
  have hr := bD.returns
  have hts := atoms_spec (ws := wsX11_isWithin) bD.pre
  have hown : s.vm.findClass RX11 = some mM.cls := findClass_of_methodNamed bD.named
  have hlocks := bD.notSynchronized
  have hW := Wd.start hv
  have hA : ∀ q, s.heap.size ≤ q → AW G s.heap.size q := fun q h => Or.inr h
  have hl := lv_entry ([.int a0, .int a1, .int a2]) (n := 3) (Nat.le_of_ble_eq_true rfl)
  rw [lg_entry_eq]
  generalize (lg_sl ([.int a0, .int a1, .int a2]) ++ List.replicate (3 - (lg_sl ([.int a0, .int a1, .int a2])).length) Slot.unset).toArray = ls at hl ⊢
  have hl : lv_has ls 3 [(0, .int a0), (1, .int a1), (2, .int a2)] := hl
  refine lv_iload_n hx hb dX11_isWithin_0 rfl (lv_at hl 0 rfl) ?_
  refine lv_if_lt (tgt := 23) hx hb dX11_isWithin_1 (by decide) (fun c1 => ?_) (fun c1 => ?_)
  · skip
    rw [t_lt, show (0 : Int32).toInt = 0 from by decide] at c1
    refine lv_iconst (v := 0) hx hb dX11_isWithin_23 (by decide) ?_
    refine r_zret hx hb hr hlocks hW (Or.inl rfl) ?_ dX11_isWithin_24
    exact ⟨rfl, Or.inr ⟨rfl, by omega⟩⟩
  · skip
    rw [t_lt, show (0 : Int32).toInt = 0 from by decide] at c1
    refine lv_iload_n hx hb dX11_isWithin_4 rfl (lv_at hl 1 rfl) ?_
    refine lv_if_lt (tgt := 23) hx hb dX11_isWithin_5 (by decide) (fun c5 => ?_) (fun c5 => ?_)
    · skip
      rw [t_lt, show (0 : Int32).toInt = 0 from by decide] at c5
      refine lv_iconst (v := 0) hx hb dX11_isWithin_23 (by decide) ?_
      refine r_zret hx hb hr hlocks hW (Or.inl rfl) ?_ dX11_isWithin_24
      exact ⟨rfl, Or.inr ⟨rfl, by omega⟩⟩
    · skip
      rw [t_lt, show (0 : Int32).toInt = 0 from by decide] at c5
      refine lv_iload_n hx hb dX11_isWithin_8 rfl (lv_at hl 0 rfl) ?_
      refine lv_i2l hx hb dX11_isWithin_9 rfl ?_
      refine lv_iload_n hx hb dX11_isWithin_10 rfl (lv_at hl 1 rfl) ?_
      refine lv_i2l hx hb dX11_isWithin_11 rfl ?_
      refine lv_ladd hx hb dX11_isWithin_12 ?_
      refine lv_iload_n hx hb dX11_isWithin_13 rfl (lv_at hl 2 rfl) ?_
      refine lv_i2l hx hb dX11_isWithin_14 rfl ?_
      refine W.lcmp hx hb dX11_isWithin_15 ?_
      have hadd : (a0.toInt64 + a1.toInt64).toInt = a0.toInt + a1.toInt := by have g0 := t_rng a0; have g1 := t_rng a1; rw [l_add (by rw [Int32.toInt_toInt64, Int32.toInt_toInt64]; omega) (by rw [Int32.toInt_toInt64, Int32.toInt_toInt64]; omega), Int32.toInt_toInt64, Int32.toInt_toInt64]
      refine lv_if_gt (tgt := 23) hx hb dX11_isWithin_16 (by decide) (fun c16 => ?_) (fun c16 => ?_)
      · skip
        rw [lc_gt] at c16
        rw [hadd, Int32.toInt_toInt64] at c16
        refine lv_iconst (v := 0) hx hb dX11_isWithin_23 (by decide) ?_
        refine r_zret hx hb hr hlocks hW (Or.inl rfl) ?_ dX11_isWithin_24
        exact ⟨rfl, Or.inr ⟨rfl, by omega⟩⟩
      · skip
        rw [lc_gt] at c16
        rw [hadd, Int32.toInt_toInt64] at c16
        refine lv_iconst (v := 1) hx hb dX11_isWithin_19 (by decide) ?_
        refine lv_goto (tgt := 24) hx hb dX11_isWithin_20 (by decide) ?_
        refine r_zret hx hb hr hlocks hW (Or.inr rfl) ?_ dX11_isWithin_24
        exact ⟨rfl, Or.inl ⟨rfl, by omega⟩⟩
