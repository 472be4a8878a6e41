def rmX11_snow : Jvm.Room := { frames := 1, cells := 0, slots := 0, locals := 25 }
set_option maxHeartbeats 4000000 in
set_option maxRecDepth 100000 in
theorem t_X11_snow (l : Launch) (D : Dc) (G : Gg) (S : Sg) (z : Nat) (hG : GrG G) (hP : GrP G S) (B : Nat → Nat) (c : Nat) (hB : BP B c) (hc : c < 100000) (hM : ∀ k, k < 140 → gj S 66 k = lN (B k)) (a1 : Int32) : ML l yX11_snow wsX11_snow rmX11_snow D G S z [.ref (gA G 65), .int a1] (fun r S' => r = (fSnow B a1).1 ∧ RMw S S' (fSnow B a1).2) := by
  refine Met.ofW (cc := cX11_snow) (maxL := 2) (ret := (some .long)) (by decide +kernel) rfl ?_
  intro pP eE s mM args bl mT cD s₁ bD hml hv
  obtain ⟨rfl, hv⟩ := hv
  have hz := hv.1
  subst hz
  have hx := bD.exec
  have hb := bD.bytes
  have hr := bD.returns
  have hts := atoms_spec (ws := wsX11_snow) bD.pre
  have hown : s.vm.findClass RX11 = some mM.cls := findClass_of_methodNamed bD.named
  have hlocks := bD.notSynchronized
  have hW := Wd.start hv
  have hA : ∀ q, s.heap.size ≤ q → AW G s.heap.size q := fun q h => Or.inr h
  have hl := lv_entry ([.ref (gA G 65), .int a1]) (n := 2) (Nat.le_of_ble_eq_true rfl)
  rw [lg_entry_eq]
  generalize (lg_sl ([.ref (gA G 65), .int a1]) ++ List.replicate (2 - (lg_sl ([.ref (gA G 65), .int a1])).length) Slot.unset).toArray = ls at hl ⊢
  have hl : lv_has ls 2 [(0, .ref (gA G 65)), (1, .int a1)] := hl
  have q0 := hts (.constantLong RX11 178 (-9000000000000000002)) (List.mem_of_getElem? (i := 1) rfl)
  have q1 := hts (.constantLong RX11 182 (99)) (List.mem_of_getElem? (i := 2) rfl)
  have q2 := hts (.fieldLink RX11 7 "WoodForTwoModel" "w" "[J") (List.mem_of_getElem? (i := 4) rfl)
  have q3 := hts (.constantLong RX11 56 (-9000000000000000001)) (List.mem_of_getElem? (i := 3) rfl)
  have iX11 : ∀ w ∈ wsX110, w ∈ wsX11_snow := fun _ h => List.mem_cons_of_mem _ (List.mem_append_right _ (h))
  have hbp := BP_b hB
  refine lv_aload_n hx hb dX11_snow_0 rfl (lv_at hl 0 rfl) ?_
  refine r_calli hW hA (va_runV (As := []) (rest := []) ⟨hx, hb, hml, hown, hts⟩ (t_X11_isNone l D G S _ hG hP B c hB hc hM) (cwV 0 hts gX11_snow_X11_isNone rfl rfl rfl (by decide +kernel) ⟨Nat.le_of_ble_eq_true rfl, Nat.le_of_ble_eq_true rfl⟩) (r_preV (k := 65) hA hW (ci := 10) (C := RX11) (T := TX11) (N := 20) rfl rfl (g_lt hG (by decide)) (g_kd hG (by decide) rfl) rfl rfl) rfl rfl hl.1 rfl (lv_room (Nat.le_of_ble_eq_true rfl)) dX11_snow_1 ⟨Nat.zero_le _, Nat.zero_le _⟩) (fun r1 S1 H locs hp1 hW => ?_)
  obtain ⟨hs1, hp1⟩ := hp1
  rw [hs1] at hW
  rcases hp1 with ⟨rfl, h1⟩ | ⟨rfl, h1⟩
  · skip
    refine lv_if_eq (tgt := 11) hx hb dX11_snow_4 (by decide) (fun c4 => ?_) (fun c4 => ?_)
    · exact absurd c4 (by decide)
    · skip
      refine lv_ldc2 (v := (-9000000000000000002)) hx hb hown q0 dX11_snow_7 ?_
      refine r_lret hx hb hr hlocks hW ?_ dX11_snow_10
      have e : fSnow B a1 = (STATEL, B) := by unfold fSnow; rw [if_pos h1]
      rw [e]
      exact ⟨rfl, RMw.rf hM⟩
  · skip
    refine lv_if_eq (tgt := 11) hx hb dX11_snow_4 (by decide) (fun c4 => ?_) (fun c4 => ?_)
    · skip
      refine lv_iload_n hx hb dX11_snow_11 rfl (lv_at hl 1 rfl) ?_
      refine lv_i2l hx hb dX11_snow_12 rfl ?_
      refine lv_lconst (v := 0) hx hb dX11_snow_13 (by decide) ?_
      refine lv_ldc2 (v := (99)) hx hb hown q1 dX11_snow_14 ?_
      refine r_calli hW hA (va_runS (As := [.long (Int32.toInt64 a1), .long 0, .long (99)]) (rest := []) ⟨hx, hb, hml, hown, hts⟩ (t_X11_in l D G S _ (Int32.toInt64 a1) 0 (99) (a1).toInt 0 99 (Int32.toInt_toInt64 _) (by decide) (by decide)) (va_cwS 3 hts gX11_snow_X11_in rfl rfl rfl (by decide +kernel) ⟨Nat.le_of_ble_eq_true rfl, Nat.le_of_ble_eq_true rfl⟩) (r_preS hA hW) rfl rfl hl.1 rfl (lv_room (Nat.le_of_ble_eq_true rfl)) dX11_snow_17 ⟨Nat.zero_le _, Nat.zero_le _⟩) (fun r17 S17 H locs hp17 hW => ?_)
      obtain ⟨hs17, hp17⟩ := hp17
      rw [hs17] at hW
      rcases hp17 with ⟨rfl, h17⟩ | ⟨rfl, h17⟩
      · skip
        refine lv_if_ne (tgt := 27) hx hb dX11_snow_20 (by decide) (fun c20 => ?_) (fun c20 => ?_)
        · skip
          have hn_a1 := n_nat (x := a1) (by omega)
          have e_a1 := n_nI (x := a1) (by omega)
          refine lv_aload_n hx hb dX11_snow_27 rfl (lv_at hl 0 rfl) ?_
          refine r_getr (ci := 10) (C := RX11) (T := TX11) (N := 20) hx hb hts iX11 hown hW rfl 65 0 rfl (g_lt hG (by decide)) (g_kd hG (by decide) rfl) (by decide) q2 (fun _ h9 => h9) (hP _ (List.mem_of_getElem? (i := 60) rfl)) rfl rfl dX11_snow_28 ?_
          refine lv_iconst (v := 0) hx hb dX11_snow_31 (by decide) ?_
          refine lv_aload_n hx hb dX11_snow_32 rfl (lv_at hl 0 rfl) ?_
          refine r_getr (ci := 10) (C := RX11) (T := TX11) (N := 20) hx hb hts iX11 hown hW rfl 65 0 rfl (g_lt hG (by decide)) (g_kd hG (by decide) rfl) (by decide) q2 (fun _ h9 => h9) (hP _ (List.mem_of_getElem? (i := 60) rfl)) rfl rfl dX11_snow_33 ?_
          refine lv_iconst (v := 0) hx hb dX11_snow_36 (by decide) ?_
          refine W.eq (g2 := F0 mM 37 ls [.int (nI 0), .ref (gA G 66), .int 0, .ref (gA G 66)]) rfl ?_
          refine r_lald hx hb hW 66 rfl (g_lt hG (by decide)) (g_kd hG (by decide) rfl) (g_ix hG (c := 560) (by decide) rfl (n_inI (by omega) (by decide))) (lN (B 0)) (by rw [n_clamp (by omega)]; exact (hM 0 (by omega))) dX11_snow_37 ?_
          refine lv_iload_n hx hb dX11_snow_38 rfl (lv_at hl 1 rfl) ?_
          refine lv_i2l hx hb dX11_snow_39 rfl ?_
          refine W.lcmp hx hb dX11_snow_40 ?_
          refine lv_if_ge (tgt := 48) hx hb dX11_snow_41 (by decide) (fun c41 => ?_) (fun c41 => ?_)
          · skip
            rw [lc_ge] at c41
            rw [lN_int (by omega), Int32.toInt_toInt64] at c41
            refine lv_aload_n hx hb dX11_snow_48 rfl (lv_at hl 0 rfl) ?_
            refine r_getr (ci := 10) (C := RX11) (T := TX11) (N := 20) hx hb hts iX11 hown hW rfl 65 0 rfl (g_lt hG (by decide)) (g_kd hG (by decide) rfl) (by decide) q2 (fun _ h9 => h9) (hP _ (List.mem_of_getElem? (i := 60) rfl)) rfl rfl dX11_snow_49 ?_
            refine lv_iconst (v := 0) hx hb dX11_snow_52 (by decide) ?_
            refine W.eq (g2 := F0 mM 53 ls [.int (nI 0), .ref (gA G 66), .int 0, .ref (gA G 66)]) rfl ?_
            refine r_lald hx hb hW 66 rfl (g_lt hG (by decide)) (g_kd hG (by decide) rfl) (g_ix hG (c := 560) (by decide) rfl (n_inI (by omega) (by decide))) (lN (B 0)) (by rw [n_clamp (by omega)]; exact (hM 0 (by omega))) dX11_snow_53 ?_
            refine lv_iload_n hx hb dX11_snow_54 rfl (lv_at hl 1 rfl) ?_
            refine lv_i2l hx hb dX11_snow_55 rfl ?_
            refine lv_lsub hx hb dX11_snow_56 ?_
            have ez : (((lN (B 0)) - (Int32.toInt64 a1)) : Int64) = (lN (B 0 - a1.toNatClampNeg)) := by rw [show a1.toInt64 = lN a1.toNatClampNeg from (congrArg Int32.toInt64 e_a1).trans (lN_of (by omega)), lN_sub (by omega)]
            refine W.eq (g2 := F0 mM 57 ls [.long (lN (B 0 - a1.toNatClampNeg)), .int 0, .ref (gA G 66)]) (by rw [← ez]) ?_
            refine W.eq (g2 := F0 mM 57 ls [.long (lN (B 0 - a1.toNatClampNeg)), .int (nI 0), .ref (gA G 66)]) rfl ?_
            refine r_last hx hb hW 66 rfl (g_lt hG (by decide)) (g_kd hG (by decide) rfl) (g_ix hG (c := 560) (by decide) rfl (n_inI (by omega) (by decide))) (rj S 66 (va_up (gj S 66) ((nI 0)).toNatClampNeg (lN (B 0 - a1.toNatClampNeg)))) (gj S 66) rfl (e_js _ _ _) rfl rfl c_j0 dX11_snow_57 (fun H locs hW => ?_)
            rw [show ((nI 0)).toNatClampNeg = 0 from n_clamp (by omega)] at hW
            refine lv_aload_n hx hb dX11_snow_58 rfl (lv_at hl 0 rfl) ?_
            refine r_getr (ci := 10) (C := RX11) (T := TX11) (N := 20) hx hb hts iX11 hown hW rfl 65 0 rfl (g_lt hG (by decide)) (g_kd hG (by decide) rfl) (by decide) q2 (fun _ h9 => h9) (hP _ (List.mem_of_getElem? (i := 60) rfl)) rfl rfl dX11_snow_59 ?_
            refine lv_sipush (v := 130) hx hb dX11_snow_62 (by decide) ?_
            refine W.eq (g2 := F0 mM 65 ls [.int (nI 130), .ref (gA G 66)]) rfl ?_
            refine lv_dup2_11 hx hb dX11_snow_65 rfl rfl ?_
            refine r_lald hx hb hW 66 rfl (g_lt hG (by decide)) (g_kd hG (by decide) rfl) (g_ix hG (c := 560) (by decide) rfl (n_inI (by omega) (by decide))) (lN (B 130)) ((congrFun (e_js _ _ _) _).trans (by rw [n_clamp (by omega)]; exact ((up_n _ _ (by omega)).trans (hM 130 (by omega))))) dX11_snow_66 ?_
            refine lv_lconst (v := 1) hx hb dX11_snow_67 (by decide) ?_
            refine lv_ladd hx hb dX11_snow_68 ?_
            rw [show (((lN (B 130)) + 1) : Int64) = (lN ((B 130) + 1)) from lN_add (B 130) 1]
            refine r_last hx hb hW 66 rfl (g_lt hG (by decide)) (g_kd hG (by decide) rfl) (g_ix hG (c := 560) (by decide) rfl (n_inI (by omega) (by decide))) (rj S 66 (va_up (va_up (gj S 66) 0 (lN (B 0 - a1.toNatClampNeg))) ((nI 130)).toNatClampNeg (lN ((B 130) + 1)))) (va_up (gj S 66) 0 (lN (B 0 - a1.toNatClampNeg))) (e_js _ _ _) (e_js _ _ _) rfl rfl c_j dX11_snow_69 (fun H locs hW => ?_)
            rw [show ((nI 130)).toNatClampNeg = 130 from n_clamp (by omega)] at hW
            refine lv_aload_n hx hb dX11_snow_70 rfl (lv_at hl 0 rfl) ?_
            refine r_getr (ci := 10) (C := RX11) (T := TX11) (N := 20) hx hb hts iX11 hown hW rfl 65 0 rfl (g_lt hG (by decide)) (g_kd hG (by decide) rfl) (by decide) q2 (fun _ h9 => h9) (hP _ (List.mem_of_getElem? (i := 60) rfl)) rfl rfl dX11_snow_71 ?_
            refine lv_iconst (v := 0) hx hb dX11_snow_74 (by decide) ?_
            refine W.eq (g2 := F0 mM 75 ls [.int (nI 0), .ref (gA G 66)]) rfl ?_
            refine r_lald hx hb hW 66 rfl (g_lt hG (by decide)) (g_kd hG (by decide) rfl) (g_ix hG (c := 560) (by decide) rfl (n_inI (by omega) (by decide))) (lN (B 0 - a1.toNatClampNeg)) ((congrFun (e_js _ _ _) _).trans (by rw [n_clamp (by omega)]; exact ((up_n _ _ (by omega)).trans (up_s _ _ _)))) dX11_snow_75 ?_
            refine r_lret hx hb hr hlocks hW ?_ dX11_snow_76
            have e : fSnow B a1 = (lN (B 0 - a1.toNatClampNeg), snB B a1.toNatClampNeg) := by unfold fSnow; rw [if_neg h1, if_pos h17]
            rw [e]
            refine ⟨rfl, fun k hk => ?_, fun k hk => ?_, Ch.rj Ch.rf rfl⟩
            · rw [(e_js _ _ _)]
              rcases (show k = 0 ∨ k = 130 ∨ (k ≠ 0 ∧ k ≠ 130) by omega) with z | z | z
              · rw [z, up_n _ _ (by omega), up_s]; rfl
              · rw [z, up_s]; rfl
              · rw [up_n _ _ (by omega), up_n _ _ (by omega)]; show _ = lN (snB B _ k); unfold snB; rw [if_neg (by omega), if_neg (by omega)]; exact hM k hk
            · rw [(e_js _ _ _), up_n _ _ (by omega), up_n _ _ (by omega)]
          · skip
            rw [lc_ge] at c41
            rw [lN_int (by omega), Int32.toInt_toInt64] at c41
            refine lv_lconst (v := 0) hx hb dX11_snow_44 (by decide) ?_
            refine lv_goto (tgt := 57) hx hb dX11_snow_45 (by decide) ?_
            have ez : (0 : Int64) = (lN (B 0 - a1.toNatClampNeg)) := by rw [show B 0 - a1.toNatClampNeg = 0 by omega]; rfl
            refine W.eq (g2 := F0 mM 57 ls [.long (lN (B 0 - a1.toNatClampNeg)), .int 0, .ref (gA G 66)]) (by rw [← ez]) ?_
            refine W.eq (g2 := F0 mM 57 ls [.long (lN (B 0 - a1.toNatClampNeg)), .int (nI 0), .ref (gA G 66)]) rfl ?_
            refine r_last hx hb hW 66 rfl (g_lt hG (by decide)) (g_kd hG (by decide) rfl) (g_ix hG (c := 560) (by decide) rfl (n_inI (by omega) (by decide))) (rj S 66 (va_up (gj S 66) ((nI 0)).toNatClampNeg (lN (B 0 - a1.toNatClampNeg)))) (gj S 66) rfl (e_js _ _ _) rfl rfl c_j0 dX11_snow_57 (fun H locs hW => ?_)
            rw [show ((nI 0)).toNatClampNeg = 0 from n_clamp (by omega)] at hW
            refine lv_aload_n hx hb dX11_snow_58 rfl (lv_at hl 0 rfl) ?_
            refine r_getr (ci := 10) (C := RX11) (T := TX11) (N := 20) hx hb hts iX11 hown hW rfl 65 0 rfl (g_lt hG (by decide)) (g_kd hG (by decide) rfl) (by decide) q2 (fun _ h9 => h9) (hP _ (List.mem_of_getElem? (i := 60) rfl)) rfl rfl dX11_snow_59 ?_
            refine lv_sipush (v := 130) hx hb dX11_snow_62 (by decide) ?_
            refine W.eq (g2 := F0 mM 65 ls [.int (nI 130), .ref (gA G 66)]) rfl ?_
            refine lv_dup2_11 hx hb dX11_snow_65 rfl rfl ?_
            refine r_lald hx hb hW 66 rfl (g_lt hG (by decide)) (g_kd hG (by decide) rfl) (g_ix hG (c := 560) (by decide) rfl (n_inI (by omega) (by decide))) (lN (B 130)) ((congrFun (e_js _ _ _) _).trans (by rw [n_clamp (by omega)]; exact ((up_n _ _ (by omega)).trans (hM 130 (by omega))))) dX11_snow_66 ?_
            refine lv_lconst (v := 1) hx hb dX11_snow_67 (by decide) ?_
            refine lv_ladd hx hb dX11_snow_68 ?_
            rw [show (((lN (B 130)) + 1) : Int64) = (lN ((B 130) + 1)) from lN_add (B 130) 1]
            refine r_last hx hb hW 66 rfl (g_lt hG (by decide)) (g_kd hG (by decide) rfl) (g_ix hG (c := 560) (by decide) rfl (n_inI (by omega) (by decide))) (rj S 66 (va_up (va_up (gj S 66) 0 (lN (B 0 - a1.toNatClampNeg))) ((nI 130)).toNatClampNeg (lN ((B 130) + 1)))) (va_up (gj S 66) 0 (lN (B 0 - a1.toNatClampNeg))) (e_js _ _ _) (e_js _ _ _) rfl rfl c_j dX11_snow_69 (fun H locs hW => ?_)
            rw [show ((nI 130)).toNatClampNeg = 130 from n_clamp (by omega)] at hW
            refine lv_aload_n hx hb dX11_snow_70 rfl (lv_at hl 0 rfl) ?_
            refine r_getr (ci := 10) (C := RX11) (T := TX11) (N := 20) hx hb hts iX11 hown hW rfl 65 0 rfl (g_lt hG (by decide)) (g_kd hG (by decide) rfl) (by decide) q2 (fun _ h9 => h9) (hP _ (List.mem_of_getElem? (i := 60) rfl)) rfl rfl dX11_snow_71 ?_
            refine lv_iconst (v := 0) hx hb dX11_snow_74 (by decide) ?_
            refine W.eq (g2 := F0 mM 75 ls [.int (nI 0), .ref (gA G 66)]) rfl ?_
            refine r_lald hx hb hW 66 rfl (g_lt hG (by decide)) (g_kd hG (by decide) rfl) (g_ix hG (c := 560) (by decide) rfl (n_inI (by omega) (by decide))) (lN (B 0 - a1.toNatClampNeg)) ((congrFun (e_js _ _ _) _).trans (by rw [n_clamp (by omega)]; exact ((up_n _ _ (by omega)).trans (up_s _ _ _)))) dX11_snow_75 ?_
            refine r_lret hx hb hr hlocks hW ?_ dX11_snow_76
            have e : fSnow B a1 = (lN (B 0 - a1.toNatClampNeg), snB B a1.toNatClampNeg) := by unfold fSnow; rw [if_neg h1, if_pos h17]
            rw [e]
            refine ⟨rfl, fun k hk => ?_, fun k hk => ?_, Ch.rj Ch.rf rfl⟩
            · rw [(e_js _ _ _)]
              rcases (show k = 0 ∨ k = 130 ∨ (k ≠ 0 ∧ k ≠ 130) by omega) with z | z | z
              · rw [z, up_n _ _ (by omega), up_s]; rfl
              · rw [z, up_s]; rfl
              · rw [up_n _ _ (by omega), up_n _ _ (by omega)]; show _ = lN (snB B _ k); unfold snB; rw [if_neg (by omega), if_neg (by omega)]; exact hM k hk
            · rw [(e_js _ _ _), up_n _ _ (by omega), up_n _ _ (by omega)]
        · exact absurd c20 (by decide)
      · skip
        refine lv_if_ne (tgt := 27) hx hb dX11_snow_20 (by decide) (fun c20 => ?_) (fun c20 => ?_)
        · exact absurd (by decide) c20
        · skip
          refine lv_ldc2 (v := (-9000000000000000001)) hx hb hown q3 dX11_snow_23 ?_
          refine r_lret hx hb hr hlocks hW ?_ dX11_snow_26
          have e : fSnow B a1 = (BADL, B) := by unfold fSnow; rw [if_neg h1, if_neg h17]
          rw [e]
          exact ⟨rfl, RMw.rf hM⟩
    · exact absurd (by decide) c4

def rmX11_due : Jvm.Room := { frames := 1, cells := 0, slots := 0, locals := 25 }
set_option maxHeartbeats 4000000 in
set_option maxRecDepth 100000 in
theorem t_X11_due (l : Launch) (D : Dc) (G : Gg) (S : Sg) (z : Nat) (hG : GrG G) (hP : GrP G S) (B : Nat → Nat) (c : Nat) (hB : BP B c) (hc : c < 100000) (hM : ∀ k, k < 140 → gj S 66 k = lN (B k)) (a1 a2 : Int32) : ML l yX11_due wsX11_due rmX11_due D G S z [.ref (gA G 65), .int a1, .int a2] (fun r S' => r = fDue B a1 a2 ∧ S' = S) := by
  refine Met.ofW (cc := cX11_due) (maxL := 3) (ret := (some .long)) (by decide +kernel) rfl ?_
  intro pP eE s mM args bl mT cD s₁ bD hml hv
  obtain ⟨rfl, hv⟩ := hv
  have hz := hv.1
  subst hz
  have hx := bD.exec
  have hb := bD.bytes
  have hr := bD.returns
  have hts := atoms_spec (ws := wsX11_due) bD.pre
  have hown : s.vm.findClass RX11 = some mM.cls := findClass_of_methodNamed bD.named
  have hlocks := bD.notSynchronized
  have hW := Wd.start hv
  have hA : ∀ q, s.heap.size ≤ q → AW G s.heap.size q := fun q h => Or.inr h
  have hl := lv_entry ([.ref (gA G 65), .int a1, .int a2]) (n := 3) (Nat.le_of_ble_eq_true rfl)
  rw [lg_entry_eq]
  generalize (lg_sl ([.ref (gA G 65), .int a1, .int a2]) ++ List.replicate (3 - (lg_sl ([.ref (gA G 65), .int a1, .int a2])).length) Slot.unset).toArray = ls at hl ⊢
  have hl : lv_has ls 3 [(0, .ref (gA G 65)), (1, .int a1), (2, .int a2)] := hl
  have q0 := hts (.constantLong RX11 178 (-9000000000000000002)) (List.mem_of_getElem? (i := 1) rfl)
  have q1 := hts (.constantLong RX11 54 (2)) (List.mem_of_getElem? (i := 2) rfl)
  have q2 := hts (.constantLong RX11 184 (9)) (List.mem_of_getElem? (i := 3) rfl)
  have q3 := hts (.constantLong RX11 56 (-9000000000000000001)) (List.mem_of_getElem? (i := 4) rfl)
  have hbp := BP_b hB
  refine lv_aload_n hx hb dX11_due_0 rfl (lv_at hl 0 rfl) ?_
  refine r_calli hW hA (va_runV (As := []) (rest := []) ⟨hx, hb, hml, hown, hts⟩ (t_X11_isNone l D G S _ hG hP B c hB hc hM) (cwV 0 hts gX11_due_X11_isNone rfl rfl rfl (by decide +kernel) ⟨Nat.le_of_ble_eq_true rfl, Nat.le_of_ble_eq_true rfl⟩) (r_preV (k := 65) hA hW (ci := 10) (C := RX11) (T := TX11) (N := 20) rfl rfl (g_lt hG (by decide)) (g_kd hG (by decide) rfl) rfl rfl) rfl rfl hl.1 rfl (lv_room (Nat.le_of_ble_eq_true rfl)) dX11_due_1 ⟨Nat.zero_le _, Nat.zero_le _⟩) (fun r1 S1 H locs hp1 hW => ?_)
  obtain ⟨hs1, hp1⟩ := hp1
  rw [hs1] at hW
  rcases hp1 with ⟨rfl, h1⟩ | ⟨rfl, h1⟩
  · skip
    refine lv_if_eq (tgt := 11) hx hb dX11_due_4 (by decide) (fun c4 => ?_) (fun c4 => ?_)
    · exact absurd c4 (by decide)
    · skip
      refine lv_ldc2 (v := (-9000000000000000002)) hx hb hown q0 dX11_due_7 ?_
      refine r_lret hx hb hr hlocks hW ?_ dX11_due_10
      refine ⟨?_, rfl⟩
      unfold fDue; rw [if_pos h1]; rfl
  · skip
    refine lv_if_eq (tgt := 11) hx hb dX11_due_4 (by decide) (fun c4 => ?_) (fun c4 => ?_)
    · skip
      refine lv_iload_n hx hb dX11_due_11 rfl (lv_at hl 1 rfl) ?_
      refine lv_i2l hx hb dX11_due_12 rfl ?_
      refine lv_lconst (v := 0) hx hb dX11_due_13 (by decide) ?_
      refine lv_ldc2 (v := (2)) hx hb hown q1 dX11_due_14 ?_
      refine r_calli hW hA (va_runS (As := [.long (Int32.toInt64 a1), .long 0, .long (2)]) (rest := []) ⟨hx, hb, hml, hown, hts⟩ (t_X11_in l D G S _ (Int32.toInt64 a1) 0 (2) (a1).toInt 0 2 (Int32.toInt_toInt64 _) (by decide) (by decide)) (va_cwS 3 hts gX11_due_X11_in rfl rfl rfl (by decide +kernel) ⟨Nat.le_of_ble_eq_true rfl, Nat.le_of_ble_eq_true rfl⟩) (r_preS hA hW) rfl rfl hl.1 rfl (lv_room (Nat.le_of_ble_eq_true rfl)) dX11_due_17 ⟨Nat.zero_le _, Nat.zero_le _⟩) (fun r17 S17 H locs hp17 hW => ?_)
      obtain ⟨hs17, hp17⟩ := hp17
      rw [hs17] at hW
      rcases hp17 with ⟨rfl, h17⟩ | ⟨rfl, h17⟩
      · skip
        refine lv_if_eq (tgt := 45) hx hb dX11_due_20 (by decide) (fun c20 => ?_) (fun c20 => ?_)
        · exact absurd c20 (by decide)
        · skip
          refine lv_iload_n hx hb dX11_due_23 rfl (lv_at hl 2 rfl) ?_
          refine lv_i2l hx hb dX11_due_24 rfl ?_
          refine lv_lconst (v := 1) hx hb dX11_due_25 (by decide) ?_
          refine lv_ldc2 (v := (9)) hx hb hown q2 dX11_due_26 ?_
          refine r_calli hW hA (va_runS (As := [.long (Int32.toInt64 a2), .long 1, .long (9)]) (rest := []) ⟨hx, hb, hml, hown, hts⟩ (t_X11_in l D G S _ (Int32.toInt64 a2) 1 (9) (a2).toInt 1 9 (Int32.toInt_toInt64 _) (by decide) (by decide)) (va_cwS 3 hts gX11_due_X11_in rfl rfl rfl (by decide +kernel) ⟨Nat.le_of_ble_eq_true rfl, Nat.le_of_ble_eq_true rfl⟩) (r_preS hA hW) rfl rfl hl.1 rfl (lv_room (Nat.le_of_ble_eq_true rfl)) dX11_due_29 ⟨Nat.zero_le _, Nat.zero_le _⟩) (fun r29 S29 H locs hp29 hW => ?_)
          obtain ⟨hs29, hp29⟩ := hp29
          rw [hs29] at hW
          rcases hp29 with ⟨rfl, h29⟩ | ⟨rfl, h29⟩
          · skip
            refine lv_if_eq (tgt := 45) hx hb dX11_due_32 (by decide) (fun c32 => ?_) (fun c32 => ?_)
            · exact absurd c32 (by decide)
            · skip
              have hn_a1 := n_nat (x := a1) (by omega)
              have e_a1 := n_nI (x := a1) (by omega)
              have hn_a2 := n_nat (x := a2) (by omega)
              have e_a2 := n_nI (x := a2) (by omega)
              have hB1 : BP1 B c := hB.resolve_left (fun z => by have z9 := z.2 132; omega)
              obtain ⟨b0, b1, b2, b3, b4, b5, b6, b7, b8, b9, b10, b11, b12⟩ := id hB1
              have hdl := due_le (t := B 3) (b := B 1) (law := a1.toNatClampNeg) (m := a2.toNatClampNeg) b5 b3 (by omega)
              refine lv_aload_n hx hb dX11_due_35 rfl (lv_at hl 0 rfl) ?_
              refine lv_iload_n hx hb dX11_due_36 rfl (lv_at hl 1 rfl) ?_
              refine lv_iload_n hx hb dX11_due_37 rfl (lv_at hl 2 rfl) ?_
              refine W.eq (g2 := F0 mM 38 ls [.int (nI a2.toNatClampNeg), .int (nI a1.toNatClampNeg), .ref (gA G 65)]) (by rw [← e_a2, ← e_a1]) ?_
              refine r_calli hW hA (va_runV (As := [.int (nI a1.toNatClampNeg), .int (nI a2.toNatClampNeg)]) (rest := []) ⟨hx, hb, hml, hown, hts⟩ (t_X11_dueOf l D G S _ hG hP (B 3) (B 1) a1.toNatClampNeg a2.toNatClampNeg (hM 3 (by omega)) (hM 1 (by omega)) (by omega) (by omega) (by omega) b5 b3) (cwV 2 hts gX11_due_X11_dueOf rfl rfl rfl (by decide +kernel) ⟨Nat.le_of_ble_eq_true rfl, Nat.le_of_ble_eq_true rfl⟩) (r_preV (k := 65) hA hW (ci := 10) (C := RX11) (T := TX11) (N := 20) rfl rfl (g_lt hG (by decide)) (g_kd hG (by decide) rfl) rfl rfl) rfl rfl hl.1 rfl (lv_room (Nat.le_of_ble_eq_true rfl)) dX11_due_38 ⟨Nat.zero_le _, Nat.zero_le _⟩) (fun r38 S38 H locs hp38 hW => ?_)
              obtain ⟨hs38, rfl⟩ := hp38
              rw [hs38] at hW
              refine lv_i2l hx hb dX11_due_41 rfl ?_
              rw [show (Int32.toInt64 (nI (dueN (B 3) (B 1) a1.toNatClampNeg a2.toNatClampNeg)) : Int64) = lN (dueN (B 3) (B 1) a1.toNatClampNeg a2.toNatClampNeg) from lN_of (by omega)]
              refine lv_goto (tgt := 48) hx hb dX11_due_42 (by decide) ?_
              refine r_lret hx hb hr hlocks hW ?_ dX11_due_48
              refine ⟨?_, rfl⟩
              unfold fDue; rw [if_neg h1, if_pos (by omega)]
          · skip
            refine lv_if_eq (tgt := 45) hx hb dX11_due_32 (by decide) (fun c32 => ?_) (fun c32 => ?_)
            · skip
              refine lv_ldc2 (v := (-9000000000000000001)) hx hb hown q3 dX11_due_45 ?_
              refine r_lret hx hb hr hlocks hW ?_ dX11_due_48
              refine ⟨?_, rfl⟩
              unfold fDue; rw [if_neg h1, if_neg (by omega)]; rfl
            · exact absurd (by decide) c32
      · skip
        refine lv_if_eq (tgt := 45) hx hb dX11_due_20 (by decide) (fun c20 => ?_) (fun c20 => ?_)
        · skip
          refine lv_ldc2 (v := (-9000000000000000001)) hx hb hown q3 dX11_due_45 ?_
          refine r_lret hx hb hr hlocks hW ?_ dX11_due_48
          refine ⟨?_, rfl⟩
          unfold fDue; rw [if_neg h1, if_neg (by omega)]; rfl
        · exact absurd (by decide) c20
    · exact absurd (by decide) c4

def rmX11_party : Jvm.Room := { frames := 2, cells := 0, slots := 0, locals := 47 }
set_option maxHeartbeats 4000000 in
set_option maxRecDepth 100000 in
theorem t_X11_party (l : Launch) (D : Dc) (G : Gg) (S : Sg) (z : Nat) (hG : GrG G) (hP : GrP G S) (B : Nat → Nat) (c : Nat) (hB : BP B c) (hc : c < 100000) (hM : ∀ k, k < 140 → gj S 66 k = lN (B k)) (a1 a2 : Int32) : ML l yX11_party wsX11_party rmX11_party D G S z [.ref (gA G 65), .int a1, .int a2] (fun r S' => r = fParty B a1 a2 ∧ S' = S) := by
  refine Met.ofW (cc := cX11_party) (maxL := 3) (ret := (some .long)) (by decide +kernel) rfl ?_
  intro pP eE s mM args bl mT cD s₁ bD hml hv
  obtain ⟨rfl, hv⟩ := hv
  have hz := hv.1
  subst hz
  have hx := bD.exec
  have hb := bD.bytes
  have hr := bD.returns
  have hts := atoms_spec (ws := wsX11_party) bD.pre
  have hown : s.vm.findClass RX11 = some mM.cls := findClass_of_methodNamed bD.named
  have hlocks := bD.notSynchronized
  have hW := Wd.start hv
  have hA : ∀ q, s.heap.size ≤ q → AW G s.heap.size q := fun q h => Or.inr h
  have hl := lv_entry ([.ref (gA G 65), .int a1, .int a2]) (n := 3) (Nat.le_of_ble_eq_true rfl)
  rw [lg_entry_eq]
  generalize (lg_sl ([.ref (gA G 65), .int a1, .int a2]) ++ List.replicate (3 - (lg_sl ([.ref (gA G 65), .int a1, .int a2])).length) Slot.unset).toArray = ls at hl ⊢
  have hl : lv_has ls 3 [(0, .ref (gA G 65)), (1, .int a1), (2, .int a2)] := hl
  have q0 := hts (.constantLong RX11 186 (5)) (List.mem_of_getElem? (i := 1) rfl)
  have q1 := hts (.fieldLink RX11 7 "WoodForTwoModel" "w" "[J") (List.mem_of_getElem? (i := 3) rfl)
  have q2 := hts (.constantLong RX11 56 (-9000000000000000001)) (List.mem_of_getElem? (i := 2) rfl)
  have iX11 : ∀ w ∈ wsX110, w ∈ wsX11_party := fun _ h => List.mem_cons_of_mem _ (List.mem_append_right _ (h))
  have hbp := BP_b hB
  refine lv_aload_n hx hb dX11_party_0 rfl (lv_at hl 0 rfl) ?_
  refine lv_iload_n hx hb dX11_party_1 rfl (lv_at hl 1 rfl) ?_
  refine lv_i2l hx hb dX11_party_2 rfl ?_
  refine r_calli hW hA (va_runV (As := [.long (Int32.toInt64 a1)]) (rest := []) ⟨hx, hb, hml, hown, hts⟩ (t_X11_isParty l D G S _ hG hP B c hB hc hM (Int32.toInt64 a1) (a1).toInt (Int32.toInt_toInt64 _)) (cwV 1 hts gX11_party_X11_isParty rfl rfl rfl (by decide +kernel) ⟨Nat.le_of_ble_eq_true rfl, Nat.le_of_ble_eq_true rfl⟩) (r_preV (k := 65) hA hW (ci := 10) (C := RX11) (T := TX11) (N := 20) rfl rfl (g_lt hG (by decide)) (g_kd hG (by decide) rfl) rfl rfl) rfl rfl hl.1 rfl (lv_room (Nat.le_of_ble_eq_true rfl)) dX11_party_3 ⟨Nat.zero_le _, Nat.zero_le _⟩) (fun r3 S3 H locs hp3 hW => ?_)
  obtain ⟨hs3, hp3⟩ := hp3
  rw [hs3] at hW
  rcases hp3 with ⟨rfl, h3⟩ | ⟨rfl, h3⟩
  · skip
    refine lv_if_eq (tgt := 21) hx hb dX11_party_6 (by decide) (fun c6 => ?_) (fun c6 => ?_)
    · exact absurd c6 (by decide)
    · skip
      refine lv_iload_n hx hb dX11_party_9 rfl (lv_at hl 2 rfl) ?_
      refine lv_i2l hx hb dX11_party_10 rfl ?_
      refine lv_lconst (v := 0) hx hb dX11_party_11 (by decide) ?_
      refine lv_ldc2 (v := (5)) hx hb hown q0 dX11_party_12 ?_
      refine r_calli hW hA (va_runS (As := [.long (Int32.toInt64 a2), .long 0, .long (5)]) (rest := []) ⟨hx, hb, hml, hown, hts⟩ (t_X11_in l D G S _ (Int32.toInt64 a2) 0 (5) (a2).toInt 0 5 (Int32.toInt_toInt64 _) (by decide) (by decide)) (va_cwS 3 hts gX11_party_X11_in rfl rfl rfl (by decide +kernel) ⟨Nat.le_of_ble_eq_true rfl, Nat.le_of_ble_eq_true rfl⟩) (r_preS hA hW) rfl rfl hl.1 rfl (lv_room (Nat.le_of_ble_eq_true rfl)) dX11_party_15 ⟨Nat.zero_le _, Nat.zero_le _⟩) (fun r15 S15 H locs hp15 hW => ?_)
      obtain ⟨hs15, hp15⟩ := hp15
      rw [hs15] at hW
      rcases hp15 with ⟨rfl, h15⟩ | ⟨rfl, h15⟩
      · skip
        refine lv_if_ne (tgt := 25) hx hb dX11_party_18 (by decide) (fun c18 => ?_) (fun c18 => ?_)
        · skip
          have hn_a1 := n_nat (x := a1) (by omega)
          have e_a1 := n_nI (x := a1) (by omega)
          refine lv_iload_n hx hb dX11_party_25 rfl (lv_at hl 2 rfl) ?_
          rcases (show ((a2).toInt < 0 ∨ 4 < (a2).toInt) ∨ (a2).toInt = 0 ∨ (a2).toInt = 1 ∨ (a2).toInt = 2 ∨ (a2).toInt = 3 ∨ (a2).toInt = 4 by omega) with k26 | k26 | k26 | k26 | k26 | k26
          · refine lv_tableOut (tgt := 110) hx hb dX11_party_26 k26 (by decide) ?_
            refine lv_aload_n hx hb dX11_party_110 rfl (lv_at hl 0 rfl) ?_
            refine r_getr (ci := 10) (C := RX11) (T := TX11) (N := 20) hx hb hts iX11 hown hW rfl 65 0 rfl (g_lt hG (by decide)) (g_kd hG (by decide) rfl) (by decide) q1 (fun _ h9 => h9) (hP _ (List.mem_of_getElem? (i := 60) rfl)) rfl rfl dX11_party_111 ?_
            refine lv_bipush (v := 114) hx hb dX11_party_114 (by decide) ?_
            refine lv_iload_n hx hb dX11_party_116 rfl (lv_at hl 1 rfl) ?_
            refine lv_iadd hx hb dX11_party_117 ?_
            rw [show ((114 + a1) : Int32) = (nI (114 + a1.toNatClampNeg)) from (congrArg (fun z => (114 : Int32) + z) e_a1).trans (n_add 114 _)]
            refine r_lald hx hb hW 66 rfl (g_lt hG (by decide)) (g_kd hG (by decide) rfl) (g_ix hG (c := 560) (by decide) rfl (n_inI (by omega) (by decide))) (lN (B (114 + a1.toNatClampNeg))) (by rw [n_clamp (by omega)]; exact (hM (114 + a1.toNatClampNeg) (by omega))) dX11_party_118 ?_
            refine r_lret hx hb hr hlocks hW ?_ dX11_party_119
            refine ⟨?_, rfl⟩
            unfold fParty; rw [if_pos (by omega), if_neg (by omega), if_neg (by omega), if_neg (by omega), if_neg (by omega), if_neg (by omega)]
          · refine lv_tableIn (off := 34) (tgt := 60) hx hb dX11_party_26 (by omega) (by omega) (by rw [k26]; rfl) (by decide) ?_
            refine lv_aload_n hx hb dX11_party_60 rfl (lv_at hl 0 rfl) ?_
            refine r_getr (ci := 10) (C := RX11) (T := TX11) (N := 20) hx hb hts iX11 hown hW rfl 65 0 rfl (g_lt hG (by decide)) (g_kd hG (by decide) rfl) (by decide) q1 (fun _ h9 => h9) (hP _ (List.mem_of_getElem? (i := 60) rfl)) rfl rfl dX11_party_61 ?_
            refine lv_bipush (v := 18) hx hb dX11_party_64 (by decide) ?_
            refine lv_iload_n hx hb dX11_party_66 rfl (lv_at hl 1 rfl) ?_
            refine lv_iadd hx hb dX11_party_67 ?_
            rw [show ((18 + a1) : Int32) = (nI (18 + a1.toNatClampNeg)) from (congrArg (fun z => (18 : Int32) + z) e_a1).trans (n_add 18 _)]
            refine r_lald hx hb hW 66 rfl (g_lt hG (by decide)) (g_kd hG (by decide) rfl) (g_ix hG (c := 560) (by decide) rfl (n_inI (by omega) (by decide))) (lN (B (18 + a1.toNatClampNeg))) (by rw [n_clamp (by omega)]; exact (hM (18 + a1.toNatClampNeg) (by omega))) dX11_party_68 ?_
            refine r_lret hx hb hr hlocks hW ?_ dX11_party_69
            refine ⟨?_, rfl⟩
            unfold fParty; rw [if_pos (by omega), if_pos (by omega)]
          · refine lv_tableIn (off := 44) (tgt := 70) hx hb dX11_party_26 (by omega) (by omega) (by rw [k26]; rfl) (by decide) ?_
            refine lv_aload_n hx hb dX11_party_70 rfl (lv_at hl 0 rfl) ?_
            refine r_getr (ci := 10) (C := RX11) (T := TX11) (N := 20) hx hb hts iX11 hown hW rfl 65 0 rfl (g_lt hG (by decide)) (g_kd hG (by decide) rfl) (by decide) q1 (fun _ h9 => h9) (hP _ (List.mem_of_getElem? (i := 60) rfl)) rfl rfl dX11_party_71 ?_
            refine lv_bipush (v := 50) hx hb dX11_party_74 (by decide) ?_
            refine lv_iload_n hx hb dX11_party_76 rfl (lv_at hl 1 rfl) ?_
            refine lv_iadd hx hb dX11_party_77 ?_
            rw [show ((50 + a1) : Int32) = (nI (50 + a1.toNatClampNeg)) from (congrArg (fun z => (50 : Int32) + z) e_a1).trans (n_add 50 _)]
            refine r_lald hx hb hW 66 rfl (g_lt hG (by decide)) (g_kd hG (by decide) rfl) (g_ix hG (c := 560) (by decide) rfl (n_inI (by omega) (by decide))) (lN (B (50 + a1.toNatClampNeg))) (by rw [n_clamp (by omega)]; exact (hM (50 + a1.toNatClampNeg) (by omega))) dX11_party_78 ?_
            refine r_lret hx hb hr hlocks hW ?_ dX11_party_79
            refine ⟨?_, rfl⟩
            unfold fParty; rw [if_pos (by omega), if_neg (by omega), if_pos (by omega)]
          · refine lv_tableIn (off := 54) (tgt := 80) hx hb dX11_party_26 (by omega) (by omega) (by rw [k26]; rfl) (by decide) ?_
            refine lv_aload_n hx hb dX11_party_80 rfl (lv_at hl 0 rfl) ?_
            refine r_getr (ci := 10) (C := RX11) (T := TX11) (N := 20) hx hb hts iX11 hown hW rfl 65 0 rfl (g_lt hG (by decide)) (g_kd hG (by decide) rfl) (by decide) q1 (fun _ h9 => h9) (hP _ (List.mem_of_getElem? (i := 60) rfl)) rfl rfl dX11_party_81 ?_
            refine lv_bipush (v := 66) hx hb dX11_party_84 (by decide) ?_
            refine lv_iload_n hx hb dX11_party_86 rfl (lv_at hl 1 rfl) ?_
            refine lv_iadd hx hb dX11_party_87 ?_
            rw [show ((66 + a1) : Int32) = (nI (66 + a1.toNatClampNeg)) from (congrArg (fun z => (66 : Int32) + z) e_a1).trans (n_add 66 _)]
            refine r_lald hx hb hW 66 rfl (g_lt hG (by decide)) (g_kd hG (by decide) rfl) (g_ix hG (c := 560) (by decide) rfl (n_inI (by omega) (by decide))) (lN (B (66 + a1.toNatClampNeg))) (by rw [n_clamp (by omega)]; exact (hM (66 + a1.toNatClampNeg) (by omega))) dX11_party_88 ?_
            refine r_lret hx hb hr hlocks hW ?_ dX11_party_89
            refine ⟨?_, rfl⟩
            unfold fParty; rw [if_pos (by omega), if_neg (by omega), if_neg (by omega), if_pos (by omega)]
          · refine lv_tableIn (off := 64) (tgt := 90) hx hb dX11_party_26 (by omega) (by omega) (by rw [k26]; rfl) (by decide) ?_
            refine lv_aload_n hx hb dX11_party_90 rfl (lv_at hl 0 rfl) ?_
            refine r_getr (ci := 10) (C := RX11) (T := TX11) (N := 20) hx hb hts iX11 hown hW rfl 65 0 rfl (g_lt hG (by decide)) (g_kd hG (by decide) rfl) (by decide) q1 (fun _ h9 => h9) (hP _ (List.mem_of_getElem? (i := 60) rfl)) rfl rfl dX11_party_91 ?_
            refine lv_bipush (v := 82) hx hb dX11_party_94 (by decide) ?_
            refine lv_iload_n hx hb dX11_party_96 rfl (lv_at hl 1 rfl) ?_
            refine lv_iadd hx hb dX11_party_97 ?_
            rw [show ((82 + a1) : Int32) = (nI (82 + a1.toNatClampNeg)) from (congrArg (fun z => (82 : Int32) + z) e_a1).trans (n_add 82 _)]
            refine r_lald hx hb hW 66 rfl (g_lt hG (by decide)) (g_kd hG (by decide) rfl) (g_ix hG (c := 560) (by decide) rfl (n_inI (by omega) (by decide))) (lN (B (82 + a1.toNatClampNeg))) (by rw [n_clamp (by omega)]; exact (hM (82 + a1.toNatClampNeg) (by omega))) dX11_party_98 ?_
            refine r_lret hx hb hr hlocks hW ?_ dX11_party_99
            refine ⟨?_, rfl⟩
            unfold fParty; rw [if_pos (by omega), if_neg (by omega), if_neg (by omega), if_neg (by omega), if_pos (by omega)]
          · refine lv_tableIn (off := 74) (tgt := 100) hx hb dX11_party_26 (by omega) (by omega) (by rw [k26]; rfl) (by decide) ?_
            refine lv_aload_n hx hb dX11_party_100 rfl (lv_at hl 0 rfl) ?_
            refine r_getr (ci := 10) (C := RX11) (T := TX11) (N := 20) hx hb hts iX11 hown hW rfl 65 0 rfl (g_lt hG (by decide)) (g_kd hG (by decide) rfl) (by decide) q1 (fun _ h9 => h9) (hP _ (List.mem_of_getElem? (i := 60) rfl)) rfl rfl dX11_party_101 ?_
            refine lv_bipush (v := 98) hx hb dX11_party_104 (by decide) ?_
            refine lv_iload_n hx hb dX11_party_106 rfl (lv_at hl 1 rfl) ?_
            refine lv_iadd hx hb dX11_party_107 ?_
            rw [show ((98 + a1) : Int32) = (nI (98 + a1.toNatClampNeg)) from (congrArg (fun z => (98 : Int32) + z) e_a1).trans (n_add 98 _)]
            refine r_lald hx hb hW 66 rfl (g_lt hG (by decide)) (g_kd hG (by decide) rfl) (g_ix hG (c := 560) (by decide) rfl (n_inI (by omega) (by decide))) (lN (B (98 + a1.toNatClampNeg))) (by rw [n_clamp (by omega)]; exact (hM (98 + a1.toNatClampNeg) (by omega))) dX11_party_108 ?_
            refine r_lret hx hb hr hlocks hW ?_ dX11_party_109
            refine ⟨?_, rfl⟩
            unfold fParty; rw [if_pos (by omega), if_neg (by omega), if_neg (by omega), if_neg (by omega), if_neg (by omega), if_pos (by omega)]
        · exact absurd c18 (by decide)
      · skip
        refine lv_if_ne (tgt := 25) hx hb dX11_party_18 (by decide) (fun c18 => ?_) (fun c18 => ?_)
        · exact absurd (by decide) c18
        · skip
          refine lv_ldc2 (v := (-9000000000000000001)) hx hb hown q2 dX11_party_21 ?_
          refine r_lret hx hb hr hlocks hW ?_ dX11_party_24
          refine ⟨?_, rfl⟩
          unfold fParty; rw [if_neg (by omega)]; rfl
  · skip
    refine lv_if_eq (tgt := 21) hx hb dX11_party_6 (by decide) (fun c6 => ?_) (fun c6 => ?_)
    · skip
      refine lv_ldc2 (v := (-9000000000000000001)) hx hb hown q2 dX11_party_21 ?_
      refine r_lret hx hb hr hlocks hW ?_ dX11_party_24
      refine ⟨?_, rfl⟩
      unfold fParty; rw [if_neg (by omega)]; rfl
    · exact absurd (by decide) c6

def rmX11_copyPass : Jvm.Room := { frames := 0, cells := 0, slots := 0, locals := 0 }
set_option maxHeartbeats 4000000 in
set_option maxRecDepth 100000 in
theorem t_X11_copyPass (l : Launch) (D : Dc) (G : Gg) (S : Sg) (z : Nat) (hG : GrG G) (hP : GrP G S) (x y : Nat) (hx9 : x ≤ 420) (hy9 : y ≤ 420) (hd : x + 140 ≤ y ∨ y + 140 ≤ x) : MV l yX11_copyPass wsX11_copyPass rmX11_copyPass D G S z [.ref (gA G 65), .int (nI x), .int (nI y)] (fun S' => (∀ k, k < 140 → gj S' 66 (y + k) = gj S 66 (x + k)) ∧ (∀ k, (k < y ∨ y + 140 ≤ k) → gj S' 66 k = gj S 66 k) ∧ Ch (fun k => k = 66) S S') := by
  refine Met.ofW (cc := cX11_copyPass) (maxL := 4) (ret := none) (by decide +kernel) rfl ?_
  intro pP eE s mM args bl mT cD s₁ bD hml hv
  obtain ⟨rfl, hv⟩ := hv
  have hz := hv.1
  subst hz
  have hx := bD.exec
  have hb := bD.bytes
  have hr := bD.returns
  have hts := atoms_spec (ws := wsX11_copyPass) bD.pre
  have hown : s.vm.findClass RX11 = some mM.cls := findClass_of_methodNamed bD.named
  have hlocks := bD.notSynchronized
  have hW := Wd.start hv
  have hA : ∀ q, s.heap.size ≤ q → AW G s.heap.size q := fun q h => Or.inr h
  have hl := lv_entry ([.ref (gA G 65), .int (nI x), .int (nI y)]) (n := 4) (Nat.le_of_ble_eq_true rfl)
  rw [lg_entry_eq]
  generalize (lg_sl ([.ref (gA G 65), .int (nI x), .int (nI y)]) ++ List.replicate (4 - (lg_sl ([.ref (gA G 65), .int (nI x), .int (nI y)])).length) Slot.unset).toArray = ls at hl ⊢
  have hl : lv_has ls 4 [(0, .ref (gA G 65)), (1, .int (nI x)), (2, .int (nI y))] := hl
  have q0 := hts (.fieldLink RX11 7 "WoodForTwoModel" "w" "[J") (List.mem_of_getElem? (i := 1) rfl)
  have iX11 : ∀ w ∈ wsX110, w ∈ wsX11_copyPass := fun _ h => List.mem_cons_of_mem _ (List.mem_append_right _ (h))
  generalize hQ0 : MQ bl _ _ s _ _ _ = Q0
  refine lv_iconst (v := 0) hx hb dX11_copyPass_0 (by decide) ?_
  refine lv_istore_n (lv' := [(3, .int 0), (0, .ref (gA G 65)), (1, .int (nI x)), (2, .int (nI y))]) hx hb dX11_copyPass_1 rfl hl (by decide) rfl (fun ls hl => ?_)
  rw [show S = (rj S 66 (gj S 66)) from (rj_id S 66).symm] at hW
  have L2 : ∀ (n : Nat) (k : Nat) (rk : Nat → Int64) (H : Heap) (locs : List Loc) (ls : Array Slot), (140 - k) < n → k ≤ 140 → (∀ j, j < k → rk (y + j) = gj S 66 (x + j)) → (∀ j, (j < y ∨ y + k ≤ j) → rk j = gj S 66 j) → Wd D (AW G s.heap.size) s G (rj S 66 rk) H locs → lv_has ls 4 [(3, .int (nI k)), (0, .ref (gA G 65)), (1, .int (nI x)), (2, .int (nI y))] → W pP l eE (headSpec wsX11_copyPass rmX11_copyPass).room s mM ([.ref (gA G 65), .int (nI x), .int (nI y)] : List Value).toArray bl mT cD H locs 0 0 Q0 (F0 mM 2 ls []) := by
    intro n
    induction n with
    | zero => intro k rk H locs ls hm; exact absurd hm (Nat.not_lt_zero _)
    | succ n ih2 =>
      intro k rk H locs ls hm2 hk hr1 hr2 hW hl
      refine lv_iload_n hx hb dX11_copyPass_2 rfl (lv_at hl 0 rfl) ?_
      refine lv_sipush (v := 140) hx hb dX11_copyPass_3 (by decide) ?_
      refine lv_icmp_ge (tgt := 31) hx hb dX11_copyPass_6 (by decide) (fun c6 => ?_) (fun c6 => ?_)
      · skip
        have hke : k = 140 := by
          have h9 := (n_le (a := 140) (b := k) (by omega) (by omega)).mp c6
          omega
        rw [← hQ0]
        refine r_vret hx hb hr hlocks hW ?_ dX11_copyPass_31
        subst hke
        exact ⟨fun k hk => (congrFun (e_js _ _ _) _).trans (hr1 k hk), fun k hk => (congrFun (e_js _ _ _) _).trans (hr2 k hk), Ch.rj Ch.rf rfl⟩
      · skip
        have hkl : k < 140 := by
          have h9 : ¬ 140 ≤ k := fun z => c6 ((n_le (a := 140) (b := k) (by omega) (by omega)).mpr z)
          omega
        refine lv_aload_n hx hb dX11_copyPass_9 rfl (lv_at hl 1 rfl) ?_
        refine r_getr (ci := 10) (C := RX11) (T := TX11) (N := 20) hx hb hts iX11 hown hW rfl 65 0 rfl (g_lt hG (by decide)) (g_kd hG (by decide) rfl) (by decide) q0 (fun _ h9 => h9) (hP _ (List.mem_of_getElem? (i := 60) rfl)) rfl rfl dX11_copyPass_10 ?_
        refine lv_iload_n hx hb dX11_copyPass_13 rfl (lv_at hl 3 rfl) ?_
        refine lv_iload_n hx hb dX11_copyPass_14 rfl (lv_at hl 0 rfl) ?_
        refine lv_iadd hx hb dX11_copyPass_15 ?_
        rw [show (((nI y) + (nI k)) : Int32) = (nI (y + k)) from n_add y k]
        refine lv_aload_n hx hb dX11_copyPass_16 rfl (lv_at hl 1 rfl) ?_
        refine r_getr (ci := 10) (C := RX11) (T := TX11) (N := 20) hx hb hts iX11 hown hW rfl 65 0 rfl (g_lt hG (by decide)) (g_kd hG (by decide) rfl) (by decide) q0 (fun _ h9 => h9) (hP _ (List.mem_of_getElem? (i := 60) rfl)) rfl rfl dX11_copyPass_17 ?_
        refine lv_iload_n hx hb dX11_copyPass_20 rfl (lv_at hl 2 rfl) ?_
        refine lv_iload_n hx hb dX11_copyPass_21 rfl (lv_at hl 0 rfl) ?_
        refine lv_iadd hx hb dX11_copyPass_22 ?_
        rw [show (((nI x) + (nI k)) : Int32) = (nI (x + k)) from n_add x k]
        refine r_lald hx hb hW 66 rfl (g_lt hG (by decide)) (g_kd hG (by decide) rfl) (g_ix hG (c := 560) (by decide) rfl (n_inI (by omega) (by decide))) (gj S 66 (x + k)) ((congrFun (e_js _ _ _) _).trans (by rw [n_clamp (by omega)]; exact hr2 (x + k) (by omega))) dX11_copyPass_23 ?_
        refine r_last hx hb hW 66 rfl (g_lt hG (by decide)) (g_kd hG (by decide) rfl) (g_ix hG (c := 560) (by decide) rfl (n_inI (by omega) (by decide))) (rj S 66 (va_up rk ((nI (y + k))).toNatClampNeg (gj S 66 (x + k)))) rk (e_js _ _ _) (e_js _ _ _) rfl rfl c_j dX11_copyPass_24 (fun H locs hW => ?_)
        rw [show ((nI (y + k))).toNatClampNeg = (y + k) from n_clamp (by omega)] at hW
        refine lv_iinc (v := (nI (k + 1))) (lv' := [(3, .int (nI (k + 1))), (0, .ref (gA G 65)), (1, .int (nI x)), (2, .int (nI y))]) hx hb dX11_copyPass_25 hl (k := 0) rfl (nI_1 k) (by decide) rfl (fun ls hl => ?_)
        refine lv_goto (tgt := 2) hx hb dX11_copyPass_28 (by decide) ?_
        exact ih2 (k + 1) (va_up rk (y + k) (gj S 66 (x + k))) _ _ ls (by omega) hkl (fun j hj => by
                                                                                by_cases ej : j = k
                                                                                · rw [ej, up_s]
                                                                                · rw [up_n _ _ (by omega)]; exact hr1 j (by omega)) (fun j hj => by rw [up_n _ _ (by omega)]; exact hr2 j (by omega)) hW (lv_sub hl [0, 1, 2, 3] rfl)
  exact L2 _ 0 (gj S 66) _ _ ls (Nat.lt_succ_self _) (Nat.zero_le _) (fun j hj => absurd hj (Nat.not_lt_zero _)) (fun j hj => rfl) hW (lv_sub hl [0, 1, 2, 3] rfl)

def rmX11_image : Jvm.Room := { frames := 1, cells := 0, slots := 0, locals := 25 }
set_option maxHeartbeats 4000000 in
set_option maxRecDepth 100000 in
theorem t_X11_image (l : Launch) (D : Dc) (G : Gg) (S : Sg) (z : Nat) (hG : GrG G) (hP : GrP G S) (B : Nat → Nat) (c : Nat) (hB : BP B c) (hc : c < 100000) (hM : ∀ k, k < 140 → gj S 66 k = lN (B k)) (a1 : Int32) : ML l yX11_image wsX11_image rmX11_image D G S z [.ref (gA G 65), .int a1] (fun r S' => r = fImg B a1 ∧ ((fImg B a1 = 1 ∧ (∀ k, k < 140 → gj S' 66 (140 * (a1.toNatClampNeg + 1) + k) = lN (B k)) ∧ (∀ k, (k < 140 * (a1.toNatClampNeg + 1) ∨ 140 * (a1.toNatClampNeg + 1) + 140 ≤ k) → gj S' 66 k = gj S 66 k) ∧ Ch (fun k => k = 66) S S') ∨ (fImg B a1 ≠ 1 ∧ S' = S))) := by
  refine Met.ofW (cc := cX11_image) (maxL := 2) (ret := (some .long)) (by decide +kernel) rfl ?_
  intro pP eE s mM args bl mT cD s₁ bD hml hv
  obtain ⟨rfl, hv⟩ := hv
  have hz := hv.1
  subst hz
  have hx := bD.exec
  have hb := bD.bytes
  have hr := bD.returns
  have hts := atoms_spec (ws := wsX11_image) bD.pre
  have hown : s.vm.findClass RX11 = some mM.cls := findClass_of_methodNamed bD.named
  have hlocks := bD.notSynchronized
  have hW := Wd.start hv
  have hA : ∀ q, s.heap.size ≤ q → AW G s.heap.size q := fun q h => Or.inr h
  have hl := lv_entry ([.ref (gA G 65), .int a1]) (n := 2) (Nat.le_of_ble_eq_true rfl)
  rw [lg_entry_eq]
  generalize (lg_sl ([.ref (gA G 65), .int a1]) ++ List.replicate (2 - (lg_sl ([.ref (gA G 65), .int a1])).length) Slot.unset).toArray = ls at hl ⊢
  have hl : lv_has ls 2 [(0, .ref (gA G 65)), (1, .int a1)] := hl
  have q0 := hts (.constantLong RX11 178 (-9000000000000000002)) (List.mem_of_getElem? (i := 2) rfl)
  have q1 := hts (.constantLong RX11 56 (-9000000000000000001)) (List.mem_of_getElem? (i := 1) rfl)
  have hbp := BP_b hB
  refine lv_iload_n hx hb dX11_image_0 rfl (lv_at hl 1 rfl) ?_
  refine lv_i2l hx hb dX11_image_1 rfl ?_
  refine lv_lconst (v := 0) hx hb dX11_image_2 (by decide) ?_
  refine lv_lconst (v := 1) hx hb dX11_image_3 (by decide) ?_
  refine r_calli hW hA (va_runS (As := [.long (Int32.toInt64 a1), .long 0, .long 1]) (rest := []) ⟨hx, hb, hml, hown, hts⟩ (t_X11_in l D G S _ (Int32.toInt64 a1) 0 1 (a1).toInt 0 1 (Int32.toInt_toInt64 _) (by decide) (by decide)) (va_cwS 3 hts gX11_image_X11_in rfl rfl rfl (by decide +kernel) ⟨Nat.le_of_ble_eq_true rfl, Nat.le_of_ble_eq_true rfl⟩) (r_preS hA hW) rfl rfl hl.1 rfl (lv_room (Nat.le_of_ble_eq_true rfl)) dX11_image_4 ⟨Nat.zero_le _, Nat.zero_le _⟩) (fun r4 S4 H locs hp4 hW => ?_)
  obtain ⟨hs4, hp4⟩ := hp4
  rw [hs4] at hW
  rcases hp4 with ⟨rfl, h4⟩ | ⟨rfl, h4⟩
  · skip
    refine lv_if_ne (tgt := 14) hx hb dX11_image_7 (by decide) (fun c7 => ?_) (fun c7 => ?_)
    · skip
      refine lv_aload_n hx hb dX11_image_14 rfl (lv_at hl 0 rfl) ?_
      refine r_calli hW hA (va_runV (As := []) (rest := []) ⟨hx, hb, hml, hown, hts⟩ (t_X11_isNone l D G S _ hG hP B c hB hc hM) (cwV 0 hts gX11_image_X11_isNone rfl rfl rfl (by decide +kernel) ⟨Nat.le_of_ble_eq_true rfl, Nat.le_of_ble_eq_true rfl⟩) (r_preV (k := 65) hA hW (ci := 10) (C := RX11) (T := TX11) (N := 20) rfl rfl (g_lt hG (by decide)) (g_kd hG (by decide) rfl) rfl rfl) rfl rfl hl.1 rfl (lv_room (Nat.le_of_ble_eq_true rfl)) dX11_image_15 ⟨Nat.zero_le _, Nat.zero_le _⟩) (fun r15 S15 H locs hp15 hW => ?_)
      obtain ⟨hs15, hp15⟩ := hp15
      rw [hs15] at hW
      rcases hp15 with ⟨rfl, h15⟩ | ⟨rfl, h15⟩
      · skip
        refine lv_if_eq (tgt := 25) hx hb dX11_image_18 (by decide) (fun c18 => ?_) (fun c18 => ?_)
        · exact absurd c18 (by decide)
        · skip
          refine lv_ldc2 (v := (-9000000000000000002)) hx hb hown q0 dX11_image_21 ?_
          refine r_lret hx hb hr hlocks hW ?_ dX11_image_24
          have e : fImg B a1 = STATEL := by unfold fImg; rw [if_pos (by omega), if_pos h15]
          rw [e]
          exact ⟨rfl, Or.inr ⟨by decide, rfl⟩⟩
      · skip
        refine lv_if_eq (tgt := 25) hx hb dX11_image_18 (by decide) (fun c18 => ?_) (fun c18 => ?_)
        · skip
          rcases (show a1.toInt = 0 ∨ a1.toInt = 1 by omega) with ka | ka
          · have ea : a1 = 0 := by rw [t_eq, ka]; decide
            refine lv_aload_n hx hb dX11_image_25 rfl (lv_at hl 0 rfl) ?_
            refine lv_iconst (v := 0) hx hb dX11_image_26 (by decide) ?_
            refine lv_sipush (v := 140) hx hb dX11_image_27 (by decide) ?_
            refine lv_sipush (v := 140) hx hb dX11_image_30 (by decide) ?_
            refine lv_iload_n hx hb dX11_image_33 rfl (lv_at hl 1 rfl) ?_
            refine lv_imul hx hb dX11_image_34 ?_
            refine lv_iadd hx hb dX11_image_35 ?_
            refine W.eq (g2 := F0 mM 36 ls [.int (nI 140), .int (nI 0), .ref (gA G 65)]) (by rw [ea]; rfl) ?_
            refine r_callv hW hA (va_runV (As := [.int (nI 0), .int (nI 140)]) (rest := []) ⟨hx, hb, hml, hown, hts⟩ (t_X11_copyPass l D G S _ hG hP 0 140 (by omega) (by omega) (by omega)) (cwV 2 hts gX11_image_X11_copyPass rfl rfl rfl (by decide +kernel) ⟨Nat.le_of_ble_eq_true rfl, Nat.le_of_ble_eq_true rfl⟩) (r_preV (k := 65) hA hW (ci := 10) (C := RX11) (T := TX11) (N := 20) rfl rfl (g_lt hG (by decide)) (g_kd hG (by decide) rfl) rfl rfl) rfl rfl hl.1 rfl (lv_room (Nat.le_of_ble_eq_true rfl)) dX11_image_36 ⟨Nat.zero_le _, Nat.zero_le _⟩) (fun S36 H locs hp36 hW => ?_)
            obtain ⟨hca, hcb, hcc⟩ := hp36
            refine lv_lconst (v := 1) hx hb dX11_image_39 (by decide) ?_
            refine r_lret hx hb hr hlocks hW ?_ dX11_image_40
            have e : fImg B a1 = 1 := by unfold fImg; rw [if_pos (by omega), if_neg (by omega)]
            have en : a1.toNatClampNeg = 0 := by rw [ea]; decide
            rw [e, en]
            exact ⟨rfl, Or.inl ⟨rfl, fun k hk => (hca k hk).trans (by rw [Nat.zero_add]; exact hM k hk), hcb, hcc⟩⟩
          · have ea : a1 = 1 := by rw [t_eq, ka]; decide
            refine lv_aload_n hx hb dX11_image_25 rfl (lv_at hl 0 rfl) ?_
            refine lv_iconst (v := 0) hx hb dX11_image_26 (by decide) ?_
            refine lv_sipush (v := 140) hx hb dX11_image_27 (by decide) ?_
            refine lv_sipush (v := 140) hx hb dX11_image_30 (by decide) ?_
            refine lv_iload_n hx hb dX11_image_33 rfl (lv_at hl 1 rfl) ?_
            refine lv_imul hx hb dX11_image_34 ?_
            refine lv_iadd hx hb dX11_image_35 ?_
            refine W.eq (g2 := F0 mM 36 ls [.int (nI 280), .int (nI 0), .ref (gA G 65)]) (by rw [ea]; rfl) ?_
            refine r_callv hW hA (va_runV (As := [.int (nI 0), .int (nI 280)]) (rest := []) ⟨hx, hb, hml, hown, hts⟩ (t_X11_copyPass l D G S _ hG hP 0 280 (by omega) (by omega) (by omega)) (cwV 2 hts gX11_image_X11_copyPass rfl rfl rfl (by decide +kernel) ⟨Nat.le_of_ble_eq_true rfl, Nat.le_of_ble_eq_true rfl⟩) (r_preV (k := 65) hA hW (ci := 10) (C := RX11) (T := TX11) (N := 20) rfl rfl (g_lt hG (by decide)) (g_kd hG (by decide) rfl) rfl rfl) rfl rfl hl.1 rfl (lv_room (Nat.le_of_ble_eq_true rfl)) dX11_image_36 ⟨Nat.zero_le _, Nat.zero_le _⟩) (fun S36 H locs hp36 hW => ?_)
            obtain ⟨hca, hcb, hcc⟩ := hp36
            refine lv_lconst (v := 1) hx hb dX11_image_39 (by decide) ?_
            refine r_lret hx hb hr hlocks hW ?_ dX11_image_40
            have e : fImg B a1 = 1 := by unfold fImg; rw [if_pos (by omega), if_neg (by omega)]
            have en : a1.toNatClampNeg = 1 := by rw [ea]; decide
            rw [e, en]
            exact ⟨rfl, Or.inl ⟨rfl, fun k hk => (hca k hk).trans (by rw [Nat.zero_add]; exact hM k hk), hcb, hcc⟩⟩
        · exact absurd (by decide) c18
    · exact absurd c7 (by decide)
  · skip
    refine lv_if_ne (tgt := 14) hx hb dX11_image_7 (by decide) (fun c7 => ?_) (fun c7 => ?_)
    · exact absurd (by decide) c7
    · skip
      refine lv_ldc2 (v := (-9000000000000000001)) hx hb hown q1 dX11_image_10 ?_
      refine r_lret hx hb hr hlocks hW ?_ dX11_image_13
      have e : fImg B a1 = BADL := by unfold fImg; rw [if_neg (by omega)]
      rw [e]
      exact ⟨rfl, Or.inr ⟨by decide, rfl⟩⟩

def rmX11_restore : Jvm.Room := { frames := 1, cells := 0, slots := 0, locals := 25 }
set_option maxHeartbeats 4000000 in
set_option maxRecDepth 100000 in
theorem t_X11_restore (l : Launch) (D : Dc) (G : Gg) (S : Sg) (z : Nat) (hG : GrG G) (hP : GrP G S) (B1 B2 : Nat → Nat) (c : Nat) (hBa : BP B1 c) (hBb : BP B2 c) (hM1 : ∀ k, k < 140 → gj S 66 (140 + k) = lN (B1 k)) (hM2 : ∀ k, k < 140 → gj S 66 (280 + k) = lN (B2 k)) (a1 : Int32) : ML l yX11_restore wsX11_restore rmX11_restore D G S z [.ref (gA G 65), .int a1] (fun r S' => r = fRes B1 B2 a1 ∧ ((fRes B1 B2 a1 = 1 ∧ RMw S S' (if a1.toInt = 0 then B1 else B2)) ∨ (fRes B1 B2 a1 ≠ 1 ∧ S' = S))) := by
  refine Met.ofW (cc := cX11_restore) (maxL := 2) (ret := (some .long)) (by decide +kernel) rfl ?_
  intro pP eE s mM args bl mT cD s₁ bD hml hv
  obtain ⟨rfl, hv⟩ := hv
  have hz := hv.1
  subst hz
  have hx := bD.exec
  have hb := bD.bytes
  have hr := bD.returns
  have hts := atoms_spec (ws := wsX11_restore) bD.pre
  have hown : s.vm.findClass RX11 = some mM.cls := findClass_of_methodNamed bD.named
  have hlocks := bD.notSynchronized
  have hW := Wd.start hv
  have hA : ∀ q, s.heap.size ≤ q → AW G s.heap.size q := fun q h => Or.inr h
  have hl := lv_entry ([.ref (gA G 65), .int a1]) (n := 2) (Nat.le_of_ble_eq_true rfl)
  rw [lg_entry_eq]
  generalize (lg_sl ([.ref (gA G 65), .int a1]) ++ List.replicate (2 - (lg_sl ([.ref (gA G 65), .int a1])).length) Slot.unset).toArray = ls at hl ⊢
  have hl : lv_has ls 2 [(0, .ref (gA G 65)), (1, .int a1)] := hl
  have q0 := hts (.fieldLink RX11 7 "WoodForTwoModel" "w" "[J") (List.mem_of_getElem? (i := 2) rfl)
  have q1 := hts (.constantLong RX11 178 (-9000000000000000002)) (List.mem_of_getElem? (i := 3) rfl)
  have q2 := hts (.constantLong RX11 56 (-9000000000000000001)) (List.mem_of_getElem? (i := 1) rfl)
  have iX11 : ∀ w ∈ wsX110, w ∈ wsX11_restore := fun _ h => List.mem_cons_of_mem _ (List.mem_append_right _ (h))
  have ha := BP_b hBa
  have hb2 := BP_b hBb
  refine lv_iload_n hx hb dX11_restore_0 rfl (lv_at hl 1 rfl) ?_
  refine lv_i2l hx hb dX11_restore_1 rfl ?_
  refine lv_lconst (v := 0) hx hb dX11_restore_2 (by decide) ?_
  refine lv_lconst (v := 1) hx hb dX11_restore_3 (by decide) ?_
  refine r_calli hW hA (va_runS (As := [.long (Int32.toInt64 a1), .long 0, .long 1]) (rest := []) ⟨hx, hb, hml, hown, hts⟩ (t_X11_in l D G S _ (Int32.toInt64 a1) 0 1 (a1).toInt 0 1 (Int32.toInt_toInt64 _) (by decide) (by decide)) (va_cwS 3 hts gX11_restore_X11_in rfl rfl rfl (by decide +kernel) ⟨Nat.le_of_ble_eq_true rfl, Nat.le_of_ble_eq_true rfl⟩) (r_preS hA hW) rfl rfl hl.1 rfl (lv_room (Nat.le_of_ble_eq_true rfl)) dX11_restore_4 ⟨Nat.zero_le _, Nat.zero_le _⟩) (fun r4 S4 H locs hp4 hW => ?_)
  obtain ⟨hs4, hp4⟩ := hp4
  rw [hs4] at hW
  rcases hp4 with ⟨rfl, h4⟩ | ⟨rfl, h4⟩
  · skip
    refine lv_if_ne (tgt := 14) hx hb dX11_restore_7 (by decide) (fun c7 => ?_) (fun c7 => ?_)
    · skip
      rcases (show a1.toInt = 0 ∨ a1.toInt = 1 by omega) with ka | ka
      · have ea : a1 = 0 := by rw [t_eq, ka]; decide
        refine lv_aload_n hx hb dX11_restore_14 rfl (lv_at hl 0 rfl) ?_
        refine r_getr (ci := 10) (C := RX11) (T := TX11) (N := 20) hx hb hts iX11 hown hW rfl 65 0 rfl (g_lt hG (by decide)) (g_kd hG (by decide) rfl) (by decide) q0 (fun _ h9 => h9) (hP _ (List.mem_of_getElem? (i := 60) rfl)) rfl rfl dX11_restore_15 ?_
        refine lv_sipush (v := 140) hx hb dX11_restore_18 (by decide) ?_
        refine lv_sipush (v := 140) hx hb dX11_restore_21 (by decide) ?_
        refine lv_iload_n hx hb dX11_restore_24 rfl (lv_at hl 1 rfl) ?_
        refine lv_imul hx hb dX11_restore_25 ?_
        refine lv_iadd hx hb dX11_restore_26 ?_
        refine lv_sipush (v := 132) hx hb dX11_restore_27 (by decide) ?_
        refine lv_iadd hx hb dX11_restore_30 ?_
        refine W.eq (g2 := F0 mM 31 ls [.int (nI (140 + 132)), .ref (gA G 66)]) (by rw [ea]; rfl) ?_
        refine r_lald hx hb hW 66 rfl (g_lt hG (by decide)) (g_kd hG (by decide) rfl) (g_ix hG (c := 560) (by decide) rfl (n_inI (by omega) (by decide))) (lN (B1 132)) (by rw [n_clamp (by omega)]; exact hM1 132 (by omega)) dX11_restore_31 ?_
        refine lv_lconst (v := 0) hx hb dX11_restore_32 (by decide) ?_
        refine W.lcmp hx hb dX11_restore_33 ?_
        refine lv_if_ne (tgt := 41) hx hb dX11_restore_34 (by decide) (fun c34 => ?_) (fun c34 => ?_)
        · skip
          rw [lc_ne] at c34
          rw [lN_int (by omega), show (0 : Int64).toInt = 0 from by decide] at c34
          refine lv_aload_n hx hb dX11_restore_41 rfl (lv_at hl 0 rfl) ?_
          refine lv_sipush (v := 140) hx hb dX11_restore_42 (by decide) ?_
          refine lv_sipush (v := 140) hx hb dX11_restore_45 (by decide) ?_
          refine lv_iload_n hx hb dX11_restore_48 rfl (lv_at hl 1 rfl) ?_
          refine lv_imul hx hb dX11_restore_49 ?_
          refine lv_iadd hx hb dX11_restore_50 ?_
          refine lv_iconst (v := 0) hx hb dX11_restore_51 (by decide) ?_
          refine W.eq (g2 := F0 mM 52 ls [.int (nI 0), .int (nI 140), .ref (gA G 65)]) (by rw [ea]; rfl) ?_
          refine r_callv hW hA (va_runV (As := [.int (nI 140), .int (nI 0)]) (rest := []) ⟨hx, hb, hml, hown, hts⟩ (t_X11_copyPass l D G S _ hG hP 140 0 (by omega) (by omega) (by omega)) (cwV 2 hts gX11_restore_X11_copyPass rfl rfl rfl (by decide +kernel) ⟨Nat.le_of_ble_eq_true rfl, Nat.le_of_ble_eq_true rfl⟩) (r_preV (k := 65) hA hW (ci := 10) (C := RX11) (T := TX11) (N := 20) rfl rfl (g_lt hG (by decide)) (g_kd hG (by decide) rfl) rfl rfl) rfl rfl hl.1 rfl (lv_room (Nat.le_of_ble_eq_true rfl)) dX11_restore_52 ⟨Nat.zero_le _, Nat.zero_le _⟩) (fun S52 H locs hp52 hW => ?_)
          obtain ⟨hca, hcb, hcc⟩ := hp52
          refine lv_lconst (v := 1) hx hb dX11_restore_55 (by decide) ?_
          refine r_lret hx hb hr hlocks hW ?_ dX11_restore_56
          have ei : (if a1.toInt = 0 then B1 else B2) = B1 := if_pos ka
          have e : fRes B1 B2 a1 = 1 := by unfold fRes; rw [if_pos (by omega), ei, if_neg (by omega)]
          rw [e, ei]
          exact ⟨rfl, Or.inl ⟨rfl, fun k hk => (by have z := hca k hk; rw [Nat.zero_add] at z; exact z.trans (hM1 k hk)), fun k hk => hcb k (Or.inr (by omega)), hcc⟩⟩
        · skip
          rw [lc_ne] at c34
          rw [lN_int (by omega), show (0 : Int64).toInt = 0 from by decide] at c34
          refine lv_ldc2 (v := (-9000000000000000002)) hx hb hown q1 dX11_restore_37 ?_
          refine r_lret hx hb hr hlocks hW ?_ dX11_restore_40
          have ei : (if a1.toInt = 0 then B1 else B2) = B1 := if_pos ka
          have e : fRes B1 B2 a1 = STATEL := by unfold fRes; rw [if_pos (by omega), ei, if_pos (by omega)]
          rw [e]
          exact ⟨rfl, Or.inr ⟨by decide, rfl⟩⟩
      · have ea : a1 = 1 := by rw [t_eq, ka]; decide
        refine lv_aload_n hx hb dX11_restore_14 rfl (lv_at hl 0 rfl) ?_
        refine r_getr (ci := 10) (C := RX11) (T := TX11) (N := 20) hx hb hts iX11 hown hW rfl 65 0 rfl (g_lt hG (by decide)) (g_kd hG (by decide) rfl) (by decide) q0 (fun _ h9 => h9) (hP _ (List.mem_of_getElem? (i := 60) rfl)) rfl rfl dX11_restore_15 ?_
        refine lv_sipush (v := 140) hx hb dX11_restore_18 (by decide) ?_
        refine lv_sipush (v := 140) hx hb dX11_restore_21 (by decide) ?_
        refine lv_iload_n hx hb dX11_restore_24 rfl (lv_at hl 1 rfl) ?_
        refine lv_imul hx hb dX11_restore_25 ?_
        refine lv_iadd hx hb dX11_restore_26 ?_
        refine lv_sipush (v := 132) hx hb dX11_restore_27 (by decide) ?_
        refine lv_iadd hx hb dX11_restore_30 ?_
        refine W.eq (g2 := F0 mM 31 ls [.int (nI (280 + 132)), .ref (gA G 66)]) (by rw [ea]; rfl) ?_
        refine r_lald hx hb hW 66 rfl (g_lt hG (by decide)) (g_kd hG (by decide) rfl) (g_ix hG (c := 560) (by decide) rfl (n_inI (by omega) (by decide))) (lN (B2 132)) (by rw [n_clamp (by omega)]; exact hM2 132 (by omega)) dX11_restore_31 ?_
        refine lv_lconst (v := 0) hx hb dX11_restore_32 (by decide) ?_
        refine W.lcmp hx hb dX11_restore_33 ?_
        refine lv_if_ne (tgt := 41) hx hb dX11_restore_34 (by decide) (fun c34 => ?_) (fun c34 => ?_)
        · skip
          rw [lc_ne] at c34
          rw [lN_int (by omega), show (0 : Int64).toInt = 0 from by decide] at c34
          refine lv_aload_n hx hb dX11_restore_41 rfl (lv_at hl 0 rfl) ?_
          refine lv_sipush (v := 140) hx hb dX11_restore_42 (by decide) ?_
          refine lv_sipush (v := 140) hx hb dX11_restore_45 (by decide) ?_
          refine lv_iload_n hx hb dX11_restore_48 rfl (lv_at hl 1 rfl) ?_
          refine lv_imul hx hb dX11_restore_49 ?_
          refine lv_iadd hx hb dX11_restore_50 ?_
          refine lv_iconst (v := 0) hx hb dX11_restore_51 (by decide) ?_
          refine W.eq (g2 := F0 mM 52 ls [.int (nI 0), .int (nI 280), .ref (gA G 65)]) (by rw [ea]; rfl) ?_
          refine r_callv hW hA (va_runV (As := [.int (nI 280), .int (nI 0)]) (rest := []) ⟨hx, hb, hml, hown, hts⟩ (t_X11_copyPass l D G S _ hG hP 280 0 (by omega) (by omega) (by omega)) (cwV 2 hts gX11_restore_X11_copyPass rfl rfl rfl (by decide +kernel) ⟨Nat.le_of_ble_eq_true rfl, Nat.le_of_ble_eq_true rfl⟩) (r_preV (k := 65) hA hW (ci := 10) (C := RX11) (T := TX11) (N := 20) rfl rfl (g_lt hG (by decide)) (g_kd hG (by decide) rfl) rfl rfl) rfl rfl hl.1 rfl (lv_room (Nat.le_of_ble_eq_true rfl)) dX11_restore_52 ⟨Nat.zero_le _, Nat.zero_le _⟩) (fun S52 H locs hp52 hW => ?_)
          obtain ⟨hca, hcb, hcc⟩ := hp52
          refine lv_lconst (v := 1) hx hb dX11_restore_55 (by decide) ?_
          refine r_lret hx hb hr hlocks hW ?_ dX11_restore_56
          have ei : (if a1.toInt = 0 then B1 else B2) = B2 := if_neg (by omega)
          have e : fRes B1 B2 a1 = 1 := by unfold fRes; rw [if_pos (by omega), ei, if_neg (by omega)]
          rw [e, ei]
          exact ⟨rfl, Or.inl ⟨rfl, fun k hk => (by have z := hca k hk; rw [Nat.zero_add] at z; exact z.trans (hM2 k hk)), fun k hk => hcb k (Or.inr (by omega)), hcc⟩⟩
        · skip
          rw [lc_ne] at c34
          rw [lN_int (by omega), show (0 : Int64).toInt = 0 from by decide] at c34
          refine lv_ldc2 (v := (-9000000000000000002)) hx hb hown q1 dX11_restore_37 ?_
          refine r_lret hx hb hr hlocks hW ?_ dX11_restore_40
          have ei : (if a1.toInt = 0 then B1 else B2) = B2 := if_neg (by omega)
          have e : fRes B1 B2 a1 = STATEL := by unfold fRes; rw [if_pos (by omega), ei, if_pos (by omega)]
          rw [e]
          exact ⟨rfl, Or.inr ⟨by decide, rfl⟩⟩
    · exact absurd c7 (by decide)
  · skip
    refine lv_if_ne (tgt := 14) hx hb dX11_restore_7 (by decide) (fun c7 => ?_) (fun c7 => ?_)
    · exact absurd (by decide) c7
    · skip
      refine lv_ldc2 (v := (-9000000000000000001)) hx hb hown q2 dX11_restore_10 ?_
      refine r_lret hx hb hr hlocks hW ?_ dX11_restore_13
      have e : fRes B1 B2 a1 = BADL := by unfold fRes; rw [if_neg (by omega)]
      rw [e]
      exact ⟨rfl, Or.inr ⟨by decide, rfl⟩⟩

def rmX11_kind : Jvm.Room := { frames := 2, cells := 0, slots := 0, locals := 47 }
set_option maxHeartbeats 4000000 in
set_option maxRecDepth 100000 in
theorem t_X11_kind (l : Launch) (D : Dc) (G : Gg) (S : Sg) (z : Nat) (hG : GrG G) (hP : GrP G S) (B : Nat → Nat) (c : Nat) (hB : BP B c) (hc : c < 100000) (hM : ∀ k, k < 140 → gj S 66 k = lN (B k)) (a1 : Int32) : ML l yX11_kind wsX11_kind rmX11_kind D G S z [.ref (gA G 65), .int a1] (fun r S' => r = fKind B a1 ∧ S' = S) := by
  refine Met.ofW (cc := cX11_kind) (maxL := 2) (ret := (some .long)) (by decide +kernel) rfl ?_
  intro pP eE s mM args bl mT cD s₁ bD hml hv
  obtain ⟨rfl, hv⟩ := hv
  have hz := hv.1
  subst hz
  have hx := bD.exec
  have hb := bD.bytes
  have hr := bD.returns
  have hts := atoms_spec (ws := wsX11_kind) bD.pre
  have hown : s.vm.findClass RX11 = some mM.cls := findClass_of_methodNamed bD.named
  have hlocks := bD.notSynchronized
  have hW := Wd.start hv
  have hA : ∀ q, s.heap.size ≤ q → AW G s.heap.size q := fun q h => Or.inr h
  have hl := lv_entry ([.ref (gA G 65), .int a1]) (n := 2) (Nat.le_of_ble_eq_true rfl)
  rw [lg_entry_eq]
  generalize (lg_sl ([.ref (gA G 65), .int a1]) ++ List.replicate (2 - (lg_sl ([.ref (gA G 65), .int a1])).length) Slot.unset).toArray = ls at hl ⊢
  have hl : lv_has ls 2 [(0, .ref (gA G 65)), (1, .int a1)] := hl
  have q0 := hts (.constantLong RX11 56 (-9000000000000000001)) (List.mem_of_getElem? (i := 1) rfl)
  have hbp := BP_b hB
  refine lv_aload_n hx hb dX11_kind_0 rfl (lv_at hl 0 rfl) ?_
  refine lv_iload_n hx hb dX11_kind_1 rfl (lv_at hl 1 rfl) ?_
  refine lv_i2l hx hb dX11_kind_2 rfl ?_
  refine r_calli hW hA (va_runV (As := [.long (Int32.toInt64 a1)]) (rest := []) ⟨hx, hb, hml, hown, hts⟩ (t_X11_isParty l D G S _ hG hP B c hB hc hM (Int32.toInt64 a1) (a1).toInt (Int32.toInt_toInt64 _)) (cwV 1 hts gX11_kind_X11_isParty rfl rfl rfl (by decide +kernel) ⟨Nat.le_of_ble_eq_true rfl, Nat.le_of_ble_eq_true rfl⟩) (r_preV (k := 65) hA hW (ci := 10) (C := RX11) (T := TX11) (N := 20) rfl rfl (g_lt hG (by decide)) (g_kd hG (by decide) rfl) rfl rfl) rfl rfl hl.1 rfl (lv_room (Nat.le_of_ble_eq_true rfl)) dX11_kind_3 ⟨Nat.zero_le _, Nat.zero_le _⟩) (fun r3 S3 H locs hp3 hW => ?_)
  obtain ⟨hs3, hp3⟩ := hp3
  rw [hs3] at hW
  rcases hp3 with ⟨rfl, h3⟩ | ⟨rfl, h3⟩
  · skip
    refine lv_if_eq (tgt := 18) hx hb dX11_kind_6 (by decide) (fun c6 => ?_) (fun c6 => ?_)
    · exact absurd c6 (by decide)
    · skip
      have hn_a1 := n_nat (x := a1) (by omega)
      have e_a1 := n_nI (x := a1) (by omega)
      have hB1 : BP1 B c := hB.resolve_left (fun z => by have z9 := z.2 17; omega)
      refine lv_aload_n hx hb dX11_kind_9 rfl (lv_at hl 0 rfl) ?_
      refine lv_iload_n hx hb dX11_kind_10 rfl (lv_at hl 1 rfl) ?_
      refine W.eq (g2 := F0 mM 11 ls [.int (nI a1.toNatClampNeg), .ref (gA G 65)]) (by rw [← e_a1]) ?_
      refine r_calli hW hA (va_runV (As := [.int (nI a1.toNatClampNeg)]) (rest := []) ⟨hx, hb, hml, hown, hts⟩ (t_X11_kindOf l D G S _ hG hP B c hB1 hc hM a1.toNatClampNeg (by omega)) (cwV 1 hts gX11_kind_X11_kindOf rfl rfl rfl (by decide +kernel) ⟨Nat.le_of_ble_eq_true rfl, Nat.le_of_ble_eq_true rfl⟩) (r_preV (k := 65) hA hW (ci := 10) (C := RX11) (T := TX11) (N := 20) rfl rfl (g_lt hG (by decide)) (g_kd hG (by decide) rfl) rfl rfl) rfl rfl hl.1 rfl (lv_room (Nat.le_of_ble_eq_true rfl)) dX11_kind_11 ⟨Nat.zero_le _, Nat.zero_le _⟩) (fun r11 S11 H locs hp11 hW => ?_)
      obtain ⟨hs11, rfl⟩ := hp11
      rw [hs11] at hW
      refine lv_i2l hx hb dX11_kind_14 rfl ?_
      refine lv_goto (tgt := 21) hx hb dX11_kind_15 (by decide) ?_
      refine r_lret hx hb hr hlocks hW ?_ dX11_kind_21
      refine ⟨?_, rfl⟩
      unfold fKind; rw [if_pos h3]; exact lN_of (by unfold kdN; (repeat' split) <;> omega)
  · skip
    refine lv_if_eq (tgt := 18) hx hb dX11_kind_6 (by decide) (fun c6 => ?_) (fun c6 => ?_)
    · skip
      refine lv_ldc2 (v := (-9000000000000000001)) hx hb hown q0 dX11_kind_18 ?_
      refine r_lret hx hb hr hlocks hW ?_ dX11_kind_21
      refine ⟨?_, rfl⟩
      unfold fKind; rw [if_neg h3]; rfl
    · exact absurd (by decide) c6

def rmX11_as : Jvm.Room := { frames := 2, cells := 0, slots := 0, locals := 47 }
set_option maxHeartbeats 4000000 in
set_option maxRecDepth 100000 in
theorem t_X11_as (l : Launch) (D : Dc) (G : Gg) (S : Sg) (z : Nat) (hG : GrG G) (hP : GrP G S) (B : Nat → Nat) (c : Nat) (hB : BP B c) (hc : c < 100000) (hM : ∀ k, k < 140 → gj S 66 k = lN (B k)) (st : Int32) (hst : gi S 65 4 = st) (a1 a2 : Int32) : ML l yX11_as wsX11_as rmX11_as D G S z [.ref (gA G 65), .int a1, .int a2] (fun r S' => r = (fAs B st a1 a2).1 ∧ gi S' 65 4 = (fAs B st a1 a2).2 ∧ Ch (fun k => k = 65) S S') := by
  refine Met.ofW (cc := cX11_as) (maxL := 5) (ret := (some .long)) (by decide +kernel) rfl ?_
  intro pP eE s mM args bl mT cD s₁ bD hml hv
  obtain ⟨rfl, hv⟩ := hv
  have hz := hv.1
  subst hz
  have hx := bD.exec
  have hb := bD.bytes
  have hr := bD.returns
  have hts := atoms_spec (ws := wsX11_as) bD.pre
  have hown : s.vm.findClass RX11 = some mM.cls := findClass_of_methodNamed bD.named
  have hlocks := bD.notSynchronized
  have hW := Wd.start hv
  have hA : ∀ q, s.heap.size ≤ q → AW G s.heap.size q := fun q h => Or.inr h
  have hl := lv_entry ([.ref (gA G 65), .int a1, .int a2]) (n := 5) (Nat.le_of_ble_eq_true rfl)
  rw [lg_entry_eq]
  generalize (lg_sl ([.ref (gA G 65), .int a1, .int a2]) ++ List.replicate (5 - (lg_sl ([.ref (gA G 65), .int a1, .int a2])).length) Slot.unset).toArray = ls at hl ⊢
  have hl : lv_has ls 5 [(0, .ref (gA G 65)), (1, .int a1), (2, .int a2)] := hl
  have q0 := hts (.constantLong RX11 186 (5)) (List.mem_of_getElem? (i := 1) rfl)
  have q1 := hts (.constantLong RX11 56 (-9000000000000000001)) (List.mem_of_getElem? (i := 2) rfl)
  have hbp := BP_b hB
  refine lv_aload_n hx hb dX11_as_0 rfl (lv_at hl 0 rfl) ?_
  refine lv_iload_n hx hb dX11_as_1 rfl (lv_at hl 1 rfl) ?_
  refine lv_i2l hx hb dX11_as_2 rfl ?_
  refine r_calli hW hA (va_runV (As := [.long (Int32.toInt64 a1)]) (rest := []) ⟨hx, hb, hml, hown, hts⟩ (t_X11_isParty l D G S _ hG hP B c hB hc hM (Int32.toInt64 a1) (a1).toInt (Int32.toInt_toInt64 _)) (cwV 1 hts gX11_as_X11_isParty rfl rfl rfl (by decide +kernel) ⟨Nat.le_of_ble_eq_true rfl, Nat.le_of_ble_eq_true rfl⟩) (r_preV (k := 65) hA hW (ci := 10) (C := RX11) (T := TX11) (N := 20) rfl rfl (g_lt hG (by decide)) (g_kd hG (by decide) rfl) rfl rfl) rfl rfl hl.1 rfl (lv_room (Nat.le_of_ble_eq_true rfl)) dX11_as_3 ⟨Nat.zero_le _, Nat.zero_le _⟩) (fun r3 S3 H locs hp3 hW => ?_)
  obtain ⟨hs3, hp3⟩ := hp3
  rw [hs3] at hW
  rcases hp3 with ⟨rfl, h3⟩ | ⟨rfl, h3⟩
  · skip
    refine lv_if_eq (tgt := 21) hx hb dX11_as_6 (by decide) (fun c6 => ?_) (fun c6 => ?_)
    · exact absurd c6 (by decide)
    · skip
      refine lv_iload_n hx hb dX11_as_9 rfl (lv_at hl 2 rfl) ?_
      refine lv_i2l hx hb dX11_as_10 rfl ?_
      refine lv_lconst (v := 0) hx hb dX11_as_11 (by decide) ?_
      refine lv_ldc2 (v := (5)) hx hb hown q0 dX11_as_12 ?_
      refine r_calli hW hA (va_runS (As := [.long (Int32.toInt64 a2), .long 0, .long (5)]) (rest := []) ⟨hx, hb, hml, hown, hts⟩ (t_X11_in l D G S _ (Int32.toInt64 a2) 0 (5) (a2).toInt 0 5 (Int32.toInt_toInt64 _) (by decide) (by decide)) (va_cwS 3 hts gX11_as_X11_in rfl rfl rfl (by decide +kernel) ⟨Nat.le_of_ble_eq_true rfl, Nat.le_of_ble_eq_true rfl⟩) (r_preS hA hW) rfl rfl hl.1 rfl (lv_room (Nat.le_of_ble_eq_true rfl)) dX11_as_15 ⟨Nat.zero_le _, Nat.zero_le _⟩) (fun r15 S15 H locs hp15 hW => ?_)
      obtain ⟨hs15, hp15⟩ := hp15
      rw [hs15] at hW
      rcases hp15 with ⟨rfl, h15⟩ | ⟨rfl, h15⟩
      · skip
        refine lv_if_ne (tgt := 25) hx hb dX11_as_18 (by decide) (fun c18 => ?_) (fun c18 => ?_)
        · skip
          have hn_a1 := n_nat (x := a1) (by omega)
          have e_a1 := n_nI (x := a1) (by omega)
          have hB1 : BP1 B c := hB.resolve_left (fun z => by have z9 := z.2 17; omega)
          refine lv_aload_n hx hb dX11_as_25 rfl (lv_at hl 0 rfl) ?_
          refine lv_iload_n hx hb dX11_as_26 rfl (lv_at hl 1 rfl) ?_
          refine W.eq (g2 := F0 mM 27 ls [.int (nI a1.toNatClampNeg), .ref (gA G 65)]) (by rw [← e_a1]) ?_
          refine r_calli hW hA (va_runV (As := [.int (nI a1.toNatClampNeg)]) (rest := []) ⟨hx, hb, hml, hown, hts⟩ (t_X11_kindOf l D G S _ hG hP B c hB1 hc hM a1.toNatClampNeg (by omega)) (cwV 1 hts gX11_as_X11_kindOf rfl rfl rfl (by decide +kernel) ⟨Nat.le_of_ble_eq_true rfl, Nat.le_of_ble_eq_true rfl⟩) (r_preV (k := 65) hA hW (ci := 10) (C := RX11) (T := TX11) (N := 20) rfl rfl (g_lt hG (by decide)) (g_kd hG (by decide) rfl) rfl rfl) rfl rfl hl.1 rfl (lv_room (Nat.le_of_ble_eq_true rfl)) dX11_as_27 ⟨Nat.zero_le _, Nat.zero_le _⟩) (fun r27 S27 H locs hp27 hW => ?_)
          obtain ⟨hs27, rfl⟩ := hp27
          rw [hs27] at hW
          have hkb : (kdN (B (34 + a1.toNatClampNeg)) (B (18 + a1.toNatClampNeg))) ≤ 5 := by unfold kdN; (repeat' split) <;> omega
          have hkt : (nI (kdN (B (34 + a1.toNatClampNeg)) (B (18 + a1.toNatClampNeg)))).toInt = (kdN (B (34 + a1.toNatClampNeg)) (B (18 + a1.toNatClampNeg))) := n_toInt (by omega)
          refine lv_istore_n (lv' := [(3, .int (nI (kdN (B (34 + (a1.toNatClampNeg))) (B (18 + (a1.toNatClampNeg)))))), (0, .ref (gA G 65)), (1, .int a1), (2, .int a2)]) hx hb dX11_as_30 rfl hl (by decide) rfl (fun ls hl => ?_)
          refine lv_iload_n hx hb dX11_as_31 rfl (lv_at hl 3 rfl) ?_
          refine lv_if_eq (tgt := 55) hx hb dX11_as_32 (by decide) (fun c32 => ?_) (fun c32 => ?_)
          · skip
            rw [t_eq, show (0 : Int32).toInt = 0 from by decide] at c32
            refine lv_iconst (v := 1) hx hb dX11_as_55 (by decide) ?_
            refine lv_goto (tgt := 60) hx hb dX11_as_56 (by decide) ?_
            refine lv_istore (lv' := [(4, .int 1), (3, .int (nI (kdN (B (34 + (a1.toNatClampNeg))) (B (18 + (a1.toNatClampNeg)))))), (0, .ref (gA G 65)), (1, .int a1), (2, .int a2)]) hx hb dX11_as_60 hl (by decide) rfl (fun ls hl => ?_)
            refine lv_iload hx hb dX11_as_62 (lv_at hl 0 rfl) ?_
            refine lv_if_eq (tgt := 76) hx hb dX11_as_64 (by decide) (fun c64 => ?_) (fun c64 => ?_)
            · exact absurd c64 (by decide)
            · skip
              refine lv_aload_n hx hb dX11_as_67 rfl (lv_at hl 2 rfl) ?_
              refine lv_iload_n hx hb dX11_as_68 rfl (lv_at hl 3 rfl) ?_
              refine lv_i2l hx hb dX11_as_69 rfl ?_
              refine r_calll hW hA (va_runV (As := [.long (Int32.toInt64 a1)]) (rest := []) ⟨hx, hb, hml, hown, hts⟩ (t_X11_good l D G S _ hG hP (Int32.toInt64 a1)) (cwV 1 hts gX11_as_X11_good rfl rfl rfl (by decide +kernel) ⟨Nat.le_of_ble_eq_true rfl, Nat.le_of_ble_eq_true rfl⟩) (r_preV (k := 65) hA hW (ci := 10) (C := RX11) (T := TX11) (N := 20) rfl rfl (g_lt hG (by decide)) (g_kd hG (by decide) rfl) rfl rfl) rfl rfl hl.1 rfl (lv_room (Nat.le_of_ble_eq_true rfl)) dX11_as_70 ⟨Nat.zero_le _, Nat.zero_le _⟩) (fun r70 S70 H locs hp70 hW => ?_)
              obtain ⟨hs70, rfl⟩ := hp70
              rw [hs70] at hW
              refine lv_goto (tgt := 81) hx hb dX11_as_73 (by decide) ?_
              refine r_lret hx hb hr hlocks hW ?_ dX11_as_81
              have e : fAs B st a1 a2 = (a1.toInt64, 0) := by unfold fAs; rw [if_pos (by omega), if_pos (by omega)]
              rw [e]
              exact ⟨rfl, congrFun (e_is _ _ _) 4, (Ch.ri Ch.rf (by omega))⟩
          · skip
            rw [t_eq, show (0 : Int32).toInt = 0 from by decide] at c32
            refine lv_iload_n hx hb dX11_as_35 rfl (lv_at hl 3 rfl) ?_
            refine lv_iload_n hx hb dX11_as_36 rfl (lv_at hl 0 rfl) ?_
            refine lv_icmp_eq (tgt := 55) hx hb dX11_as_37 (by decide) (fun c37 => ?_) (fun c37 => ?_)
            · skip
              rw [t_eq] at c37
              refine lv_iconst (v := 1) hx hb dX11_as_55 (by decide) ?_
              refine lv_goto (tgt := 60) hx hb dX11_as_56 (by decide) ?_
              refine lv_istore (lv' := [(4, .int 1), (3, .int (nI (kdN (B (34 + (a1.toNatClampNeg))) (B (18 + (a1.toNatClampNeg)))))), (0, .ref (gA G 65)), (1, .int a1), (2, .int a2)]) hx hb dX11_as_60 hl (by decide) rfl (fun ls hl => ?_)
              refine lv_iload hx hb dX11_as_62 (lv_at hl 0 rfl) ?_
              refine lv_if_eq (tgt := 76) hx hb dX11_as_64 (by decide) (fun c64 => ?_) (fun c64 => ?_)
              · exact absurd c64 (by decide)
              · skip
                refine lv_aload_n hx hb dX11_as_67 rfl (lv_at hl 2 rfl) ?_
                refine lv_iload_n hx hb dX11_as_68 rfl (lv_at hl 3 rfl) ?_
                refine lv_i2l hx hb dX11_as_69 rfl ?_
                refine r_calll hW hA (va_runV (As := [.long (Int32.toInt64 a1)]) (rest := []) ⟨hx, hb, hml, hown, hts⟩ (t_X11_good l D G S _ hG hP (Int32.toInt64 a1)) (cwV 1 hts gX11_as_X11_good rfl rfl rfl (by decide +kernel) ⟨Nat.le_of_ble_eq_true rfl, Nat.le_of_ble_eq_true rfl⟩) (r_preV (k := 65) hA hW (ci := 10) (C := RX11) (T := TX11) (N := 20) rfl rfl (g_lt hG (by decide)) (g_kd hG (by decide) rfl) rfl rfl) rfl rfl hl.1 rfl (lv_room (Nat.le_of_ble_eq_true rfl)) dX11_as_70 ⟨Nat.zero_le _, Nat.zero_le _⟩) (fun r70 S70 H locs hp70 hW => ?_)
                obtain ⟨hs70, rfl⟩ := hp70
                rw [hs70] at hW
                refine lv_goto (tgt := 81) hx hb dX11_as_73 (by decide) ?_
                refine r_lret hx hb hr hlocks hW ?_ dX11_as_81
                have e : fAs B st a1 a2 = (a1.toInt64, 0) := by unfold fAs; rw [if_pos (by omega), if_pos (by omega)]
                rw [e]
                exact ⟨rfl, congrFun (e_is _ _ _) 4, (Ch.ri Ch.rf (by omega))⟩
            · skip
              rw [t_eq] at c37
              refine lv_iload_n hx hb dX11_as_40 rfl (lv_at hl 3 rfl) ?_
              refine lv_iconst (v := 1) hx hb dX11_as_41 (by decide) ?_
              refine lv_icmp_ne (tgt := 59) hx hb dX11_as_42 (by decide) (fun c42 => ?_) (fun c42 => ?_)
              · skip
                rw [t_eq, show (1 : Int32).toInt = 1 from by decide] at c42
                refine lv_iconst (v := 0) hx hb dX11_as_59 (by decide) ?_
                refine lv_istore (lv' := [(4, .int 0), (3, .int (nI (kdN (B (34 + (a1.toNatClampNeg))) (B (18 + (a1.toNatClampNeg)))))), (0, .ref (gA G 65)), (1, .int a1), (2, .int a2)]) hx hb dX11_as_60 hl (by decide) rfl (fun ls hl => ?_)
                refine lv_iload hx hb dX11_as_62 (lv_at hl 0 rfl) ?_
                refine lv_if_eq (tgt := 76) hx hb dX11_as_64 (by decide) (fun c64 => ?_) (fun c64 => ?_)
                · skip
                  refine lv_aload_n hx hb dX11_as_76 rfl (lv_at hl 2 rfl) ?_
                  refine lv_iconst (v := 3) hx hb dX11_as_77 (by decide) ?_
                  refine r_calll hW hA (va_runV (As := [.int 3]) (rest := []) ⟨hx, hb, hml, hown, hts⟩ (t_X11_found l D G S _ hG hP 3) (cwV 1 hts gX11_as_X11_found rfl rfl rfl (by decide +kernel) ⟨Nat.le_of_ble_eq_true rfl, Nat.le_of_ble_eq_true rfl⟩) (r_preV (k := 65) hA hW (ci := 10) (C := RX11) (T := TX11) (N := 20) rfl rfl (g_lt hG (by decide)) (g_kd hG (by decide) rfl) rfl rfl) rfl rfl hl.1 rfl (lv_room (Nat.le_of_ble_eq_true rfl)) dX11_as_78 ⟨Nat.zero_le _, Nat.zero_le _⟩) (fun r78 S78 H locs hp78 hW => ?_)
                  obtain ⟨hs78, rfl⟩ := hp78
                  rw [hs78] at hW
                  refine r_lret hx hb hr hlocks hW ?_ dX11_as_81
                  have e : fAs B st a1 a2 = (FND 3, 3) := by unfold fAs; rw [if_pos (by omega), if_neg (by omega)]
                  rw [e]
                  exact ⟨rfl, congrFun (e_is _ _ _) 4, (Ch.ri Ch.rf (by omega))⟩
                · exact absurd (by decide) c64
              · skip
                rw [t_eq, show (1 : Int32).toInt = 1 from by decide] at c42
                refine lv_iload_n hx hb dX11_as_45 rfl (lv_at hl 0 rfl) ?_
                refine lv_iconst (v := 2) hx hb dX11_as_46 (by decide) ?_
                refine lv_icmp_eq (tgt := 55) hx hb dX11_as_47 (by decide) (fun c47 => ?_) (fun c47 => ?_)
                · skip
                  rw [t_eq, show (2 : Int32).toInt = 2 from by decide] at c47
                  refine lv_iconst (v := 1) hx hb dX11_as_55 (by decide) ?_
                  refine lv_goto (tgt := 60) hx hb dX11_as_56 (by decide) ?_
                  refine lv_istore (lv' := [(4, .int 1), (3, .int (nI (kdN (B (34 + (a1.toNatClampNeg))) (B (18 + (a1.toNatClampNeg)))))), (0, .ref (gA G 65)), (1, .int a1), (2, .int a2)]) hx hb dX11_as_60 hl (by decide) rfl (fun ls hl => ?_)
                  refine lv_iload hx hb dX11_as_62 (lv_at hl 0 rfl) ?_
                  refine lv_if_eq (tgt := 76) hx hb dX11_as_64 (by decide) (fun c64 => ?_) (fun c64 => ?_)
                  · exact absurd c64 (by decide)
                  · skip
                    refine lv_aload_n hx hb dX11_as_67 rfl (lv_at hl 2 rfl) ?_
                    refine lv_iload_n hx hb dX11_as_68 rfl (lv_at hl 3 rfl) ?_
                    refine lv_i2l hx hb dX11_as_69 rfl ?_
                    refine r_calll hW hA (va_runV (As := [.long (Int32.toInt64 a1)]) (rest := []) ⟨hx, hb, hml, hown, hts⟩ (t_X11_good l D G S _ hG hP (Int32.toInt64 a1)) (cwV 1 hts gX11_as_X11_good rfl rfl rfl (by decide +kernel) ⟨Nat.le_of_ble_eq_true rfl, Nat.le_of_ble_eq_true rfl⟩) (r_preV (k := 65) hA hW (ci := 10) (C := RX11) (T := TX11) (N := 20) rfl rfl (g_lt hG (by decide)) (g_kd hG (by decide) rfl) rfl rfl) rfl rfl hl.1 rfl (lv_room (Nat.le_of_ble_eq_true rfl)) dX11_as_70 ⟨Nat.zero_le _, Nat.zero_le _⟩) (fun r70 S70 H locs hp70 hW => ?_)
                    obtain ⟨hs70, rfl⟩ := hp70
                    rw [hs70] at hW
                    refine lv_goto (tgt := 81) hx hb dX11_as_73 (by decide) ?_
                    refine r_lret hx hb hr hlocks hW ?_ dX11_as_81
                    have e : fAs B st a1 a2 = (a1.toInt64, 0) := by unfold fAs; rw [if_pos (by omega), if_pos (by omega)]
                    rw [e]
                    exact ⟨rfl, congrFun (e_is _ _ _) 4, (Ch.ri Ch.rf (by omega))⟩
                · skip
                  rw [t_eq, show (2 : Int32).toInt = 2 from by decide] at c47
                  refine lv_iload_n hx hb dX11_as_50 rfl (lv_at hl 0 rfl) ?_
                  refine lv_iconst (v := 5) hx hb dX11_as_51 (by decide) ?_
                  refine lv_icmp_ne (tgt := 59) hx hb dX11_as_52 (by decide) (fun c52 => ?_) (fun c52 => ?_)
                  · skip
                    rw [t_eq, show (5 : Int32).toInt = 5 from by decide] at c52
                    refine lv_iconst (v := 0) hx hb dX11_as_59 (by decide) ?_
                    refine lv_istore (lv' := [(4, .int 0), (3, .int (nI (kdN (B (34 + (a1.toNatClampNeg))) (B (18 + (a1.toNatClampNeg)))))), (0, .ref (gA G 65)), (1, .int a1), (2, .int a2)]) hx hb dX11_as_60 hl (by decide) rfl (fun ls hl => ?_)
                    refine lv_iload hx hb dX11_as_62 (lv_at hl 0 rfl) ?_
                    refine lv_if_eq (tgt := 76) hx hb dX11_as_64 (by decide) (fun c64 => ?_) (fun c64 => ?_)
                    · skip
                      refine lv_aload_n hx hb dX11_as_76 rfl (lv_at hl 2 rfl) ?_
                      refine lv_iconst (v := 3) hx hb dX11_as_77 (by decide) ?_
                      refine r_calll hW hA (va_runV (As := [.int 3]) (rest := []) ⟨hx, hb, hml, hown, hts⟩ (t_X11_found l D G S _ hG hP 3) (cwV 1 hts gX11_as_X11_found rfl rfl rfl (by decide +kernel) ⟨Nat.le_of_ble_eq_true rfl, Nat.le_of_ble_eq_true rfl⟩) (r_preV (k := 65) hA hW (ci := 10) (C := RX11) (T := TX11) (N := 20) rfl rfl (g_lt hG (by decide)) (g_kd hG (by decide) rfl) rfl rfl) rfl rfl hl.1 rfl (lv_room (Nat.le_of_ble_eq_true rfl)) dX11_as_78 ⟨Nat.zero_le _, Nat.zero_le _⟩) (fun r78 S78 H locs hp78 hW => ?_)
                      obtain ⟨hs78, rfl⟩ := hp78
                      rw [hs78] at hW
                      refine r_lret hx hb hr hlocks hW ?_ dX11_as_81
                      have e : fAs B st a1 a2 = (FND 3, 3) := by unfold fAs; rw [if_pos (by omega), if_neg (by omega)]
                      rw [e]
                      exact ⟨rfl, congrFun (e_is _ _ _) 4, (Ch.ri Ch.rf (by omega))⟩
                    · exact absurd (by decide) c64
                  · skip
                    rw [t_eq, show (5 : Int32).toInt = 5 from by decide] at c52
                    refine lv_iconst (v := 1) hx hb dX11_as_55 (by decide) ?_
                    refine lv_goto (tgt := 60) hx hb dX11_as_56 (by decide) ?_
                    refine lv_istore (lv' := [(4, .int 1), (3, .int (nI (kdN (B (34 + (a1.toNatClampNeg))) (B (18 + (a1.toNatClampNeg)))))), (0, .ref (gA G 65)), (1, .int a1), (2, .int a2)]) hx hb dX11_as_60 hl (by decide) rfl (fun ls hl => ?_)
                    refine lv_iload hx hb dX11_as_62 (lv_at hl 0 rfl) ?_
                    refine lv_if_eq (tgt := 76) hx hb dX11_as_64 (by decide) (fun c64 => ?_) (fun c64 => ?_)
                    · exact absurd c64 (by decide)
                    · skip
                      refine lv_aload_n hx hb dX11_as_67 rfl (lv_at hl 2 rfl) ?_
                      refine lv_iload_n hx hb dX11_as_68 rfl (lv_at hl 3 rfl) ?_
                      refine lv_i2l hx hb dX11_as_69 rfl ?_
                      refine r_calll hW hA (va_runV (As := [.long (Int32.toInt64 a1)]) (rest := []) ⟨hx, hb, hml, hown, hts⟩ (t_X11_good l D G S _ hG hP (Int32.toInt64 a1)) (cwV 1 hts gX11_as_X11_good rfl rfl rfl (by decide +kernel) ⟨Nat.le_of_ble_eq_true rfl, Nat.le_of_ble_eq_true rfl⟩) (r_preV (k := 65) hA hW (ci := 10) (C := RX11) (T := TX11) (N := 20) rfl rfl (g_lt hG (by decide)) (g_kd hG (by decide) rfl) rfl rfl) rfl rfl hl.1 rfl (lv_room (Nat.le_of_ble_eq_true rfl)) dX11_as_70 ⟨Nat.zero_le _, Nat.zero_le _⟩) (fun r70 S70 H locs hp70 hW => ?_)
                      obtain ⟨hs70, rfl⟩ := hp70
                      rw [hs70] at hW
                      refine lv_goto (tgt := 81) hx hb dX11_as_73 (by decide) ?_
                      refine r_lret hx hb hr hlocks hW ?_ dX11_as_81
                      have e : fAs B st a1 a2 = (a1.toInt64, 0) := by unfold fAs; rw [if_pos (by omega), if_pos (by omega)]
                      rw [e]
                      exact ⟨rfl, congrFun (e_is _ _ _) 4, (Ch.ri Ch.rf (by omega))⟩
        · exact absurd c18 (by decide)
      · skip
        refine lv_if_ne (tgt := 25) hx hb dX11_as_18 (by decide) (fun c18 => ?_) (fun c18 => ?_)
        · exact absurd (by decide) c18
        · skip
          refine lv_ldc2 (v := (-9000000000000000001)) hx hb hown q1 dX11_as_21 ?_
          refine r_lret hx hb hr hlocks hW ?_ dX11_as_24
          have e : fAs B st a1 a2 = (BADL, st) := by unfold fAs; rw [if_neg (by omega)]
          rw [e]
          exact ⟨rfl, hst, Ch.rf⟩
  · skip
    refine lv_if_eq (tgt := 21) hx hb dX11_as_6 (by decide) (fun c6 => ?_) (fun c6 => ?_)
    · skip
      refine lv_ldc2 (v := (-9000000000000000001)) hx hb hown q1 dX11_as_21 ?_
      refine r_lret hx hb hr hlocks hW ?_ dX11_as_24
      have e : fAs B st a1 a2 = (BADL, st) := by unfold fAs; rw [if_neg (by omega)]
      rw [e]
      exact ⟨rfl, hst, Ch.rf⟩
    · exact absurd (by decide) c6
