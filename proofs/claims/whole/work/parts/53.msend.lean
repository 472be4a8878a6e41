def bI (F : Nat → Nat) (j : Nat) : Nat := if j = 0 then 0 else (amx F j).1 + 1
theorem bI_s (F : Nat → Nat) (j : Nat) : bI F (j + 1) = if (amx F j).2 < (F j : Int) then j + 1 else bI F j := by
  unfold bI
  rw [if_neg (by omega)]
  by_cases h : (amx F j).2 < (F j : Int)
  · rw [if_pos h]; show (if _ then _ else _ : Nat × Int).1 + 1 = _; rw [if_pos h]
  · rw [if_neg h]
    by_cases e : j = 0
    · subst e; exfalso; apply h; show (-1 : Int) < _; omega
    · rw [if_neg e]; show (if _ then _ else _ : Nat × Int).1 + 1 = _; rw [if_neg h]
def rmX11_send : Jvm.Room := { frames := 3, cells := 0, slots := 0, locals := 80 }
set_option maxHeartbeats 4000000 in
set_option maxRecDepth 100000 in
theorem t_X11_send (l : Launch) (D : Dc) (G : Gg) (S : Sg) (z : Nat) (hG : GrG G) (hP : GrP G S) (B : Nat → Nat) (c : Nat) (hB : BP B c) (hc : c < 100000) (hM : ∀ k, k < 140 → gj S 66 k = lN (B k)) (a1 a2 : Int32) : ML l yX11_send wsX11_send rmX11_send D G S z [.ref (gA G 65), .int a1, .int a2] (fun r S' => r = fSend B a1 a2 ∧ ChW S S') := by
  refine Met.ofW (cc := cX11_send) (maxL := 9) (ret := (some .long)) (by decide +kernel) rfl ?_
  intro pP eE s mM args bl mT cD s₁ bD hml hv
  obtain ⟨rfl, hv⟩ := hv
  have hz := hv.1
  subst hz
  have hx := bD.exec
  have hb := bD.bytes
  have hr := bD.returns
  have hts := atoms_spec (ws := wsX11_send) bD.pre
  have hown : s.vm.findClass RX11 = some mM.cls := findClass_of_methodNamed bD.named
  have hlocks := bD.notSynchronized
  have hW := Wd.start hv
  have hA : ∀ q, s.heap.size ≤ q → AW G s.heap.size q := fun q h => Or.inr h
  have hl := lv_entry ([.ref (gA G 65), .int a1, .int a2]) (n := 9) (Nat.le_of_ble_eq_true rfl)
  rw [lg_entry_eq]
  generalize (lg_sl ([.ref (gA G 65), .int a1, .int a2]) ++ List.replicate (9 - (lg_sl ([.ref (gA G 65), .int a1, .int a2])).length) Slot.unset).toArray = ls at hl ⊢
  have hl : lv_has ls 9 [(0, .ref (gA G 65)), (1, .int a1), (2, .int a2)] := hl
  have q0 := hts (.constantLong RX11 178 (-9000000000000000002)) (List.mem_of_getElem? (i := 1) rfl)
  have q1 := hts (.constantLong RX11 74 (8)) (List.mem_of_getElem? (i := 2) rfl)
  have q2 := hts (.constantLong RX11 182 (99)) (List.mem_of_getElem? (i := 3) rfl)
  have q3 := hts (.fieldLink RX11 7 "WoodForTwoModel" "w" "[J") (List.mem_of_getElem? (i := 5) rfl)
  have q4 := hts (.constantLong RX11 210 (-1)) (List.mem_of_getElem? (i := 7) rfl)
  have q5 := hts (.constantLong RX11 200 (-1000000)) (List.mem_of_getElem? (i := 6) rfl)
  have q6 := hts (.constantLong RX11 56 (-9000000000000000001)) (List.mem_of_getElem? (i := 4) rfl)
  have iX11 : ∀ w ∈ wsX110, w ∈ wsX11_send := fun _ h => List.mem_cons_of_mem _ (List.mem_append_right _ (h))
  generalize hQ0 : MQ bl _ _ s _ _ _ = Q0
  have hbp := BP_b hB
  refine lv_aload_n hx hb dX11_send_0 rfl (lv_at hl 0 rfl) ?_
  refine r_calli hW hA (va_runV (As := []) (rest := []) ⟨hx, hb, hml, hown, hts⟩ (t_X11_isNone l D G S _ hG hP B c hB hc hM) (cwV 0 hts gX11_send_X11_isNone rfl rfl rfl (by decide +kernel) ⟨Nat.le_of_ble_eq_true rfl, Nat.le_of_ble_eq_true rfl⟩) (r_preV (k := 65) hA hW (ci := 10) (C := RX11) (T := TX11) (N := 20) rfl rfl (g_lt hG (by decide)) (g_kd hG (by decide) rfl) rfl rfl) rfl rfl hl.1 rfl (lv_room (Nat.le_of_ble_eq_true rfl)) dX11_send_1 ⟨Nat.zero_le _, Nat.zero_le _⟩) (fun r1 S1 H locs hp1 hW => ?_)
  obtain ⟨hs1, hp1⟩ := hp1
  rw [hs1] at hW
  rcases hp1 with ⟨rfl, h1⟩ | ⟨rfl, h1⟩
  · skip
    refine lv_if_eq (tgt := 11) hx hb dX11_send_4 (by decide) (fun c4 => ?_) (fun c4 => ?_)
    · exact absurd c4 (by decide)
    · skip
      refine lv_ldc2 (v := (-9000000000000000002)) hx hb hown q0 dX11_send_7 ?_
      rw [← hQ0]
      refine r_lret hx hb hr hlocks hW ?_ dX11_send_10
      have e : fSend B a1 a2 = STATEL := by unfold fSend; rw [if_pos h1]
      rw [e]
      exact ⟨rfl, ChW.rf⟩
  · skip
    refine lv_if_eq (tgt := 11) hx hb dX11_send_4 (by decide) (fun c4 => ?_) (fun c4 => ?_)
    · skip
      refine lv_iload_n hx hb dX11_send_11 rfl (lv_at hl 1 rfl) ?_
      refine lv_i2l hx hb dX11_send_12 rfl ?_
      refine lv_lconst (v := 1) hx hb dX11_send_13 (by decide) ?_
      refine lv_ldc2 (v := (8)) hx hb hown q1 dX11_send_14 ?_
      refine r_calli hW hA (va_runS (As := [.long (Int32.toInt64 a1), .long 1, .long (8)]) (rest := []) ⟨hx, hb, hml, hown, hts⟩ (t_X11_in l D G S _ (Int32.toInt64 a1) 1 (8) (a1).toInt 1 8 (Int32.toInt_toInt64 _) (by decide) (by decide)) (va_cwS 3 hts gX11_send_X11_in rfl rfl rfl (by decide +kernel) ⟨Nat.le_of_ble_eq_true rfl, Nat.le_of_ble_eq_true rfl⟩) (r_preS hA hW) rfl rfl hl.1 rfl (lv_room (Nat.le_of_ble_eq_true rfl)) dX11_send_17 ⟨Nat.zero_le _, Nat.zero_le _⟩) (fun r17 S17 H locs hp17 hW => ?_)
      obtain ⟨hs17, hp17⟩ := hp17
      rw [hs17] at hW
      rcases hp17 with ⟨rfl, h17⟩ | ⟨rfl, h17⟩
      · skip
        refine lv_if_eq (tgt := 35) hx hb dX11_send_20 (by decide) (fun c20 => ?_) (fun c20 => ?_)
        · exact absurd c20 (by decide)
        · skip
          refine lv_iload_n hx hb dX11_send_23 rfl (lv_at hl 2 rfl) ?_
          refine lv_i2l hx hb dX11_send_24 rfl ?_
          refine lv_lconst (v := 1) hx hb dX11_send_25 (by decide) ?_
          refine lv_ldc2 (v := (99)) hx hb hown q2 dX11_send_26 ?_
          refine r_calli hW hA (va_runS (As := [.long (Int32.toInt64 a2), .long 1, .long (99)]) (rest := []) ⟨hx, hb, hml, hown, hts⟩ (t_X11_in l D G S _ (Int32.toInt64 a2) 1 (99) (a2).toInt 1 99 (Int32.toInt_toInt64 _) (by decide) (by decide)) (va_cwS 3 hts gX11_send_X11_in rfl rfl rfl (by decide +kernel) ⟨Nat.le_of_ble_eq_true rfl, Nat.le_of_ble_eq_true rfl⟩) (r_preS hA hW) rfl rfl hl.1 rfl (lv_room (Nat.le_of_ble_eq_true rfl)) dX11_send_29 ⟨Nat.zero_le _, Nat.zero_le _⟩) (fun r29 S29 H locs hp29 hW => ?_)
          obtain ⟨hs29, hp29⟩ := hp29
          rw [hs29] at hW
          rcases hp29 with ⟨rfl, h29⟩ | ⟨rfl, h29⟩
          · skip
            refine lv_if_ne (tgt := 39) hx hb dX11_send_32 (by decide) (fun c32 => ?_) (fun c32 => ?_)
            · skip
              refine lv_aload_n hx hb dX11_send_39 rfl (lv_at hl 0 rfl) ?_
              refine r_getr (ci := 10) (C := RX11) (T := TX11) (N := 20) hx hb hts iX11 hown hW rfl 65 0 rfl (g_lt hG (by decide)) (g_kd hG (by decide) rfl) (by decide) q3 (fun _ h9 => h9) (hP _ (List.mem_of_getElem? (i := 60) rfl)) rfl rfl dX11_send_40 ?_
              refine lv_iconst (v := 4) hx hb dX11_send_43 (by decide) ?_
              refine W.eq (g2 := F0 mM 44 ls [.int (nI 4), .ref (gA G 66)]) rfl ?_
              refine r_lald hx hb hW 66 rfl (g_lt hG (by decide)) (g_kd hG (by decide) rfl) (g_ix hG (c := 560) (by decide) rfl (n_inI (by omega) (by decide))) (lN (B 4)) (by rw [n_clamp (by omega)]; exact hM 4 (by omega)) dX11_send_44 ?_
              refine lv_lconst (v := 0) hx hb dX11_send_45 (by decide) ?_
              refine W.lcmp hx hb dX11_send_46 ?_
              refine lv_if_ne (tgt := 54) hx hb dX11_send_47 (by decide) (fun c47 => ?_) (fun c47 => ?_)
              · skip
                rw [lc_ne] at c47
                have hb4 : ¬ B 4 = 0 := by rw [lN_int (by omega), show (0 : Int64).toInt = 0 from by decide] at c47; omega
                have hn_a1 := n_nat (x := a1) (by omega)
                have e_a1 := n_nI (x := a1) (by omega)
                have hn_a2 := n_nat (x := a2) (by omega)
                have e_a2 := n_nI (x := a2) (by omega)
                have hB1 : BP1 B c := hB.resolve_left (fun z => by have z9 := z.2 132; omega)
                obtain ⟨b0, b1, b2, b3, b4, b5, b6, b7, b8, b9, b10, b11, b12⟩ := id hB1
                obtain ⟨F, hF⟩ : ∃ F : Nat → Nat, F = (fun j => fCut B (B 2) a1.toNatClampNeg a2.toNatClampNeg j (B 0)) := ⟨_, rfl⟩
                refine lv_iconst (v := 0) hx hb dX11_send_54 (by decide) ?_
                refine lv_istore_n (lv' := [(3, .int 0), (0, .ref (gA G 65)), (1, .int a1), (2, .int a2)]) hx hb dX11_send_55 rfl hl (by decide) rfl (fun ls hl => ?_)
                refine lv_ldc2 (v := (-1)) hx hb hown q4 dX11_send_56 ?_
                refine lv_lstore (lv' := [(4, .long (-1)), (3, .int 0), (0, .ref (gA G 65)), (1, .int a1), (2, .int a2)]) hx hb dX11_send_59 hl (by decide) rfl (fun ls hl => ?_)
                refine lv_iconst (v := 1) hx hb dX11_send_61 (by decide) ?_
                refine lv_istore (lv' := [(6, .int 1), (4, .long (-1)), (3, .int 0), (0, .ref (gA G 65)), (1, .int a1), (2, .int a2)]) hx hb dX11_send_62 hl (by decide) rfl (fun ls hl => ?_)
                have L64 : ∀ (n : Nat) (j : Nat) (T : Sg) (H : Heap) (locs : List Loc) (ls : Array Slot), (a1.toNatClampNeg - j) < n → j ≤ a1.toNatClampNeg → ChW S T → Wd D (AW G s.heap.size) s G T H locs → lv_has ls 9 [(6, .int (nI (j + 1))), (3, .int (nI (bI F j))), (4, .long (mI (amx F j).2)), (0, .ref (gA G 65)), (1, .int a1), (2, .int a2)] → W pP l eE (headSpec wsX11_send rmX11_send).room s mM ([.ref (gA G 65), .int a1, .int a2] : List Value).toArray bl mT cD H locs 0 0 Q0 (F0 mM 64 ls []) := by
                  intro n
                  induction n with
                  | zero => intro j T H locs ls hm; exact absurd hm (Nat.not_lt_zero _)
                  | succ n ih64 =>
                    intro j T H locs ls hm64 hj hCT hW hl
                    have hP_T : GrP G T := fun q hq => by rw [hCT.1]; exact hP q hq
                    have hM_T : ∀ k, k < 140 → gj T 66 k = lN (B k) := fun k hk => by rw [hCT.2.2 66 (by decide)]; exact hM k hk
                    refine lv_iload hx hb dX11_send_64 (lv_at hl 0 rfl) ?_
                    refine lv_iload_n hx hb dX11_send_66 rfl (lv_at hl 4 rfl) ?_
                    refine lv_icmp_gt (tgt := 132) hx hb dX11_send_67 (by decide) (fun c67 => ?_) (fun c67 => ?_)
                    · skip
                      have hjn : j = a1.toNatClampNeg := by
                        rw [t_lt, n_toInt (by omega)] at c67
                        omega
                      refine lv_iload_n hx hb dX11_send_132 rfl (lv_at hl 1 rfl) ?_
                      refine lv_i2l hx hb dX11_send_133 rfl ?_
                      rw [← hQ0]
                      refine r_lret hx hb hr hlocks hW ?_ dX11_send_134
                      subst hjn
                      have e : fSend B a1 a2 = lN ((amx F a1.toNatClampNeg).1 + 1) := by unfold fSend; rw [if_neg h1, if_pos (by omega), if_neg hb4, hF]
                      rw [e]
                      have hax := amx_b (f := F) (M := 72301961339136) a1.toNatClampNeg (fun i hi => by rw [hF]; exact fCut_le hB1 b4 (by omega) (by omega))
                      have eb : bI F a1.toNatClampNeg = (amx F a1.toNatClampNeg).1 + 1 := if_neg (by omega)
                      rw [eb]
                      exact ⟨lN_of (by omega), hCT⟩
                    · skip
                      have hjl : j < a1.toNatClampNeg := by
                        rw [t_lt, n_toInt (by omega)] at c67
                        omega
                      refine lv_aload_n hx hb dX11_send_70 rfl (lv_at hl 3 rfl) ?_
                      refine lv_aload_n hx hb dX11_send_71 rfl (lv_at hl 3 rfl) ?_
                      refine r_getr (ci := 10) (C := RX11) (T := TX11) (N := 20) hx hb hts iX11 hown hW rfl 65 0 rfl (g_lt hG (by decide)) (g_kd hG (by decide) rfl) (by decide) q3 (fun _ h9 => h9) (hP_T _ (List.mem_of_getElem? (i := 60) rfl)) rfl rfl dX11_send_72 ?_
                      refine lv_iconst (v := 0) hx hb dX11_send_75 (by decide) ?_
                      refine W.eq (g2 := F0 mM 76 ls [.int (nI 0), .ref (gA G 66), .ref (gA G 65)]) rfl ?_
                      refine r_lald hx hb hW 66 rfl (g_lt hG (by decide)) (g_kd hG (by decide) rfl) (g_ix hG (c := 560) (by decide) rfl (n_inI (by omega) (by decide))) (lN (B 0)) (by rw [n_clamp (by omega)]; exact hM_T 0 (by omega)) dX11_send_76 ?_
                      refine lv_l2i hx hb dX11_send_77 rfl ?_
                      rw [show (Int64.toInt32 (lN (B 0)) : Int32) = nI (B 0) from lN_i _]
                      refine lv_iload_n hx hb dX11_send_78 rfl (lv_at hl 4 rfl) ?_
                      refine lv_aload_n hx hb dX11_send_79 rfl (lv_at hl 3 rfl) ?_
                      refine r_getr (ci := 10) (C := RX11) (T := TX11) (N := 20) hx hb hts iX11 hown hW rfl 65 0 rfl (g_lt hG (by decide)) (g_kd hG (by decide) rfl) (by decide) q3 (fun _ h9 => h9) (hP_T _ (List.mem_of_getElem? (i := 60) rfl)) rfl rfl dX11_send_80 ?_
                      refine lv_iconst (v := 2) hx hb dX11_send_83 (by decide) ?_
                      refine W.eq (g2 := F0 mM 84 ls [.int (nI 2), .ref (gA G 66), .int a1, .int (nI (B 0)), .ref (gA G 65)]) rfl ?_
                      refine r_lald hx hb hW 66 rfl (g_lt hG (by decide)) (g_kd hG (by decide) rfl) (g_ix hG (c := 560) (by decide) rfl (n_inI (by omega) (by decide))) (lN (B 2)) (by rw [n_clamp (by omega)]; exact hM_T 2 (by omega)) dX11_send_84 ?_
                      refine lv_l2i hx hb dX11_send_85 rfl ?_
                      rw [show (Int64.toInt32 (lN (B 2)) : Int32) = nI (B 2) from lN_i _]
                      refine lv_iload hx hb dX11_send_86 (lv_at hl 0 rfl) ?_
                      refine lv_iload_n hx hb dX11_send_88 rfl (lv_at hl 5 rfl) ?_
                      refine W.eq (g2 := F0 mM 89 ls [.int (nI a2.toNatClampNeg), .int (nI (j + 1)), .int (nI (B 2)), .int (nI a1.toNatClampNeg), .int (nI (B 0)), .ref (gA G 65)]) (by rw [← e_a1, ← e_a2]) ?_
                      refine r_calll hW hA (va_runV (As := [.int (nI (B 0)), .int (nI a1.toNatClampNeg), .int (nI (B 2)), .int (nI (j + 1)), .int (nI a2.toNatClampNeg)]) (rest := []) ⟨hx, hb, hml, hown, hts⟩ (t_X11_safeWays l D G T _ hG hP_T B c hB1 hc hM_T (B 0) (a1.toNatClampNeg) (B 2) (j + 1) (a2.toNatClampNeg) (by omega) (by omega) (by omega) (by omega) (by omega)) (cwV 5 hts gX11_send_X11_safeWays rfl rfl rfl (by decide +kernel) ⟨Nat.le_of_ble_eq_true rfl, Nat.le_of_ble_eq_true rfl⟩) (r_preV (k := 65) hA hW (ci := 10) (C := RX11) (T := TX11) (N := 20) rfl rfl (g_lt hG (by decide)) (g_kd hG (by decide) rfl) rfl rfl) rfl rfl hl.1 rfl (lv_room (Nat.le_of_ble_eq_true rfl)) dX11_send_89 ⟨Nat.zero_le _, Nat.zero_le _⟩) (fun r89 S89 H locs hp89 hW => ?_)
                      obtain ⟨hr89, hA_S89, hC_S89⟩ := hp89
                      rw [if_neg (by omega)] at hr89
                      subst hr89
                      have hP_S89 : GrP G S89 := fun q hq => by rw [hC_S89.1]; exact hP_T q hq
                      have hM_S89 : ∀ k, k < 140 → gj S89 66 k = lN (B k) := fun k hk => by rw [hC_S89.2.2 66 (by decide)]; exact hM_T k hk
                      have hFe : fCut B (B 2) a1.toNatClampNeg a2.toNatClampNeg (j + 1 - 1) (B 0) = F j := by rw [hF]; rfl
                      have hfj : F j ≤ 72301961339136 := by rw [hF]; exact fCut_le hB1 b4 (by omega) (by omega)
                      have hax := amx_b (f := F) (M := 72301961339136) j (fun i hi => by rw [hF]; exact fCut_le hB1 b4 (by omega) (by omega))
                      rw [hFe]
                      refine lv_lstore (lv' := [(7, .long (lN (F j))), (6, .int (nI (j + 1))), (3, .int (nI (bI F j))), (4, .long (mI (amx F j).2)), (0, .ref (gA G 65)), (1, .int a1), (2, .int a2)]) hx hb dX11_send_92 hl (by decide) rfl (fun ls hl => ?_)
                      refine lv_lload hx hb dX11_send_94 (lv_at hl 0 rfl) ?_
                      refine lv_lload hx hb dX11_send_96 (lv_at hl 3 rfl) ?_
                      refine W.lcmp hx hb dX11_send_98 ?_
                      refine lv_if_le (tgt := 107) hx hb dX11_send_99 (by decide) (fun c99 => ?_) (fun c99 => ?_)
                      · skip
                        have d99 := (lc_le _ _).mp c99
                        rw [lN_int (by omega), mI_int hax.1 (by omega)] at d99
                        refine lv_iload_n hx hb dX11_send_107 rfl (lv_at hl 2 rfl) ?_
                        refine lv_istore_n (lv' := [(3, .int (nI (bI F j))), (7, .long (lN (F j))), (6, .int (nI (j + 1))), (4, .long (mI (amx F j).2)), (0, .ref (gA G 65)), (1, .int a1), (2, .int a2)]) hx hb dX11_send_108 rfl hl (by decide) rfl (fun ls hl => ?_)
                        refine lv_lload hx hb dX11_send_109 (lv_at hl 1 rfl) ?_
                        refine lv_lload hx hb dX11_send_111 (lv_at hl 3 rfl) ?_
                        refine W.lcmp hx hb dX11_send_113 ?_
                        refine lv_if_le (tgt := 122) hx hb dX11_send_114 (by decide) (fun c114 => ?_) (fun c114 => ?_)
                        · skip
                          refine lv_lload hx hb dX11_send_122 (lv_at hl 3 rfl) ?_
                          refine lv_lstore (lv' := [(4, .long (mI (amx F j).2)), (3, .int (nI (bI F j))), (7, .long (lN (F j))), (6, .int (nI (j + 1))), (0, .ref (gA G 65)), (1, .int a1), (2, .int a2)]) hx hb dX11_send_124 hl (by decide) rfl (fun ls hl => ?_)
                          have eM : amx F (j + 1) = amx F j := by show (if _ then _ else _) = _; rw [if_neg (by omega)]
                          have em : (mI (amx F j).2) = mI (amx F (j + 1)).2 := by rw [eM]
                          have eb : (nI (bI F j)) = (nI (bI F (j + 1))) := by rw [bI_s, if_neg (by omega)]
                          have hl : lv_has ls 9 [(4, .long (mI (amx F (j + 1)).2)), (3, .int (nI (bI F (j + 1)))), (7, .long (lN (F j))), (6, .int (nI (j + 1))), (0, .ref (gA G 65)), (1, .int a1), (2, .int a2)] := by rw [← em, ← eb]; exact hl
                          refine lv_iinc (v := (nI (j + 1 + 1))) (lv' := [(6, .int (nI (j + 1 + 1))), (4, .long (mI (amx F (j + 1)).2)), (3, .int (nI (bI F (j + 1)))), (7, .long (lN (F j))), (0, .ref (gA G 65)), (1, .int a1), (2, .int a2)]) hx hb dX11_send_126 hl (k := 3) rfl (nI_1 (j + 1)) (by decide) rfl (fun ls hl => ?_)
                          refine lv_goto (tgt := 64) hx hb dX11_send_129 (by decide) ?_
                          exact ih64 (j + 1) S89 _ _ ls (by omega) (by omega) (ChW.tr hCT hC_S89) hW (lv_sub hl [0, 2, 1, 4, 5, 6] rfl)
                        · exact absurd c99 c114
                      · skip
                        have d99 : ¬ _ := fun z => c99 ((lc_le _ _).mpr z)
                        rw [lN_int (by omega), mI_int hax.1 (by omega)] at d99
                        refine lv_iload hx hb dX11_send_102 (lv_at hl 1 rfl) ?_
                        refine lv_goto (tgt := 108) hx hb dX11_send_104 (by decide) ?_
                        refine lv_istore_n (lv' := [(3, .int (nI (j + 1))), (7, .long (lN (F j))), (6, .int (nI (j + 1))), (4, .long (mI (amx F j).2)), (0, .ref (gA G 65)), (1, .int a1), (2, .int a2)]) hx hb dX11_send_108 rfl hl (by decide) rfl (fun ls hl => ?_)
                        refine lv_lload hx hb dX11_send_109 (lv_at hl 1 rfl) ?_
                        refine lv_lload hx hb dX11_send_111 (lv_at hl 3 rfl) ?_
                        refine W.lcmp hx hb dX11_send_113 ?_
                        refine lv_if_le (tgt := 122) hx hb dX11_send_114 (by decide) (fun c114 => ?_) (fun c114 => ?_)
                        · exact absurd c114 c99
                        · skip
                          refine lv_lload hx hb dX11_send_117 (lv_at hl 1 rfl) ?_
                          refine lv_goto (tgt := 124) hx hb dX11_send_119 (by decide) ?_
                          refine lv_lstore (lv' := [(4, .long (lN (F j))), (3, .int (nI (j + 1))), (7, .long (lN (F j))), (6, .int (nI (j + 1))), (0, .ref (gA G 65)), (1, .int a1), (2, .int a2)]) hx hb dX11_send_124 hl (by decide) rfl (fun ls hl => ?_)
                          have eM : amx F (j + 1) = (j, (F j : Int)) := by show (if _ then _ else _) = _; rw [if_pos (by omega)]
                          have em : (lN (F j)) = mI (amx F (j + 1)).2 := by rw [eM]; unfold mI; rw [if_neg (by dsimp only; omega)]; rfl
                          have eb : (nI (j + 1)) = (nI (bI F (j + 1))) := by rw [bI_s, if_pos (by omega)]
                          have hl : lv_has ls 9 [(4, .long (mI (amx F (j + 1)).2)), (3, .int (nI (bI F (j + 1)))), (7, .long (lN (F j))), (6, .int (nI (j + 1))), (0, .ref (gA G 65)), (1, .int a1), (2, .int a2)] := by rw [← em, ← eb]; exact hl
                          refine lv_iinc (v := (nI (j + 1 + 1))) (lv' := [(6, .int (nI (j + 1 + 1))), (4, .long (mI (amx F (j + 1)).2)), (3, .int (nI (bI F (j + 1)))), (7, .long (lN (F j))), (0, .ref (gA G 65)), (1, .int a1), (2, .int a2)]) hx hb dX11_send_126 hl (k := 3) rfl (nI_1 (j + 1)) (by decide) rfl (fun ls hl => ?_)
                          refine lv_goto (tgt := 64) hx hb dX11_send_129 (by decide) ?_
                          exact ih64 (j + 1) S89 _ _ ls (by omega) (by omega) (ChW.tr hCT hC_S89) hW (lv_sub hl [0, 2, 1, 4, 5, 6] rfl)
                exact L64 _ 0 S _ _ ls (Nat.lt_succ_self _) (Nat.zero_le _) ChW.rf hW (lv_sub hl [0, 2, 1, 3, 4, 5] rfl)
              · skip
                rw [lc_ne] at c47
                have hb4 : B 4 = 0 := by rw [lN_int (by omega), show (0 : Int64).toInt = 0 from by decide] at c47; omega
                refine lv_ldc2 (v := (-1000000)) hx hb hown q5 dX11_send_50 ?_
                rw [← hQ0]
                refine r_lret hx hb hr hlocks hW ?_ dX11_send_53
                have e : fSend B a1 a2 = NONEL := by unfold fSend; rw [if_neg h1, if_pos (by omega), if_pos hb4]
                rw [e]
                exact ⟨rfl, ChW.rf⟩
            · exact absurd c32 (by decide)
          · skip
            refine lv_if_ne (tgt := 39) hx hb dX11_send_32 (by decide) (fun c32 => ?_) (fun c32 => ?_)
            · exact absurd (by decide) c32
            · skip
              refine lv_ldc2 (v := (-9000000000000000001)) hx hb hown q6 dX11_send_35 ?_
              rw [← hQ0]
              refine r_lret hx hb hr hlocks hW ?_ dX11_send_38
              have e : fSend B a1 a2 = BADL := by unfold fSend; rw [if_neg h1, if_neg (by omega)]
              rw [e]
              exact ⟨rfl, ChW.rf⟩
      · skip
        refine lv_if_eq (tgt := 35) hx hb dX11_send_20 (by decide) (fun c20 => ?_) (fun c20 => ?_)
        · skip
          refine lv_ldc2 (v := (-9000000000000000001)) hx hb hown q6 dX11_send_35 ?_
          rw [← hQ0]
          refine r_lret hx hb hr hlocks hW ?_ dX11_send_38
          have e : fSend B a1 a2 = BADL := by unfold fSend; rw [if_neg h1, if_neg (by omega)]
          rw [e]
          exact ⟨rfl, ChW.rf⟩
        · exact absurd (by decide) c20
    · exact absurd (by decide) c4

def rmX11_carry : Jvm.Room := { frames := 3, cells := 0, slots := 0, locals := 80 }
set_option maxHeartbeats 4000000 in
set_option maxRecDepth 100000 in
theorem t_X11_carry (l : Launch) (D : Dc) (G : Gg) (S : Sg) (z : Nat) (hG : GrG G) (hP : GrP G S) (B : Nat → Nat) (c : Nat) (hB : BP B c) (hc : c < 100000) (hM : ∀ k, k < 140 → gj S 66 k = lN (B k)) (a1 a2 a3 : Int32) : ML l yX11_carry wsX11_carry rmX11_carry D G S z [.ref (gA G 65), .int a1, .int a2, .int a3] (fun r S' => r = fCarry B a1 a2 a3 ∧ ChW S S') := by
  refine Met.ofW (cc := cX11_carry) (maxL := 12) (ret := (some .long)) (by decide +kernel) rfl ?_
  intro pP eE s mM args bl mT cD s₁ bD hml hv
  obtain ⟨rfl, hv⟩ := hv
  have hz := hv.1
  subst hz
  have hx := bD.exec
  have hb := bD.bytes
  have hr := bD.returns
  have hts := atoms_spec (ws := wsX11_carry) bD.pre
  have hown : s.vm.findClass RX11 = some mM.cls := findClass_of_methodNamed bD.named
  have hlocks := bD.notSynchronized
  have hW := Wd.start hv
  have hA : ∀ q, s.heap.size ≤ q → AW G s.heap.size q := fun q h => Or.inr h
  have hl := lv_entry ([.ref (gA G 65), .int a1, .int a2, .int a3]) (n := 12) (Nat.le_of_ble_eq_true rfl)
  rw [lg_entry_eq]
  generalize (lg_sl ([.ref (gA G 65), .int a1, .int a2, .int a3]) ++ List.replicate (12 - (lg_sl ([.ref (gA G 65), .int a1, .int a2, .int a3])).length) Slot.unset).toArray = ls at hl ⊢
  have hl : lv_has ls 12 [(0, .ref (gA G 65)), (1, .int a1), (2, .int a2), (3, .int a3)] := hl
  have q0 := hts (.constantLong RX11 178 (-9000000000000000002)) (List.mem_of_getElem? (i := 1) rfl)
  have q1 := hts (.constantLong RX11 224 (300)) (List.mem_of_getElem? (i := 2) rfl)
  have q2 := hts (.constantLong RX11 226 (4)) (List.mem_of_getElem? (i := 3) rfl)
  have q3 := hts (.fieldLink RX11 7 "WoodForTwoModel" "w" "[J") (List.mem_of_getElem? (i := 5) rfl)
  have q4 := hts (.constantLong RX11 210 (-1)) (List.mem_of_getElem? (i := 7) rfl)
  have q5 := hts (.constantLong RX11 200 (-1000000)) (List.mem_of_getElem? (i := 6) rfl)
  have q6 := hts (.constantLong RX11 56 (-9000000000000000001)) (List.mem_of_getElem? (i := 4) rfl)
  have iX11 : ∀ w ∈ wsX110, w ∈ wsX11_carry := fun _ h => List.mem_cons_of_mem _ (List.mem_append_right _ (h))
  generalize hQ0 : MQ bl _ _ s _ _ _ = Q0
  have hbp := BP_b hB
  refine lv_aload_n hx hb dX11_carry_0 rfl (lv_at hl 0 rfl) ?_
  refine r_calli hW hA (va_runV (As := []) (rest := []) ⟨hx, hb, hml, hown, hts⟩ (t_X11_isNone l D G S _ hG hP B c hB hc hM) (cwV 0 hts gX11_carry_X11_isNone rfl rfl rfl (by decide +kernel) ⟨Nat.le_of_ble_eq_true rfl, Nat.le_of_ble_eq_true rfl⟩) (r_preV (k := 65) hA hW (ci := 10) (C := RX11) (T := TX11) (N := 20) rfl rfl (g_lt hG (by decide)) (g_kd hG (by decide) rfl) rfl rfl) rfl rfl hl.1 rfl (lv_room (Nat.le_of_ble_eq_true rfl)) dX11_carry_1 ⟨Nat.zero_le _, Nat.zero_le _⟩) (fun r1 S1 H locs hp1 hW => ?_)
  obtain ⟨hs1, hp1⟩ := hp1
  rw [hs1] at hW
  rcases hp1 with ⟨rfl, h1⟩ | ⟨rfl, h1⟩
  · skip
    refine lv_if_eq (tgt := 11) hx hb dX11_carry_4 (by decide) (fun c4 => ?_) (fun c4 => ?_)
    · exact absurd c4 (by decide)
    · skip
      refine lv_ldc2 (v := (-9000000000000000002)) hx hb hown q0 dX11_carry_7 ?_
      rw [← hQ0]
      refine r_lret hx hb hr hlocks hW ?_ dX11_carry_10
      have e : fCarry B a1 a2 a3 = STATEL := by unfold fCarry; rw [if_pos h1]
      rw [e]
      exact ⟨rfl, ChW.rf⟩
  · skip
    refine lv_if_eq (tgt := 11) hx hb dX11_carry_4 (by decide) (fun c4 => ?_) (fun c4 => ?_)
    · skip
      refine lv_iload_n hx hb dX11_carry_11 rfl (lv_at hl 1 rfl) ?_
      refine lv_i2l hx hb dX11_carry_12 rfl ?_
      refine lv_lconst (v := 0) hx hb dX11_carry_13 (by decide) ?_
      refine lv_ldc2 (v := (300)) hx hb hown q1 dX11_carry_14 ?_
      refine r_calli hW hA (va_runS (As := [.long (Int32.toInt64 a1), .long 0, .long (300)]) (rest := []) ⟨hx, hb, hml, hown, hts⟩ (t_X11_in l D G S _ (Int32.toInt64 a1) 0 (300) (a1).toInt 0 300 (Int32.toInt_toInt64 _) (by decide) (by decide)) (va_cwS 3 hts gX11_carry_X11_in rfl rfl rfl (by decide +kernel) ⟨Nat.le_of_ble_eq_true rfl, Nat.le_of_ble_eq_true rfl⟩) (r_preS hA hW) rfl rfl hl.1 rfl (lv_room (Nat.le_of_ble_eq_true rfl)) dX11_carry_17 ⟨Nat.zero_le _, Nat.zero_le _⟩) (fun r17 S17 H locs hp17 hW => ?_)
      obtain ⟨hs17, hp17⟩ := hp17
      rw [hs17] at hW
      rcases hp17 with ⟨rfl, h17⟩ | ⟨rfl, h17⟩
      · skip
        refine lv_if_eq (tgt := 47) hx hb dX11_carry_20 (by decide) (fun c20 => ?_) (fun c20 => ?_)
        · exact absurd c20 (by decide)
        · skip
          refine lv_iload_n hx hb dX11_carry_23 rfl (lv_at hl 2 rfl) ?_
          refine lv_i2l hx hb dX11_carry_24 rfl ?_
          refine lv_lconst (v := 0) hx hb dX11_carry_25 (by decide) ?_
          refine lv_ldc2 (v := (300)) hx hb hown q1 dX11_carry_26 ?_
          refine r_calli hW hA (va_runS (As := [.long (Int32.toInt64 a2), .long 0, .long (300)]) (rest := []) ⟨hx, hb, hml, hown, hts⟩ (t_X11_in l D G S _ (Int32.toInt64 a2) 0 (300) (a2).toInt 0 300 (Int32.toInt_toInt64 _) (by decide) (by decide)) (va_cwS 3 hts gX11_carry_X11_in rfl rfl rfl (by decide +kernel) ⟨Nat.le_of_ble_eq_true rfl, Nat.le_of_ble_eq_true rfl⟩) (r_preS hA hW) rfl rfl hl.1 rfl (lv_room (Nat.le_of_ble_eq_true rfl)) dX11_carry_29 ⟨Nat.zero_le _, Nat.zero_le _⟩) (fun r29 S29 H locs hp29 hW => ?_)
          obtain ⟨hs29, hp29⟩ := hp29
          rw [hs29] at hW
          rcases hp29 with ⟨rfl, h29⟩ | ⟨rfl, h29⟩
          · skip
            refine lv_if_eq (tgt := 47) hx hb dX11_carry_32 (by decide) (fun c32 => ?_) (fun c32 => ?_)
            · exact absurd c32 (by decide)
            · skip
              refine lv_iload_n hx hb dX11_carry_35 rfl (lv_at hl 3 rfl) ?_
              refine lv_i2l hx hb dX11_carry_36 rfl ?_
              refine lv_lconst (v := 1) hx hb dX11_carry_37 (by decide) ?_
              refine lv_ldc2 (v := (4)) hx hb hown q2 dX11_carry_38 ?_
              refine r_calli hW hA (va_runS (As := [.long (Int32.toInt64 a3), .long 1, .long (4)]) (rest := []) ⟨hx, hb, hml, hown, hts⟩ (t_X11_in l D G S _ (Int32.toInt64 a3) 1 (4) (a3).toInt 1 4 (Int32.toInt_toInt64 _) (by decide) (by decide)) (va_cwS 3 hts gX11_carry_X11_in rfl rfl rfl (by decide +kernel) ⟨Nat.le_of_ble_eq_true rfl, Nat.le_of_ble_eq_true rfl⟩) (r_preS hA hW) rfl rfl hl.1 rfl (lv_room (Nat.le_of_ble_eq_true rfl)) dX11_carry_41 ⟨Nat.zero_le _, Nat.zero_le _⟩) (fun r41 S41 H locs hp41 hW => ?_)
              obtain ⟨hs41, hp41⟩ := hp41
              rw [hs41] at hW
              rcases hp41 with ⟨rfl, h41⟩ | ⟨rfl, h41⟩
              · skip
                refine lv_if_ne (tgt := 51) hx hb dX11_carry_44 (by decide) (fun c44 => ?_) (fun c44 => ?_)
                · skip
                  refine lv_aload_n hx hb dX11_carry_51 rfl (lv_at hl 0 rfl) ?_
                  refine r_getr (ci := 10) (C := RX11) (T := TX11) (N := 20) hx hb hts iX11 hown hW rfl 65 0 rfl (g_lt hG (by decide)) (g_kd hG (by decide) rfl) (by decide) q3 (fun _ h9 => h9) (hP _ (List.mem_of_getElem? (i := 60) rfl)) rfl rfl dX11_carry_52 ?_
                  refine lv_iconst (v := 4) hx hb dX11_carry_55 (by decide) ?_
                  refine W.eq (g2 := F0 mM 56 ls [.int (nI 4), .ref (gA G 66)]) rfl ?_
                  refine r_lald hx hb hW 66 rfl (g_lt hG (by decide)) (g_kd hG (by decide) rfl) (g_ix hG (c := 560) (by decide) rfl (n_inI (by omega) (by decide))) (lN (B 4)) (by rw [n_clamp (by omega)]; exact hM 4 (by omega)) dX11_carry_56 ?_
                  refine lv_lconst (v := 0) hx hb dX11_carry_57 (by decide) ?_
                  refine W.lcmp hx hb dX11_carry_58 ?_
                  refine lv_if_ne (tgt := 66) hx hb dX11_carry_59 (by decide) (fun c59 => ?_) (fun c59 => ?_)
                  · skip
                    rw [lc_ne] at c59
                    have hb4 : ¬ B 4 = 0 := by rw [lN_int (by omega), show (0 : Int64).toInt = 0 from by decide] at c59; omega
                    have hn_a1 := n_nat (x := a1) (by omega)
                    have e_a1 := n_nI (x := a1) (by omega)
                    have hn_a2 := n_nat (x := a2) (by omega)
                    have e_a2 := n_nI (x := a2) (by omega)
                    have hn_a3 := n_nat (x := a3) (by omega)
                    have e_a3 := n_nI (x := a3) (by omega)
                    have hB1 : BP1 B c := hB.resolve_left (fun z => by have z9 := z.2 132; omega)
                    obtain ⟨b0, b1, b2, b3, b4, b5, b6, b7, b8, b9, b10, b11, b12⟩ := id hB1
                    refine lv_iconst (v := 0) hx hb dX11_carry_66 (by decide) ?_
                    refine lv_istore (lv' := [(4, .int 0), (0, .ref (gA G 65)), (1, .int a1), (2, .int a2), (3, .int a3)]) hx hb dX11_carry_67 hl (by decide) rfl (fun ls hl => ?_)
                    refine lv_ldc2 (v := (-1)) hx hb hown q4 dX11_carry_69 ?_
                    refine lv_lstore (lv' := [(5, .long (-1)), (4, .int 0), (0, .ref (gA G 65)), (1, .int a1), (2, .int a2), (3, .int a3)]) hx hb dX11_carry_72 hl (by decide) rfl (fun ls hl => ?_)
                    refine lv_iconst (v := 0) hx hb dX11_carry_74 (by decide) ?_
                    refine lv_istore (lv' := [(7, .int 0), (5, .long (-1)), (4, .int 0), (0, .ref (gA G 65)), (1, .int a1), (2, .int a2), (3, .int a3)]) hx hb dX11_carry_75 hl (by decide) rfl (fun ls hl => ?_)
                    have L77 : ∀ (n : Nat) (k : Nat) (T : Sg) (H : Heap) (locs : List Loc) (ls : Array Slot), (a1.toNatClampNeg / 2 + 1 - k) < n → k ≤ a1.toNatClampNeg / 2 + 1 → ChW S T → Wd D (AW G s.heap.size) s G T H locs → lv_has ls 12 [(7, .int (nI k)), (4, .int (nI (amx (crF B a1.toNatClampNeg a2.toNatClampNeg a3.toNatClampNeg) k).1)), (5, .long (mI (amx (crF B a1.toNatClampNeg a2.toNatClampNeg a3.toNatClampNeg) k).2)), (0, .ref (gA G 65)), (1, .int a1), (2, .int a2), (3, .int a3)] → W pP l eE (headSpec wsX11_carry rmX11_carry).room s mM ([.ref (gA G 65), .int a1, .int a2, .int a3] : List Value).toArray bl mT cD H locs 0 0 Q0 (F0 mM 77 ls []) := by
                      intro n
                      induction n with
                      | zero => intro k T H locs ls hm; exact absurd hm (Nat.not_lt_zero _)
                      | succ n ih77 =>
                        intro k T H locs ls hm77 hk hCT hW hl
                        have hP_T : GrP G T := fun q hq => by rw [hCT.1]; exact hP q hq
                        have hM_T : ∀ k, k < 140 → gj T 66 k = lN (B k) := fun k hk => by rw [hCT.2.2 66 (by decide)]; exact hM k hk
                        refine lv_iconst (v := 2) hx hb dX11_carry_77 (by decide) ?_
                        refine lv_iload hx hb dX11_carry_78 (lv_at hl 0 rfl) ?_
                        refine lv_imul hx hb dX11_carry_80 ?_
                        rw [show ((2 * (nI k)) : Int32) = (nI (2 * k)) from n_mul 2 k]
                        refine lv_iload_n hx hb dX11_carry_81 rfl (lv_at hl 4 rfl) ?_
                        refine W.eq (g2 := F0 mM 82 ls [.int (nI a1.toNatClampNeg), .int (nI (2 * k))]) (by rw [← e_a1]) ?_
                        refine lv_icmp_gt (tgt := 170) hx hb dX11_carry_82 (by decide) (fun c82 => ?_) (fun c82 => ?_)
                        · skip
                          have hke : k = a1.toNatClampNeg / 2 + 1 := by
                            have h9 := (n_lt (a := a1.toNatClampNeg) (b := 2 * k) (by omega) (by omega)).mp c82
                            omega
                          refine lv_iload hx hb dX11_carry_170 (lv_at hl 1 rfl) ?_
                          refine lv_i2l hx hb dX11_carry_172 rfl ?_
                          rw [← hQ0]
                          refine r_lret hx hb hr hlocks hW ?_ dX11_carry_173
                          have e : fCarry B a1 a2 a3 = lN (amx (crF B a1.toNatClampNeg a2.toNatClampNeg a3.toNatClampNeg) (a1.toNatClampNeg / 2 + 1)).1 := by unfold fCarry; rw [if_neg h1, if_pos (by omega), if_neg hb4]
                          rw [e, ← hke]
                          have hax := amx_b (f := (crF B a1.toNatClampNeg a2.toNatClampNeg a3.toNatClampNeg)) (M := 72301961339136) k (fun i _ => crF_le hB1 b4 (by omega) i)
                          exact ⟨lN_of (by omega), hCT⟩
                        · skip
                          have hke : 2 * k ≤ a1.toNatClampNeg := by
                            have h9 : ¬ a1.toNatClampNeg < 2 * k := fun z => c82 ((n_lt (a := a1.toNatClampNeg) (b := 2 * k) (by omega) (by omega)).mpr z)
                            omega
                          have hck := crF_le (a := a1.toNatClampNeg) (b := a2.toNatClampNeg) (n := a3.toNatClampNeg) hB1 b4 (by omega) k
                          have hax := amx_b (f := (crF B a1.toNatClampNeg a2.toNatClampNeg a3.toNatClampNeg)) (M := 72301961339136) k (fun i _ => crF_le hB1 b4 (by omega) i)
                          refine lv_aload_n hx hb dX11_carry_85 rfl (lv_at hl 3 rfl) ?_
                          refine lv_iload_n hx hb dX11_carry_86 rfl (lv_at hl 4 rfl) ?_
                          refine lv_iconst (v := 2) hx hb dX11_carry_87 (by decide) ?_
                          refine lv_iload hx hb dX11_carry_88 (lv_at hl 0 rfl) ?_
                          refine lv_imul hx hb dX11_carry_90 ?_
                          rw [show ((2 * (nI k)) : Int32) = (nI (2 * k)) from n_mul 2 k]
                          refine lv_isub hx hb dX11_carry_91 ?_
                          rw [show ((a1 - (nI (2 * k))) : Int32) = (nI (a1.toNatClampNeg - 2 * k)) from (congrArg (fun z => z - nI (2 * k)) e_a1).trans (n_sub hke)]
                          refine lv_iload_n hx hb dX11_carry_92 rfl (lv_at hl 6 rfl) ?_
                          refine lv_aload_n hx hb dX11_carry_93 rfl (lv_at hl 3 rfl) ?_
                          refine r_getr (ci := 10) (C := RX11) (T := TX11) (N := 20) hx hb hts iX11 hown hW rfl 65 0 rfl (g_lt hG (by decide)) (g_kd hG (by decide) rfl) (by decide) q3 (fun _ h9 => h9) (hP_T _ (List.mem_of_getElem? (i := 60) rfl)) rfl rfl dX11_carry_94 ?_
                          refine lv_iconst (v := 2) hx hb dX11_carry_97 (by decide) ?_
                          refine W.eq (g2 := F0 mM 98 ls [.int (nI 2), .ref (gA G 66), .int a3, .int (nI (a1.toNatClampNeg - 2 * k)), .ref (gA G 65)]) rfl ?_
                          refine r_lald hx hb hW 66 rfl (g_lt hG (by decide)) (g_kd hG (by decide) rfl) (g_ix hG (c := 560) (by decide) rfl (n_inI (by omega) (by decide))) (lN (B 2)) (by rw [n_clamp (by omega)]; exact hM_T 2 (by omega)) dX11_carry_98 ?_
                          refine lv_l2i hx hb dX11_carry_99 rfl ?_
                          rw [show (Int64.toInt32 (lN (B 2)) : Int32) = nI (B 2) from lN_i _]
                          refine lv_iconst (v := 0) hx hb dX11_carry_100 (by decide) ?_
                          refine lv_iconst (v := 0) hx hb dX11_carry_101 (by decide) ?_
                          refine W.eq (g2 := F0 mM 102 ls [.int (nI 0), .int (nI 0), .int (nI (B 2)), .int (nI a3.toNatClampNeg), .int (nI (a1.toNatClampNeg - 2 * k)), .ref (gA G 65)]) (by rw [← e_a3]; rfl) ?_
                          refine r_calll hW hA (va_runV (As := [.int (nI (a1.toNatClampNeg - 2 * k)), .int (nI a3.toNatClampNeg), .int (nI (B 2)), .int (nI 0), .int (nI 0)]) (rest := []) ⟨hx, hb, hml, hown, hts⟩ (t_X11_safeWays l D G T _ hG hP_T B c hB1 hc hM_T (a1.toNatClampNeg - 2 * k) (a3.toNatClampNeg) (B 2) 0 0 (by omega) (by omega) (by omega) (by omega) (by omega)) (cwV 5 hts gX11_carry_X11_safeWays rfl rfl rfl (by decide +kernel) ⟨Nat.le_of_ble_eq_true rfl, Nat.le_of_ble_eq_true rfl⟩) (r_preV (k := 65) hA hW (ci := 10) (C := RX11) (T := TX11) (N := 20) rfl rfl (g_lt hG (by decide)) (g_kd hG (by decide) rfl) rfl rfl) rfl rfl hl.1 rfl (lv_room (Nat.le_of_ble_eq_true rfl)) dX11_carry_102 ⟨Nat.zero_le _, Nat.zero_le _⟩) (fun r102 S102 H locs hp102 hW => ?_)
                          obtain ⟨hr102, hA_S102, hC_S102⟩ := hp102
                          rw [if_pos rfl] at hr102
                          subst hr102
                          have hP_S102 : GrP G S102 := fun q hq => by rw [hC_S102.1]; exact hP_T q hq
                          have hM_S102 : ∀ k, k < 140 → gj S102 66 k = lN (B k) := fun k hk => by rw [hC_S102.2.2 66 (by decide)]; exact hM_T k hk
                          refine lv_lstore (lv' := [(8, .long (lN (fW B (B 2) (a3.toNatClampNeg) (a1.toNatClampNeg - 2 * k)))), (7, .int (nI k)), (4, .int (nI (amx (crF B a1.toNatClampNeg a2.toNatClampNeg a3.toNatClampNeg) k).1)), (5, .long (mI (amx (crF B a1.toNatClampNeg a2.toNatClampNeg a3.toNatClampNeg) k).2)), (0, .ref (gA G 65)), (1, .int a1), (2, .int a2), (3, .int a3)]) hx hb dX11_carry_105 hl (by decide) rfl (fun ls hl => ?_)
                          refine lv_lload hx hb dX11_carry_107 (lv_at hl 0 rfl) ?_
                          refine lv_aload_n hx hb dX11_carry_109 rfl (lv_at hl 4 rfl) ?_
                          refine lv_iload_n hx hb dX11_carry_110 rfl (lv_at hl 6 rfl) ?_
                          refine lv_iload hx hb dX11_carry_111 (lv_at hl 1 rfl) ?_
                          refine lv_iadd hx hb dX11_carry_113 ?_
                          rw [show ((a2 + (nI k)) : Int32) = (nI (a2.toNatClampNeg + k)) from (congrArg (fun z => z + nI k) e_a2).trans (n_add _ _)]
                          refine lv_iload_n hx hb dX11_carry_114 rfl (lv_at hl 7 rfl) ?_
                          refine lv_aload_n hx hb dX11_carry_115 rfl (lv_at hl 4 rfl) ?_
                          refine r_getr (ci := 10) (C := RX11) (T := TX11) (N := 20) hx hb hts iX11 hown hW rfl 65 0 rfl (g_lt hG (by decide)) (g_kd hG (by decide) rfl) (by decide) q3 (fun _ h9 => h9) (hP_S102 _ (List.mem_of_getElem? (i := 60) rfl)) rfl rfl dX11_carry_116 ?_
                          refine lv_iconst (v := 2) hx hb dX11_carry_119 (by decide) ?_
                          refine W.eq (g2 := F0 mM 120 ls [.int (nI 2), .ref (gA G 66), .int a3, .int (nI (a2.toNatClampNeg + k)), .ref (gA G 65), .long (lN (fW B (B 2) (a3.toNatClampNeg) (a1.toNatClampNeg - 2 * k)))]) rfl ?_
                          refine r_lald hx hb hW 66 rfl (g_lt hG (by decide)) (g_kd hG (by decide) rfl) (g_ix hG (c := 560) (by decide) rfl (n_inI (by omega) (by decide))) (lN (B 2)) (by rw [n_clamp (by omega)]; exact hM_S102 2 (by omega)) dX11_carry_120 ?_
                          refine lv_l2i hx hb dX11_carry_121 rfl ?_
                          rw [show (Int64.toInt32 (lN (B 2)) : Int32) = nI (B 2) from lN_i _]
                          refine lv_iconst (v := 0) hx hb dX11_carry_122 (by decide) ?_
                          refine lv_iconst (v := 0) hx hb dX11_carry_123 (by decide) ?_
                          refine W.eq (g2 := F0 mM 124 ls [.int (nI 0), .int (nI 0), .int (nI (B 2)), .int (nI a3.toNatClampNeg), .int (nI (a2.toNatClampNeg + k)), .ref (gA G 65), .long (lN (fW B (B 2) (a3.toNatClampNeg) (a1.toNatClampNeg - 2 * k)))]) (by rw [← e_a3]; rfl) ?_
                          refine r_calll hW hA (va_runV (As := [.int (nI (a2.toNatClampNeg + k)), .int (nI a3.toNatClampNeg), .int (nI (B 2)), .int (nI 0), .int (nI 0)]) (rest := [.long (lN (fW B (B 2) (a3.toNatClampNeg) (a1.toNatClampNeg - 2 * k)))]) ⟨hx, hb, hml, hown, hts⟩ (t_X11_safeWays l D G S102 _ hG hP_S102 B c hB1 hc hM_S102 (a2.toNatClampNeg + k) (a3.toNatClampNeg) (B 2) 0 0 (by omega) (by omega) (by omega) (by omega) (by omega)) (cwV 5 hts gX11_carry_X11_safeWays rfl rfl rfl (by decide +kernel) ⟨Nat.le_of_ble_eq_true rfl, Nat.le_of_ble_eq_true rfl⟩) (r_preV (k := 65) hA hW (ci := 10) (C := RX11) (T := TX11) (N := 20) rfl rfl (g_lt hG (by decide)) (g_kd hG (by decide) rfl) rfl rfl) rfl rfl hl.1 rfl (lv_room (Nat.le_of_ble_eq_true rfl)) dX11_carry_124 ⟨Nat.zero_le _, Nat.zero_le _⟩) (fun r124 S124 H locs hp124 hW => ?_)
                          obtain ⟨hr124, hA_S124, hC_S124⟩ := hp124
                          rw [if_pos rfl] at hr124
                          subst hr124
                          have hP_S124 : GrP G S124 := fun q hq => by rw [hC_S124.1]; exact hP_S102 q hq
                          have hM_S124 : ∀ k, k < 140 → gj S124 66 k = lN (B k) := fun k hk => by rw [hC_S124.2.2 66 (by decide)]; exact hM_S102 k hk
                          refine lv_lmul hx hb dX11_carry_127 ?_
                          rw [show (((lN (fW B (B 2) (a3.toNatClampNeg) (a1.toNatClampNeg - 2 * k))) * (lN (fW B (B 2) (a3.toNatClampNeg) (a2.toNatClampNeg + k)))) : Int64) = (lN ((fW B (B 2) (a3.toNatClampNeg) (a1.toNatClampNeg - 2 * k)) * (fW B (B 2) (a3.toNatClampNeg) (a2.toNatClampNeg + k)))) from lN_mul (fW B (B 2) (a3.toNatClampNeg) (a1.toNatClampNeg - 2 * k)) (fW B (B 2) (a3.toNatClampNeg) (a2.toNatClampNeg + k))]
                          have ez : ((lN ((fW B (B 2) (a3.toNatClampNeg) (a1.toNatClampNeg - 2 * k)) * (fW B (B 2) (a3.toNatClampNeg) (a2.toNatClampNeg + k)))) : Int64) = (lN ((crF B a1.toNatClampNeg a2.toNatClampNeg a3.toNatClampNeg) k)) := rfl
                          refine W.eq (g2 := F0 mM 128 ls [.long (lN ((crF B a1.toNatClampNeg a2.toNatClampNeg a3.toNatClampNeg) k))]) (by rw [← ez]) ?_
                          refine lv_lstore (lv' := [(10, .long (lN ((crF B a1.toNatClampNeg a2.toNatClampNeg a3.toNatClampNeg) k))), (8, .long (lN (fW B (B 2) (a3.toNatClampNeg) (a1.toNatClampNeg - 2 * k)))), (7, .int (nI k)), (4, .int (nI (amx (crF B a1.toNatClampNeg a2.toNatClampNeg a3.toNatClampNeg) k).1)), (5, .long (mI (amx (crF B a1.toNatClampNeg a2.toNatClampNeg a3.toNatClampNeg) k).2)), (0, .ref (gA G 65)), (1, .int a1), (2, .int a2), (3, .int a3)]) hx hb dX11_carry_128 hl (by decide) rfl (fun ls hl => ?_)
                          refine lv_lload hx hb dX11_carry_130 (lv_at hl 0 rfl) ?_
                          refine lv_lload hx hb dX11_carry_132 (lv_at hl 4 rfl) ?_
                          refine W.lcmp hx hb dX11_carry_134 ?_
                          refine lv_if_le (tgt := 143) hx hb dX11_carry_135 (by decide) (fun c135 => ?_) (fun c135 => ?_)
                          · skip
                            have d135 := (lc_le _ _).mp c135
                            rw [lN_int (by omega), mI_int hax.1 (by omega)] at d135
                            refine lv_iload hx hb dX11_carry_143 (lv_at hl 3 rfl) ?_
                            refine lv_istore (lv' := [(4, .int (nI (amx (crF B a1.toNatClampNeg a2.toNatClampNeg a3.toNatClampNeg) k).1)), (10, .long (lN ((crF B a1.toNatClampNeg a2.toNatClampNeg a3.toNatClampNeg) k))), (8, .long (lN (fW B (B 2) (a3.toNatClampNeg) (a1.toNatClampNeg - 2 * k)))), (7, .int (nI k)), (5, .long (mI (amx (crF B a1.toNatClampNeg a2.toNatClampNeg a3.toNatClampNeg) k).2)), (0, .ref (gA G 65)), (1, .int a1), (2, .int a2), (3, .int a3)]) hx hb dX11_carry_145 hl (by decide) rfl (fun ls hl => ?_)
                            refine lv_lload hx hb dX11_carry_147 (lv_at hl 1 rfl) ?_
                            refine lv_lload hx hb dX11_carry_149 (lv_at hl 4 rfl) ?_
                            refine W.lcmp hx hb dX11_carry_151 ?_
                            refine lv_if_le (tgt := 160) hx hb dX11_carry_152 (by decide) (fun c152 => ?_) (fun c152 => ?_)
                            · skip
                              refine lv_lload hx hb dX11_carry_160 (lv_at hl 4 rfl) ?_
                              refine lv_lstore (lv' := [(5, .long (mI (amx (crF B a1.toNatClampNeg a2.toNatClampNeg a3.toNatClampNeg) k).2)), (4, .int (nI (amx (crF B a1.toNatClampNeg a2.toNatClampNeg a3.toNatClampNeg) k).1)), (10, .long (lN ((crF B a1.toNatClampNeg a2.toNatClampNeg a3.toNatClampNeg) k))), (8, .long (lN (fW B (B 2) (a3.toNatClampNeg) (a1.toNatClampNeg - 2 * k)))), (7, .int (nI k)), (0, .ref (gA G 65)), (1, .int a1), (2, .int a2), (3, .int a3)]) hx hb dX11_carry_162 hl (by decide) rfl (fun ls hl => ?_)
                              have eM : amx (crF B a1.toNatClampNeg a2.toNatClampNeg a3.toNatClampNeg) (k + 1) = amx (crF B a1.toNatClampNeg a2.toNatClampNeg a3.toNatClampNeg) k := by show (if _ then _ else _) = _; rw [if_neg (by omega)]
                              have em : (mI (amx (crF B a1.toNatClampNeg a2.toNatClampNeg a3.toNatClampNeg) k).2) = mI (amx (crF B a1.toNatClampNeg a2.toNatClampNeg a3.toNatClampNeg) (k + 1)).2 := by rw [eM]
                              have eb : (nI (amx (crF B a1.toNatClampNeg a2.toNatClampNeg a3.toNatClampNeg) k).1) = (nI (amx (crF B a1.toNatClampNeg a2.toNatClampNeg a3.toNatClampNeg) (k + 1)).1) := by rw [eM]
                              have hl : lv_has ls 12 [(5, .long (mI (amx (crF B a1.toNatClampNeg a2.toNatClampNeg a3.toNatClampNeg) (k + 1)).2)), (4, .int (nI (amx (crF B a1.toNatClampNeg a2.toNatClampNeg a3.toNatClampNeg) (k + 1)).1)), (10, .long (lN ((crF B a1.toNatClampNeg a2.toNatClampNeg a3.toNatClampNeg) k))), (8, .long (lN (fW B (B 2) (a3.toNatClampNeg) (a1.toNatClampNeg - 2 * k)))), (7, .int (nI k)), (0, .ref (gA G 65)), (1, .int a1), (2, .int a2), (3, .int a3)] := by rw [← em, ← eb]; exact hl
                              refine lv_iinc (v := (nI (k + 1))) (lv' := [(7, .int (nI (k + 1))), (5, .long (mI (amx (crF B a1.toNatClampNeg a2.toNatClampNeg a3.toNatClampNeg) (k + 1)).2)), (4, .int (nI (amx (crF B a1.toNatClampNeg a2.toNatClampNeg a3.toNatClampNeg) (k + 1)).1)), (10, .long (lN ((crF B a1.toNatClampNeg a2.toNatClampNeg a3.toNatClampNeg) k))), (8, .long (lN (fW B (B 2) (a3.toNatClampNeg) (a1.toNatClampNeg - 2 * k)))), (0, .ref (gA G 65)), (1, .int a1), (2, .int a2), (3, .int a3)]) hx hb dX11_carry_164 hl (k := 4) rfl (nI_1 k) (by decide) rfl (fun ls hl => ?_)
                              refine lv_goto (tgt := 77) hx hb dX11_carry_167 (by decide) ?_
                              exact ih77 (k + 1) S124 _ _ ls (by omega) (by omega) (ChW.tr hCT (ChW.tr hC_S102 hC_S124)) hW (lv_sub hl [0, 2, 1, 5, 6, 7, 8] rfl)
                            · exact absurd c135 c152
                          · skip
                            have d135 : ¬ _ := fun z => c135 ((lc_le _ _).mpr z)
                            rw [lN_int (by omega), mI_int hax.1 (by omega)] at d135
                            refine lv_iload hx hb dX11_carry_138 (lv_at hl 2 rfl) ?_
                            refine lv_goto (tgt := 145) hx hb dX11_carry_140 (by decide) ?_
                            refine lv_istore (lv' := [(4, .int (nI k)), (10, .long (lN ((crF B a1.toNatClampNeg a2.toNatClampNeg a3.toNatClampNeg) k))), (8, .long (lN (fW B (B 2) (a3.toNatClampNeg) (a1.toNatClampNeg - 2 * k)))), (7, .int (nI k)), (5, .long (mI (amx (crF B a1.toNatClampNeg a2.toNatClampNeg a3.toNatClampNeg) k).2)), (0, .ref (gA G 65)), (1, .int a1), (2, .int a2), (3, .int a3)]) hx hb dX11_carry_145 hl (by decide) rfl (fun ls hl => ?_)
                            refine lv_lload hx hb dX11_carry_147 (lv_at hl 1 rfl) ?_
                            refine lv_lload hx hb dX11_carry_149 (lv_at hl 4 rfl) ?_
                            refine W.lcmp hx hb dX11_carry_151 ?_
                            refine lv_if_le (tgt := 160) hx hb dX11_carry_152 (by decide) (fun c152 => ?_) (fun c152 => ?_)
                            · exact absurd c152 c135
                            · skip
                              refine lv_lload hx hb dX11_carry_155 (lv_at hl 1 rfl) ?_
                              refine lv_goto (tgt := 162) hx hb dX11_carry_157 (by decide) ?_
                              refine lv_lstore (lv' := [(5, .long (lN ((crF B a1.toNatClampNeg a2.toNatClampNeg a3.toNatClampNeg) k))), (4, .int (nI k)), (10, .long (lN ((crF B a1.toNatClampNeg a2.toNatClampNeg a3.toNatClampNeg) k))), (8, .long (lN (fW B (B 2) (a3.toNatClampNeg) (a1.toNatClampNeg - 2 * k)))), (7, .int (nI k)), (0, .ref (gA G 65)), (1, .int a1), (2, .int a2), (3, .int a3)]) hx hb dX11_carry_162 hl (by decide) rfl (fun ls hl => ?_)
                              have eM : amx (crF B a1.toNatClampNeg a2.toNatClampNeg a3.toNatClampNeg) (k + 1) = (k, ((crF B a1.toNatClampNeg a2.toNatClampNeg a3.toNatClampNeg) k : Int)) := by show (if _ then _ else _) = _; rw [if_pos (by omega)]
                              have em : (lN ((crF B a1.toNatClampNeg a2.toNatClampNeg a3.toNatClampNeg) k)) = mI (amx (crF B a1.toNatClampNeg a2.toNatClampNeg a3.toNatClampNeg) (k + 1)).2 := by rw [eM]; unfold mI; rw [if_neg (by dsimp only; omega)]; rfl
                              have eb : (nI k) = (nI (amx (crF B a1.toNatClampNeg a2.toNatClampNeg a3.toNatClampNeg) (k + 1)).1) := by rw [eM]
                              have hl : lv_has ls 12 [(5, .long (mI (amx (crF B a1.toNatClampNeg a2.toNatClampNeg a3.toNatClampNeg) (k + 1)).2)), (4, .int (nI (amx (crF B a1.toNatClampNeg a2.toNatClampNeg a3.toNatClampNeg) (k + 1)).1)), (10, .long (lN ((crF B a1.toNatClampNeg a2.toNatClampNeg a3.toNatClampNeg) k))), (8, .long (lN (fW B (B 2) (a3.toNatClampNeg) (a1.toNatClampNeg - 2 * k)))), (7, .int (nI k)), (0, .ref (gA G 65)), (1, .int a1), (2, .int a2), (3, .int a3)] := by rw [← em, ← eb]; exact hl
                              refine lv_iinc (v := (nI (k + 1))) (lv' := [(7, .int (nI (k + 1))), (5, .long (mI (amx (crF B a1.toNatClampNeg a2.toNatClampNeg a3.toNatClampNeg) (k + 1)).2)), (4, .int (nI (amx (crF B a1.toNatClampNeg a2.toNatClampNeg a3.toNatClampNeg) (k + 1)).1)), (10, .long (lN ((crF B a1.toNatClampNeg a2.toNatClampNeg a3.toNatClampNeg) k))), (8, .long (lN (fW B (B 2) (a3.toNatClampNeg) (a1.toNatClampNeg - 2 * k)))), (0, .ref (gA G 65)), (1, .int a1), (2, .int a2), (3, .int a3)]) hx hb dX11_carry_164 hl (k := 4) rfl (nI_1 k) (by decide) rfl (fun ls hl => ?_)
                              refine lv_goto (tgt := 77) hx hb dX11_carry_167 (by decide) ?_
                              exact ih77 (k + 1) S124 _ _ ls (by omega) (by omega) (ChW.tr hCT (ChW.tr hC_S102 hC_S124)) hW (lv_sub hl [0, 2, 1, 5, 6, 7, 8] rfl)
                    exact L77 _ 0 S _ _ ls (Nat.lt_succ_self _) (Nat.zero_le _) ChW.rf hW (lv_sub hl [0, 2, 1, 3, 4, 5, 6] rfl)
                  · skip
                    rw [lc_ne] at c59
                    have hb4 : B 4 = 0 := by rw [lN_int (by omega), show (0 : Int64).toInt = 0 from by decide] at c59; omega
                    refine lv_ldc2 (v := (-1000000)) hx hb hown q5 dX11_carry_62 ?_
                    rw [← hQ0]
                    refine r_lret hx hb hr hlocks hW ?_ dX11_carry_65
                    have e : fCarry B a1 a2 a3 = NONEL := by unfold fCarry; rw [if_neg h1, if_pos (by omega), if_pos hb4]
                    rw [e]
                    exact ⟨rfl, ChW.rf⟩
                · exact absurd c44 (by decide)
              · skip
                refine lv_if_ne (tgt := 51) hx hb dX11_carry_44 (by decide) (fun c44 => ?_) (fun c44 => ?_)
                · exact absurd (by decide) c44
                · skip
                  refine lv_ldc2 (v := (-9000000000000000001)) hx hb hown q6 dX11_carry_47 ?_
                  rw [← hQ0]
                  refine r_lret hx hb hr hlocks hW ?_ dX11_carry_50
                  have e : fCarry B a1 a2 a3 = BADL := by unfold fCarry; rw [if_neg h1, if_neg (by omega)]
                  rw [e]
                  exact ⟨rfl, ChW.rf⟩
          · skip
            refine lv_if_eq (tgt := 47) hx hb dX11_carry_32 (by decide) (fun c32 => ?_) (fun c32 => ?_)
            · skip
              refine lv_ldc2 (v := (-9000000000000000001)) hx hb hown q6 dX11_carry_47 ?_
              rw [← hQ0]
              refine r_lret hx hb hr hlocks hW ?_ dX11_carry_50
              have e : fCarry B a1 a2 a3 = BADL := by unfold fCarry; rw [if_neg h1, if_neg (by omega)]
              rw [e]
              exact ⟨rfl, ChW.rf⟩
            · exact absurd (by decide) c32
      · skip
        refine lv_if_eq (tgt := 47) hx hb dX11_carry_20 (by decide) (fun c20 => ?_) (fun c20 => ?_)
        · skip
          refine lv_ldc2 (v := (-9000000000000000001)) hx hb hown q6 dX11_carry_47 ?_
          rw [← hQ0]
          refine r_lret hx hb hr hlocks hW ?_ dX11_carry_50
          have e : fCarry B a1 a2 a3 = BADL := by unfold fCarry; rw [if_neg h1, if_neg (by omega)]
          rw [e]
          exact ⟨rfl, ChW.rf⟩
        · exact absurd (by decide) c20
    · exact absurd (by decide) c4
