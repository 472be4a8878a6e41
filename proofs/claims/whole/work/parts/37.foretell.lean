def rmX0_foretell : Jvm.Room := { frames := 3, cells := 0, slots := 0, locals := 68 }
set_option maxHeartbeats 4000000 in
set_option maxRecDepth 100000 in
theorem t_X0_foretell (l : Launch) (D : Dc) (G : Gg) (S : Sg) (z : Nat) (hG : GrG G) (hP : GrP G S) (h : Nat) (hh : PassR h) (B : Nat → Nat) (c : Nat) (hB1 : BP1 B c) (hR : RP G S h B) (law n0 : Nat) (hl2 : law ≤ 2) (hn1 : 1 ≤ n0) (hn8 : n0 ≤ 8) : MV l yX0_foretell wsX0_foretell rmX0_foretell D G S z [.ref (gA G 14), .ref (gA G h), .int (nI law), .int (nI n0)] (fun S' => FTs S' B law n0 ∧ FTr S' B law n0 (n0 + 1) ∧ Ch (fun k => k = 14 ∨ (16 ≤ k ∧ k ≤ 29)) S S') := by
  refine Met.ofW (cc := cX0_foretell) (maxL := 6) (ret := none) (by decide +kernel) rfl ?_
  intro pP eE s mM args bl mT cD s₁ bD hml hv
  obtain ⟨rfl, hv⟩ := hv
  have hz := hv.1
  subst hz
  have hx := bD.exec
  have hb := bD.bytes
  have hr := bD.returns
  have hts := atoms_spec (ws := wsX0_foretell) bD.pre
  have hown : s.vm.findClass RX0 = some mM.cls := findClass_of_methodNamed bD.named
  have hlocks := bD.notSynchronized
  have hW := Wd.start hv
  have hA : ∀ q, s.heap.size ≤ q → AW G s.heap.size q := fun q h => Or.inr h
  have hl := lv_entry ([.ref (gA G 14), .ref (gA G h), .int (nI law), .int (nI n0)]) (n := 6) (Nat.le_of_ble_eq_true rfl)
  rw [lg_entry_eq]
  generalize (lg_sl ([.ref (gA G 14), .ref (gA G h), .int (nI law), .int (nI n0)]) ++ List.replicate (6 - (lg_sl ([.ref (gA G 14), .ref (gA G h), .int (nI law), .int (nI n0)])).length) Slot.unset).toArray = ls at hl ⊢
  have hl : lv_has ls 6 [(0, .ref (gA G 14)), (1, .ref (gA G h)), (2, .int (nI law)), (3, .int (nI n0))] := hl
  have q0 := hts (.fieldLink RX0 13 "WoodForTwo$Foretelling" "waysFree" "[[J") (List.mem_of_getElem? (i := 1) rfl)
  have q1 := hts (.fieldLink RX0 43 "WoodForTwo$Foretelling" "enough" "I") (List.mem_of_getElem? (i := 2) rfl)
  have iX0 : ∀ w ∈ wsX00, w ∈ wsX0_foretell := fun _ h => List.mem_cons_of_mem _ (List.mem_append_left _ (List.mem_append_right _ (h)))
  generalize hQ0 : MQ bl _ _ s _ _ _ = Q0
  obtain ⟨b0, b1, b2, b3, b4, b5, b6, b7, b8, b9, b10, b11, b12⟩ := id hB1
  have hE9 := enF_le (n := n0) hB1 hl2 hn8
  refine lv_aload_n hx hb dX0_foretell_0 rfl (lv_at hl 0 rfl) ?_
  refine lv_aload_n hx hb dX0_foretell_1 rfl (lv_at hl 1 rfl) ?_
  refine lv_iload_n hx hb dX0_foretell_2 rfl (lv_at hl 2 rfl) ?_
  refine lv_iload_n hx hb dX0_foretell_3 rfl (lv_at hl 3 rfl) ?_
  refine r_callv hW hA (va_runV (As := [.ref (gA G h), .int (nI law), .int (nI n0)]) (rest := []) ⟨hx, hb, hml, hown, hts⟩ (t_X0_takeChances l D G S _ hG hP h hh B c hB1 hR law n0 hl2 hn1 hn8) (cwV 3 hts gX0_foretell_X0_takeChances rfl rfl rfl (by decide +kernel) ⟨Nat.le_of_ble_eq_true rfl, Nat.le_of_ble_eq_true rfl⟩) (r_preV (k := 14) hA hW (ci := 0) (C := RX0) (T := TX0) (N := 10) rfl rfl (g_lt hG (by decide)) (g_kd hG (by decide) rfl) rfl rfl) rfl rfl hl.1 rfl (lv_room (Nat.le_of_ble_eq_true rfl)) dX0_foretell_4 ⟨Nat.zero_le _, Nat.zero_le _⟩) (fun S4 H locs hp4 hW => ?_)
  obtain ⟨hF4, hC4⟩ := hp4
  have hP_S4 : GrP G S4 := fun q hq => by rw [hC4.1]; exact hP q hq
  refine lv_aload_n hx hb dX0_foretell_7 rfl (lv_at hl 0 rfl) ?_
  refine r_getr (ci := 0) (C := RX0) (T := TX0) (N := 10) hx hb hts iX0 hown hW rfl 14 0 rfl (g_lt hG (by decide)) (g_kd hG (by decide) rfl) (by decide) q0 (fun _ h9 => h9) (hP_S4 _ (List.mem_of_getElem? (i := 16) rfl)) rfl rfl dX0_foretell_8 ?_
  refine lv_iconst (v := 0) hx hb dX0_foretell_11 (by decide) ?_
  refine r_aald hx hb hW 15 rfl (g_lt hG (by decide)) 17 6 (g_kd hG (by decide) rfl) rfl rfl (fun _ _ _ _ => rfl) (g_ix hG (c := 9) (by decide) rfl (t_in (by decide) (by decide))) (some (gA G 16)) (hP_S4 (15, 0, 16) (by decide)) dX0_foretell_12 ?_
  refine W.eq (g2 := F0 mM 13 ls [.ref (gA G 16)]) rfl ?_
  refine lv_lconst (v := 1) hx hb dX0_foretell_13 (by decide) ?_
  refine r_callv hW hA (va_runS (As := [.ref (gA G 16), .long 1]) (rest := []) ⟨hx, hb, hml, hown, hts⟩ (t_J7_fill_d0a16 l D G S4 _ 16 649 (g_lt hG (by decide)) (g_kd hG (by decide) rfl) (g_z hG (by decide) rfl) (by decide) 1) (va_cwS 2 hts gX0_foretell_J7_fill_d0a16 rfl rfl rfl (by decide +kernel) ⟨Nat.le_of_ble_eq_true rfl, Nat.le_of_ble_eq_true rfl⟩) (r_preS hA hW) rfl rfl hl.1 rfl (lv_room (Nat.le_of_ble_eq_true rfl)) dX0_foretell_14 ⟨Nat.zero_le _, Nat.zero_le _⟩) (fun S14 H locs hp14 hW => ?_)
  rw [hp14, show gj S4 16 = (gj S4 16) from rfl] at hW
  refine lv_iconst (v := 1) hx hb dX0_foretell_17 (by decide) ?_
  refine lv_istore (lv' := [(4, .int 1), (0, .ref (gA G 14)), (1, .ref (gA G h)), (2, .int (nI law)), (3, .int (nI n0))]) hx hb dX0_foretell_18 hl (by decide) rfl (fun ls hl => ?_)
  have L20 : ∀ (n : Nat) (k : Nat) (T : Sg) (H : Heap) (locs : List Loc) (ls : Array Slot), (n0 + 1 - k) < n → 1 ≤ k → k ≤ n0 + 1 → FTs T B law n0 → FTr T B law n0 k → Ch (fun k => k = 14 ∨ (16 ≤ k ∧ k ≤ 29)) S T → Wd D (AW G s.heap.size) s G T H locs → lv_has ls 6 [(4, .int (nI k)), (0, .ref (gA G 14)), (1, .ref (gA G h)), (2, .int (nI law)), (3, .int (nI n0))] → W pP l eE (headSpec wsX0_foretell rmX0_foretell).room s mM ([.ref (gA G 14), .ref (gA G h), .int (nI law), .int (nI n0)] : List Value).toArray bl mT cD H locs 0 0 Q0 (F0 mM 20 ls []) := by
    intro n
    induction n with
    | zero => intro k T H locs ls hm; exact absurd hm (Nat.not_lt_zero _)
    | succ n ih20 =>
      intro k T H locs ls hm20 hk1 hk hFs hFr hCT hW hl
      have hP_T : GrP G T := fun q hq => by rw [hCT.1]; exact hP q hq
      refine lv_iload hx hb dX0_foretell_20 (lv_at hl 0 rfl) ?_
      refine lv_iload_n hx hb dX0_foretell_22 rfl (lv_at hl 4 rfl) ?_
      refine lv_icmp_gt (tgt := 75) hx hb dX0_foretell_23 (by decide) (fun c23 => ?_) (fun c23 => ?_)
      · skip
        have hkn : k = n0 + 1 := by
          have h9 := (n_lt (a := n0) (b := k) (by omega) (by omega)).mp c23
          omega
        rw [← hQ0]
        refine r_vret hx hb hr hlocks hW ?_ dX0_foretell_75
        rw [hkn] at hFr
        exact ⟨hFs, hFr, hCT⟩
      · skip
        have hkn : k ≤ n0 := by
          have h9 : ¬ n0 < k := fun z => c23 ((n_lt (a := n0) (b := k) (by omega) (by omega)).mpr z)
          omega
        refine lv_iconst (v := 0) hx hb dX0_foretell_26 (by decide) ?_
        refine lv_istore (lv' := [(5, .int 0), (4, .int (nI k)), (0, .ref (gA G 14)), (1, .ref (gA G h)), (2, .int (nI law)), (3, .int (nI n0))]) hx hb dX0_foretell_27 hl (by decide) rfl (fun ls hl => ?_)
        rw [show T = (rj T (16 + k) (gj T (16 + k))) from (rj_id T (16 + k)).symm] at hW
        have L29 : ∀ (n : Nat) (w : Nat) (rk : Nat → Int64) (H : Heap) (locs : List Loc) (ls : Array Slot), ((enF B law n0) + 1 - w) < n → w ≤ (enF B law n0) + 1 → (∀ v, v < w → rk v = lN (NN (Qc B law) (enF B law n0) (fun _ => 1) k v)) → Wd D (AW G s.heap.size) s G (rj T (16 + k) rk) H locs → lv_has ls 6 [(5, .int (nI w)), (4, .int (nI k)), (0, .ref (gA G 14)), (1, .ref (gA G h)), (2, .int (nI law)), (3, .int (nI n0))] → W pP l eE (headSpec wsX0_foretell rmX0_foretell).room s mM ([.ref (gA G 14), .ref (gA G h), .int (nI law), .int (nI n0)] : List Value).toArray bl mT cD H locs 0 0 Q0 (F0 mM 29 ls []) := by
          intro n
          induction n with
          | zero => intro w rk H locs ls hm; exact absurd hm (Nat.not_lt_zero _)
          | succ n ih29 =>
            intro w rk H locs ls hm29 hw hrk hW hl
            refine lv_iload hx hb dX0_foretell_29 (lv_at hl 0 rfl) ?_
            refine lv_aload_n hx hb dX0_foretell_31 rfl (lv_at hl 2 rfl) ?_
            refine r_geti (ci := 0) (C := RX0) (T := TX0) (N := 10) hx hb hts iX0 hown hW rfl 14 8 rfl (g_lt hG (by decide)) (g_kd hG (by decide) rfl) (by decide) q1 (fun _ h9 => h9) (nI (enF B law n0)) hFs.2.2.1 rfl rfl dX0_foretell_32 ?_
            refine lv_icmp_gt (tgt := 69) hx hb dX0_foretell_35 (by decide) (fun c35 => ?_) (fun c35 => ?_)
            · skip
              have hwe : w = (enF B law n0) + 1 := by
                have h9 := (n_lt (a := (enF B law n0)) (b := w) (by omega) (by omega)).mp c35
                omega
              refine lv_iinc (v := (nI (k + 1))) (lv' := [(4, .int (nI (k + 1))), (5, .int (nI w)), (0, .ref (gA G 14)), (1, .ref (gA G h)), (2, .int (nI law)), (3, .int (nI n0))]) hx hb dX0_foretell_69 hl (k := 1) rfl (nI_1 k) (by decide) rfl (fun ls hl => ?_)
              refine lv_goto (tgt := 20) hx hb dX0_foretell_72 (by decide) ?_
              exact ih20 (k + 1) (rj T (16 + k) rk) _ _ ls (by omega) (by omega) (by omega) (FTs_fr hFs (fun _ _ => rfl) (e_jn (by omega) rfl)) (fun j hj v hv => by
                                                            by_cases ej : j = k
                                                            · rw [ej]; exact (congrFun (e_js _ _ _) v).trans (hrk v (by omega))
                                                            · exact (congrFun (e_jn (by omega) rfl) v).trans (hFr j (by omega) v hv)) (Ch.tr hCT (Ch.rj Ch.rf (by omega))) hW (lv_sub hl [0, 2, 3, 4, 5] rfl)
            · skip
              have hwe : w ≤ (enF B law n0) := by
                have h9 : ¬ (enF B law n0) < w := fun z => c35 ((n_lt (a := (enF B law n0)) (b := w) (by omega) (by omega)).mpr z)
                omega
              refine lv_aload_n hx hb dX0_foretell_38 rfl (lv_at hl 2 rfl) ?_
              refine r_getr (ci := 0) (C := RX0) (T := TX0) (N := 10) hx hb hts iX0 hown hW rfl 14 0 rfl (g_lt hG (by decide)) (g_kd hG (by decide) rfl) (by decide) q0 (fun _ h9 => h9) (hP_T _ (List.mem_of_getElem? (i := 16) rfl)) rfl rfl dX0_foretell_39 ?_
              refine lv_iload hx hb dX0_foretell_42 (lv_at hl 1 rfl) ?_
              refine r_aald hx hb hW 15 rfl (g_lt hG (by decide)) 17 6 (g_kd hG (by decide) rfl) rfl rfl (fun _ _ _ _ => rfl) (g_ix hG (c := 9) (by decide) rfl (n_inI (by omega) (by decide))) (some (gA G (16 + k))) (by rw [n_clamp (by omega)]; exact wf_lk hP_T (by omega)) dX0_foretell_44 ?_
              refine W.eq (g2 := F0 mM 45 ls [.ref (gA G (16 + k))]) rfl ?_
              refine lv_iload hx hb dX0_foretell_45 (lv_at hl 0 rfl) ?_
              refine lv_aload_n hx hb dX0_foretell_47 rfl (lv_at hl 2 rfl) ?_
              refine lv_iload hx hb dX0_foretell_48 (lv_at hl 0 rfl) ?_
              refine lv_aload_n hx hb dX0_foretell_50 rfl (lv_at hl 2 rfl) ?_
              refine r_getr (ci := 0) (C := RX0) (T := TX0) (N := 10) hx hb hts iX0 hown hW rfl 14 0 rfl (g_lt hG (by decide)) (g_kd hG (by decide) rfl) (by decide) q0 (fun _ h9 => h9) (hP_T _ (List.mem_of_getElem? (i := 16) rfl)) rfl rfl dX0_foretell_51 ?_
              refine lv_iload hx hb dX0_foretell_54 (lv_at hl 1 rfl) ?_
              refine lv_iconst (v := 1) hx hb dX0_foretell_56 (by decide) ?_
              refine lv_isub hx hb dX0_foretell_57 ?_
              rw [show (((nI k) - 1) : Int32) = (nI (k - 1)) from n_sub (b := 1) hk1]
              refine r_aald hx hb hW 15 rfl (g_lt hG (by decide)) 17 6 (g_kd hG (by decide) rfl) rfl rfl (fun _ _ _ _ => rfl) (g_ix hG (c := 9) (by decide) rfl (n_inI (by omega) (by decide))) (some (gA G (16 + (k - 1)))) (by rw [n_clamp (by omega)]; exact wf_lk hP_T (by omega)) dX0_foretell_58 ?_
              refine W.eq (g2 := F0 mM 59 ls [.ref (gA G (16 + (k - 1))), .int (nI w), .ref (gA G 14), .int (nI w), .ref (gA G (16 + k))]) rfl ?_
              refine r_calll hW hA (va_runV (As := [.int (nI w), .ref (gA G (16 + (k - 1)))]) (rest := [.int (nI w), .ref (gA G (16 + k))]) ⟨hx, hb, hml, hown, hts⟩ (t_X0_waysFrom l D G (rj T (16 + k) rk) _ hG hP_T (Qc B law) (enF B law n0) hE9.2 b6 hFs.1 hFs.2.2.1 hFs.2.2.2.2 (fun i hi => ⟨(Qc_b hB1 hl2 i hi).1, (Qc_b hB1 hl2 i hi).2.1, (Qc_b hB1 hl2 i hi).2.2.2.1⟩) w (k - 1) hwe (by omega) (NN (Qc B law) (enF B law n0) (fun _ => 1) (k - 1)) (fun v hv => (congrFun (e_jn (by omega) rfl) v).trans (hFr (k - 1) (by omega) v hv))) (cwV 2 hts gX0_foretell_X0_waysFrom rfl rfl rfl (by decide +kernel) ⟨Nat.le_of_ble_eq_true rfl, Nat.le_of_ble_eq_true rfl⟩) (r_preV (k := 14) hA hW (ci := 0) (C := RX0) (T := TX0) (N := 10) rfl rfl (g_lt hG (by decide)) (g_kd hG (by decide) rfl) rfl rfl) rfl rfl hl.1 rfl (lv_room (Nat.le_of_ble_eq_true rfl)) dX0_foretell_59 ⟨Nat.zero_le _, Nat.zero_le _⟩) (fun r59 S59 H locs hp59 hW => ?_)
              obtain ⟨rfl, hs59⟩ := hp59
              rw [hs59] at hW
              have ek : k - 1 + 1 = k := by omega
              rw [show ((lN (stp (Qc B law) (enF B law n0) (NN (Qc B law) (enF B law n0) (fun _ => 1) (k - 1)) w)) : Int64) = (lN (NN (Qc B law) (enF B law n0) (fun _ => 1) k w)) from by rw [show NN (Qc B law) (enF B law n0) (fun _ => 1) k = NN (Qc B law) (enF B law n0) (fun _ => 1) (k - 1 + 1) from by rw [ek]]; rfl]
              refine r_last hx hb hW (16 + k) rfl (wf_lt hG (r := k) (by omega)) (wf_kd hG (r := k) (by omega)) (by rw [wf_z hG (by omega)]; exact n_inI (by omega) (by decide)) (rj T (16 + k) (va_up rk ((nI w)).toNatClampNeg (lN (NN (Qc B law) (enF B law n0) (fun _ => 1) k w)))) rk (e_js _ _ _) (e_js _ _ _) rfl rfl c_j dX0_foretell_62 (fun H locs hW => ?_)
              rw [show ((nI w)).toNatClampNeg = w from n_clamp (by omega)] at hW
              refine lv_iinc (v := (nI (w + 1))) (lv' := [(5, .int (nI (w + 1))), (4, .int (nI k)), (0, .ref (gA G 14)), (1, .ref (gA G h)), (2, .int (nI law)), (3, .int (nI n0))]) hx hb dX0_foretell_63 hl (k := 0) rfl (nI_1 w) (by decide) rfl (fun ls hl => ?_)
              refine lv_goto (tgt := 29) hx hb dX0_foretell_66 (by decide) ?_
              exact ih29 (w + 1) (va_up rk w (lN (NN (Qc B law) (enF B law n0) (fun _ => 1) k w))) _ _ ls (by omega) (by omega) (fun v hv => by
                                                            by_cases ev : v = w
                                                            · rw [ev]; exact up_s _ _ _
                                                            · rw [up_n _ _ ev]; exact hrk v (by omega)) hW (lv_sub hl [0, 1, 2, 3, 4, 5] rfl)
        exact L29 _ 0 (gj T (16 + k)) _ _ ls (Nat.lt_succ_self _) (Nat.zero_le _) (fun v hv => absurd hv (Nat.not_lt_zero _)) hW (lv_sub hl [0, 1, 2, 3, 4, 5] rfl)
  exact L20 _ 1 (rj S4 16 (flR (gj S4 16) 649 1)) _ _ ls (Nat.lt_succ_self _) (Nat.le_refl _) (by omega) (FTs_fr hF4 (fun _ _ => rfl) (e_jn (by decide) rfl)) (fun k1 hk1 w hw => by
                                                            have z : k1 = 0 := by omega
                                                            subst z
                                                            rw [show gj (rj S4 16 (flR (gj S4 16) 649 1)) (16 + 0) = _ from e_js _ _ _]; unfold flR; rw [if_pos (by omega)]; rfl) (Ch.tr hC4 (Ch.rj Ch.rf (by omega))) hW (lv_sub hl [0, 1, 2, 3, 4] rfl)

def rmX0_safeWays : Jvm.Room := { frames := 1, cells := 0, slots := 0, locals := 21 }
set_option maxHeartbeats 4000000 in
set_option maxRecDepth 100000 in
theorem t_X0_safeWays (l : Launch) (D : Dc) (G : Gg) (S : Sg) (z : Nat) (hG : GrG G) (hP : GrP G S) (B : Nat → Nat) (c : Nat) (hB1 : BP1 B c) (law n0 : Nat) (hl2 : law ≤ 2) (hn1 : 1 ≤ n0) (hn8 : n0 ≤ 8) (hFs : FTs S B law n0) (hFr : FTr S B law n0 (n0 + 1)) (w : Nat) (hw9 : w ≤ 999) : ML l yX0_safeWays wsX0_safeWays rmX0_safeWays D G S z [.ref (gA G 14), .int (nI w)] (fun r S' => r = lN (fW B law n0 w) ∧ S' = S) := by
  refine Met.ofW (cc := cX0_safeWays) (maxL := 2) (ret := (some .long)) (by decide +kernel) rfl ?_
  intro pP eE s mM args bl mT cD s₁ bD hml hv
  obtain ⟨rfl, hv⟩ := hv
  have hz := hv.1
  subst hz
  have hx := bD.exec
  have hb := bD.bytes
  have hr := bD.returns
  have hts := atoms_spec (ws := wsX0_safeWays) bD.pre
  have hown : s.vm.findClass RX0 = some mM.cls := findClass_of_methodNamed bD.named
  have hlocks := bD.notSynchronized
  have hW := Wd.start hv
  have hA : ∀ q, s.heap.size ≤ q → AW G s.heap.size q := fun q h => Or.inr h
  have hl := lv_entry ([.ref (gA G 14), .int (nI w)]) (n := 2) (Nat.le_of_ble_eq_true rfl)
  rw [lg_entry_eq]
  generalize (lg_sl ([.ref (gA G 14), .int (nI w)]) ++ List.replicate (2 - (lg_sl ([.ref (gA G 14), .int (nI w)])).length) Slot.unset).toArray = ls at hl ⊢
  have hl : lv_has ls 2 [(0, .ref (gA G 14)), (1, .int (nI w))] := hl
  have q0 := hts (.fieldLink RX0 13 "WoodForTwo$Foretelling" "waysFree" "[[J") (List.mem_of_getElem? (i := 1) rfl)
  have q1 := hts (.fieldLink RX0 57 "WoodForTwo$Foretelling" "nights" "I") (List.mem_of_getElem? (i := 2) rfl)
  have q2 := hts (.fieldLink RX0 43 "WoodForTwo$Foretelling" "enough" "I") (List.mem_of_getElem? (i := 3) rfl)
  have q3 := hts (.methodLink RX0 85 Lib.Math.min.name) (List.mem_of_getElem? (i := 4) rfl)
  have q4 := hts (.static Lib.Math.min.name) (List.mem_of_getElem? (i := 5) rfl)
  have q5 := hts (.initialized "java/lang/Math") (List.mem_of_getElem? (i := 6) rfl)
  have q6 := hts (.code Lib.Math.min.name Lib.Math.min.code 2 (some .int)) (List.mem_of_getElem? (i := 7) rfl)
  have iX0 : ∀ w ∈ wsX00, w ∈ wsX0_safeWays := fun _ h => List.mem_cons_of_mem _ (List.mem_append_right _ (h))
  have hE9 := enF_le (n := n0) hB1 hl2 hn8
  refine lv_aload_n hx hb dX0_safeWays_0 rfl (lv_at hl 0 rfl) ?_
  refine r_getr (ci := 0) (C := RX0) (T := TX0) (N := 10) hx hb hts iX0 hown hW rfl 14 0 rfl (g_lt hG (by decide)) (g_kd hG (by decide) rfl) (by decide) q0 (fun _ h9 => h9) (hP _ (List.mem_of_getElem? (i := 16) rfl)) rfl rfl dX0_safeWays_1 ?_
  refine lv_aload_n hx hb dX0_safeWays_4 rfl (lv_at hl 0 rfl) ?_
  refine r_geti (ci := 0) (C := RX0) (T := TX0) (N := 10) hx hb hts iX0 hown hW rfl 14 7 rfl (g_lt hG (by decide)) (g_kd hG (by decide) rfl) (by decide) q1 (fun _ h9 => h9) (nI n0) hFs.2.1 rfl rfl dX0_safeWays_5 ?_
  refine r_aald hx hb hW 15 rfl (g_lt hG (by decide)) 17 6 (g_kd hG (by decide) rfl) rfl rfl (fun _ _ _ _ => rfl) (g_ix hG (c := 9) (by decide) rfl (n_inI (by omega) (by decide))) (some (gA G (16 + n0))) (by rw [n_clamp (by omega)]; exact wf_lk hP (by omega)) dX0_safeWays_8 ?_
  refine W.eq (g2 := F0 mM 9 ls [.ref (gA G (16 + n0))]) rfl ?_
  refine lv_aload_n hx hb dX0_safeWays_9 rfl (lv_at hl 0 rfl) ?_
  refine r_geti (ci := 0) (C := RX0) (T := TX0) (N := 10) hx hb hts iX0 hown hW rfl 14 8 rfl (g_lt hG (by decide)) (g_kd hG (by decide) rfl) (by decide) q2 (fun _ h9 => h9) (nI (enF B law n0)) hFs.2.2.1 rfl rfl dX0_safeWays_10 ?_
  refine lv_iload_n hx hb dX0_safeWays_13 rfl (lv_at hl 1 rfl) ?_
  refine va_mmin hx hb (hml.trans hl.1.symm) hown q3 q4 q5 q6 (Nat.le_of_ble_eq_true rfl) (Nat.le_of_ble_eq_true rfl) (Nat.zero_le _) (Nat.zero_le _) dX0_safeWays_14 ?_
  rw [show ((if (nI w) < (nI (enF B law n0)) then (nI w) else (nI (enF B law n0))) : Int32) = (nI (min (enF B law n0) w)) from n_min (a := (enF B law n0)) (b := w) (by omega) (by omega)]
  refine r_lald hx hb hW (16 + n0) rfl (wf_lt hG (r := n0) (by omega)) (wf_kd hG (r := n0) (by omega)) (by rw [wf_z hG (by omega)]; exact n_inI (by omega) (by decide)) (lN (fW B law n0 w)) (by rw [n_clamp (by omega)]; refine (hFr n0 (by omega) _ (by omega)).trans ?_; rw [fW_cap hB1 hl2 hn8 (Nat.le_refl _), show min 999 w = w by omega]; rfl) dX0_safeWays_17 ?_
  refine r_lret hx hb hr hlocks hW ?_ dX0_safeWays_18
  exact ⟨rfl, rfl⟩
