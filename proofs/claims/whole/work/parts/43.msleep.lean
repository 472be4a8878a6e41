def rmX11_sleep : Jvm.Room := { frames := 1, cells := 0, slots := 0, locals := 26 }
set_option maxHeartbeats 4000000 in
set_option maxRecDepth 100000 in
theorem t_X11_sleep (l : Launch) (D : Dc) (G : Gg) (S : Sg) (z : Nat) (hG : GrG G) (hP : GrP G S) (B : Nat → Nat) (c : Nat) (hB1 : BP1 B c) (hc : c < 100000) (hM : ∀ k, k < 140 → gj S 66 k = lN (B k)) (p : Nat) (hp : p < B 17) : MI l yX11_sleep wsX11_sleep rmX11_sleep D G S z [.ref (gA G 65), .int (nI p)] (fun r S' => r = nI (slF B p) ∧ ∃ rw', S' = rj S 66 rw' ∧ (∀ k, k < 140 → rw' k = lN (slB B p k)) ∧ ∀ k, 140 ≤ k → rw' k = gj S 66 k) := by
  refine Met.ofW (cc := cX11_sleep) (maxL := 9) (ret := (some .int)) (by decide +kernel) rfl ?_
  intro pP eE s mM args bl mT cD s₁ bD hml hv
  obtain ⟨rfl, hv⟩ := hv
  have hz := hv.1
  subst hz
  have hx := bD.exec
  have hb := bD.bytes
  have hr := bD.returns
  have hts := atoms_spec (ws := wsX11_sleep) bD.pre
  have hown : s.vm.findClass RX11 = some mM.cls := findClass_of_methodNamed bD.named
  have hlocks := bD.notSynchronized
  have hW := Wd.start hv
  have hA : ∀ q, s.heap.size ≤ q → AW G s.heap.size q := fun q h => Or.inr h
  have hl := lv_entry ([.ref (gA G 65), .int (nI p)]) (n := 9) (Nat.le_of_ble_eq_true rfl)
  rw [lg_entry_eq]
  generalize (lg_sl ([.ref (gA G 65), .int (nI p)]) ++ List.replicate (9 - (lg_sl ([.ref (gA G 65), .int (nI p)])).length) Slot.unset).toArray = ls at hl ⊢
  have hl : lv_has ls 9 [(0, .ref (gA G 65)), (1, .int (nI p))] := hl
  have q0 := hts (.fieldLink RX11 7 "WoodForTwoModel" "w" "[J") (List.mem_of_getElem? (i := 1) rfl)
  have q1 := hts (.constantLong RX11 164 (999)) (List.mem_of_getElem? (i := 2) rfl)
  have iX11 : ∀ w ∈ wsX110, w ∈ wsX11_sleep := fun _ h => List.mem_cons_of_mem _ (List.mem_append_right _ (h))
  obtain ⟨b0, b1, b2, b3, b4, b5, b6, b7, b8, b9, b10, b11, b12⟩ := id hB1
  have hp16 : p < 16 := by omega
  have b9p := b9 p hp
  have b12p := b12 p hp16
  have hMB : B (18 + p) * B 1 ≤ 9 * 9 := Nat.mul_le_mul (b9 p hp).2.1 b3
  have hD : slD B p ≤ 729 := due_le b5 b3 (b9 p hp).2.1
  have hLD : slL B p ≤ slD B p := lv_le
  have hF : slF B p ≤ 9 := slF_le b2 (b9 p hp).2.1
  have hWd : slW B p ≤ 999 := by unfold slW; omega
  refine lv_aload_n hx hb dX11_sleep_0 rfl (lv_at hl 0 rfl) ?_
  refine r_getr (ci := 10) (C := RX11) (T := TX11) (N := 20) hx hb hts iX11 hown hW rfl 65 0 rfl (g_lt hG (by decide)) (g_kd hG (by decide) rfl) (by decide) q0 (fun _ h9 => h9) (hP _ (List.mem_of_getElem? (i := 60) rfl)) rfl rfl dX11_sleep_1 ?_
  refine lv_bipush (v := 18) hx hb dX11_sleep_4 (by decide) ?_
  refine lv_iload_n hx hb dX11_sleep_6 rfl (lv_at hl 1 rfl) ?_
  refine lv_iadd hx hb dX11_sleep_7 ?_
  rw [show ((18 + (nI p)) : Int32) = (nI (18 + p)) from n_add 18 p]
  refine r_lald hx hb hW 66 rfl (g_lt hG (by decide)) (g_kd hG (by decide) rfl) (g_ix hG (c := 560) (by decide) rfl (n_inI (by omega) (by decide))) (lN (B (18 + p))) (by rw [n_clamp (by omega)]; exact (hM (18 + p) (by omega))) dX11_sleep_8 ?_
  refine lv_l2i hx hb dX11_sleep_9 rfl ?_
  rw [show (Int64.toInt32 (lN (B (18 + p))) : Int32) = nI (B (18 + p)) from lN_i _]
  refine lv_istore_n (lv' := [(2, .int (nI (B (18 + p)))), (0, .ref (gA G 65)), (1, .int (nI p))]) hx hb dX11_sleep_10 rfl hl (by decide) rfl (fun ls hl => ?_)
  refine lv_aload_n hx hb dX11_sleep_11 rfl (lv_at hl 1 rfl) ?_
  refine r_getr (ci := 10) (C := RX11) (T := TX11) (N := 20) hx hb hts iX11 hown hW rfl 65 0 rfl (g_lt hG (by decide)) (g_kd hG (by decide) rfl) (by decide) q0 (fun _ h9 => h9) (hP _ (List.mem_of_getElem? (i := 60) rfl)) rfl rfl dX11_sleep_12 ?_
  refine lv_iconst (v := 1) hx hb dX11_sleep_15 (by decide) ?_
  refine W.eq (g2 := F0 mM 16 ls [.int (nI 1), .ref (gA G 66)]) rfl ?_
  refine r_lald hx hb hW 66 rfl (g_lt hG (by decide)) (g_kd hG (by decide) rfl) (g_ix hG (c := 560) (by decide) rfl (n_inI (by omega) (by decide))) (lN (B 1)) (by rw [n_clamp (by omega)]; exact (hM 1 (by omega))) dX11_sleep_16 ?_
  refine lv_l2i hx hb dX11_sleep_17 rfl ?_
  rw [show (Int64.toInt32 (lN (B 1)) : Int32) = nI (B 1) from lN_i _]
  refine lv_istore_n (lv' := [(3, .int (nI (B 1))), (2, .int (nI (B (18 + p)))), (0, .ref (gA G 65)), (1, .int (nI p))]) hx hb dX11_sleep_18 rfl hl (by decide) rfl (fun ls hl => ?_)
  refine lv_iload_n hx hb dX11_sleep_19 rfl (lv_at hl 1 rfl) ?_
  refine lv_iload_n hx hb dX11_sleep_20 rfl (lv_at hl 0 rfl) ?_
  refine lv_imul hx hb dX11_sleep_21 ?_
  rw [show (((nI (B (18 + p))) * (nI (B 1))) : Int32) = (nI ((B (18 + p)) * (B 1))) from n_mul (B (18 + p)) (B 1)]
  refine lv_istore (lv' := [(4, .int (nI ((B (18 + p)) * (B 1)))), (3, .int (nI (B 1))), (2, .int (nI (B (18 + p)))), (0, .ref (gA G 65)), (1, .int (nI p))]) hx hb dX11_sleep_22 hl (by decide) rfl (fun ls hl => ?_)
  refine lv_iload hx hb dX11_sleep_24 (lv_at hl 0 rfl) ?_
  refine lv_i2l hx hb dX11_sleep_26 rfl ?_
  rw [show (Int32.toInt64 (nI ((B (18 + p)) * (B 1))) : Int64) = lN ((B (18 + p)) * (B 1)) from lN_of (by omega)]
  refine lv_aload_n hx hb dX11_sleep_27 rfl (lv_at hl 3 rfl) ?_
  refine r_getr (ci := 10) (C := RX11) (T := TX11) (N := 20) hx hb hts iX11 hown hW rfl 65 0 rfl (g_lt hG (by decide)) (g_kd hG (by decide) rfl) (by decide) q0 (fun _ h9 => h9) (hP _ (List.mem_of_getElem? (i := 60) rfl)) rfl rfl dX11_sleep_28 ?_
  refine lv_iconst (v := 0) hx hb dX11_sleep_31 (by decide) ?_
  refine W.eq (g2 := F0 mM 32 ls [.int (nI 0), .ref (gA G 66), .long (lN ((B (18 + p)) * (B 1)))]) rfl ?_
  refine r_lald hx hb hW 66 rfl (g_lt hG (by decide)) (g_kd hG (by decide) rfl) (g_ix hG (c := 560) (by decide) rfl (n_inI (by omega) (by decide))) (lN (B 0)) (by rw [n_clamp (by omega)]; exact (hM 0 (by omega))) dX11_sleep_32 ?_
  refine W.lcmp hx hb dX11_sleep_33 ?_
  refine lv_if_le (tgt := 50) hx hb dX11_sleep_34 (by decide) (fun c34 => ?_) (fun c34 => ?_)
  · skip
    rw [lc_le] at c34
    rw [lN_int (by omega), lN_int (by omega)] at c34
    refine lv_iconst (v := 0) hx hb dX11_sleep_50 (by decide) ?_
    have ez : (0 : Int32) = (nI ((B (18 + p) * B 1) - B 0)) := by rw [show ((B (18 + p) * B 1) - B 0) = 0 by omega]; rfl
    refine W.eq (g2 := F0 mM 51 ls [.int (nI ((B (18 + p) * B 1) - B 0))]) (by rw [← ez]) ?_
    refine lv_istore (lv' := [(5, .int (nI ((B (18 + p) * B 1) - B 0))), (4, .int (nI ((B (18 + p)) * (B 1)))), (3, .int (nI (B 1))), (2, .int (nI (B (18 + p)))), (0, .ref (gA G 65)), (1, .int (nI p))]) hx hb dX11_sleep_51 hl (by decide) rfl (fun ls hl => ?_)
    refine lv_iload hx hb dX11_sleep_53 (lv_at hl 0 rfl) ?_
    refine lv_iload_n hx hb dX11_sleep_55 rfl (lv_at hl 2 rfl) ?_
    refine lv_iadd hx hb dX11_sleep_56 ?_
    rw [show (((nI ((B (18 + p) * B 1) - B 0)) + (nI (B 1))) : Int32) = (nI (((B (18 + p) * B 1) - B 0) + (B 1))) from n_add ((B (18 + p) * B 1) - B 0) (B 1)]
    refine lv_iconst (v := 1) hx hb dX11_sleep_57 (by decide) ?_
    refine lv_isub hx hb dX11_sleep_58 ?_
    rw [show (((nI (((B (18 + p) * B 1) - B 0) + (B 1))) - 1) : Int32) = (nI (((B (18 + p) * B 1) - B 0) + B 1 - 1)) from n_sub (b := 1) (by omega)]
    refine lv_iload_n hx hb dX11_sleep_59 rfl (lv_at hl 2 rfl) ?_
    refine lv_idiv hx hb dX11_sleep_60 (fun q : nI (B 1) = nI 0 => absurd ((n_eq (by omega) (by omega)).mp q) (by omega)) ?_
    rw [show (((nI (((B (18 + p) * B 1) - B 0) + B 1 - 1)) / (nI (B 1))) : Int32) = (nI (slF B p)) from by rw [n_div (by omega) (by omega) (by omega)]; rfl]
    refine lv_istore (lv' := [(6, .int (nI (slF B p))), (5, .int (nI ((B (18 + p) * B 1) - B 0))), (4, .int (nI ((B (18 + p)) * (B 1)))), (3, .int (nI (B 1))), (2, .int (nI (B (18 + p)))), (0, .ref (gA G 65)), (1, .int (nI p))]) hx hb dX11_sleep_61 hl (by decide) rfl (fun ls hl => ?_)
    refine lv_aload_n hx hb dX11_sleep_63 rfl (lv_at hl 5 rfl) ?_
    refine r_getr (ci := 10) (C := RX11) (T := TX11) (N := 20) hx hb hts iX11 hown hW rfl 65 0 rfl (g_lt hG (by decide)) (g_kd hG (by decide) rfl) (by decide) q0 (fun _ h9 => h9) (hP _ (List.mem_of_getElem? (i := 60) rfl)) rfl rfl dX11_sleep_64 ?_
    refine lv_iconst (v := 0) hx hb dX11_sleep_67 (by decide) ?_
    refine W.eq (g2 := F0 mM 68 ls [.int (nI 0), .ref (gA G 66)]) rfl ?_
    refine lv_dup2_11 hx hb dX11_sleep_68 rfl rfl ?_
    refine r_lald hx hb hW 66 rfl (g_lt hG (by decide)) (g_kd hG (by decide) rfl) (g_ix hG (c := 560) (by decide) rfl (n_inI (by omega) (by decide))) (lN (B 0)) (by rw [n_clamp (by omega)]; exact (hM 0 (by omega))) dX11_sleep_69 ?_
    refine lv_iload hx hb dX11_sleep_70 (lv_at hl 2 rfl) ?_
    refine lv_iload hx hb dX11_sleep_72 (lv_at hl 1 rfl) ?_
    refine lv_isub hx hb dX11_sleep_74 ?_
    rw [show (((nI ((B (18 + p)) * (B 1))) - (nI ((B (18 + p) * B 1) - B 0))) : Int32) = (nI ((B (18 + p) * B 1) - ((B (18 + p) * B 1) - B 0))) from n_sub (by omega)]
    refine lv_i2l hx hb dX11_sleep_75 rfl ?_
    rw [show (Int32.toInt64 (nI ((B (18 + p) * B 1) - ((B (18 + p) * B 1) - B 0))) : Int64) = lN ((B (18 + p) * B 1) - ((B (18 + p) * B 1) - B 0)) from lN_of (by omega)]
    refine lv_lsub hx hb dX11_sleep_76 ?_
    rw [show (((lN (B 0)) - (lN ((B (18 + p) * B 1) - ((B (18 + p) * B 1) - B 0)))) : Int64) = (lN (slW B p)) from by rw [lN_sub (by omega), show B 0 - ((B (18 + p) * B 1) - ((B (18 + p) * B 1) - B 0)) = slW B p by unfold slW slM; omega]]
    refine r_last hx hb hW 66 rfl (g_lt hG (by decide)) (g_kd hG (by decide) rfl) (g_ix hG (c := 560) (by decide) rfl (n_inI (by omega) (by decide))) (rj S 66 (va_up (gj S 66) ((nI 0)).toNatClampNeg (lN (slW B p)))) (gj S 66) rfl (e_js _ _ _) rfl rfl c_j0 dX11_sleep_77 (fun H locs hW => ?_)
    rw [show ((nI 0)).toNatClampNeg = 0 from n_clamp (by omega)] at hW
    refine lv_aload_n hx hb dX11_sleep_78 rfl (lv_at hl 5 rfl) ?_
    refine lv_aload_n hx hb dX11_sleep_79 rfl (lv_at hl 5 rfl) ?_
    refine r_getr (ci := 10) (C := RX11) (T := TX11) (N := 20) hx hb hts iX11 hown hW rfl 65 0 rfl (g_lt hG (by decide)) (g_kd hG (by decide) rfl) (by decide) q0 (fun _ h9 => h9) (hP _ (List.mem_of_getElem? (i := 60) rfl)) rfl rfl dX11_sleep_80 ?_
    refine lv_iconst (v := 2) hx hb dX11_sleep_83 (by decide) ?_
    refine W.eq (g2 := F0 mM 84 ls [.int (nI 2), .ref (gA G 66), .ref (gA G 65)]) rfl ?_
    refine r_lald hx hb hW 66 rfl (g_lt hG (by decide)) (g_kd hG (by decide) rfl) (g_ix hG (c := 560) (by decide) rfl (n_inI (by omega) (by decide))) (lN (B 2)) ((congrFun (e_js _ _ _) _).trans (by rw [n_clamp (by omega)]; exact ((up_n _ _ (by omega)).trans (hM 2 (by omega))))) dX11_sleep_84 ?_
    refine lv_l2i hx hb dX11_sleep_85 rfl ?_
    rw [show (Int64.toInt32 (lN (B 2)) : Int32) = nI (B 2) from lN_i _]
    refine lv_iload_n hx hb dX11_sleep_86 rfl (lv_at hl 4 rfl) ?_
    refine r_calli hW hA (va_runV (As := [.int (nI (B 2)), .int (nI (B (18 + p)))]) (rest := []) ⟨hx, hb, hml, hown, hts⟩ (t_X11_dueOf l D G (rj S 66 (va_up (gj S 66) 0 (lN (slW B p)))) _ hG hP (B 3) (B 1) (B 2) (B (18 + p)) ((congrFun (e_js _ _ _) _).trans ((up_n _ _ (by omega)).trans (hM 3 (by omega)))) ((congrFun (e_js _ _ _) _).trans ((up_n _ _ (by omega)).trans (hM 1 (by omega)))) b4 (b9 p hp).1 (b9 p hp).2.1 b5 b3) (cwV 2 hts gX11_sleep_X11_dueOf rfl rfl rfl (by decide +kernel) ⟨Nat.le_of_ble_eq_true rfl, Nat.le_of_ble_eq_true rfl⟩) (r_preV (k := 65) hA hW (ci := 10) (C := RX11) (T := TX11) (N := 20) rfl rfl (g_lt hG (by decide)) (g_kd hG (by decide) rfl) rfl rfl) rfl rfl hl.1 rfl (lv_room (Nat.le_of_ble_eq_true rfl)) dX11_sleep_87 ⟨Nat.zero_le _, Nat.zero_le _⟩) (fun r87 S87 H locs hp87 hW => ?_)
    obtain ⟨hs87, rfl⟩ := hp87
    rw [hs87] at hW
    refine lv_istore (lv' := [(7, .int (nI (dueN (B 3) (B 1) (B 2) (B (18 + p))))), (6, .int (nI (slF B p))), (5, .int (nI ((B (18 + p) * B 1) - B 0))), (4, .int (nI ((B (18 + p)) * (B 1)))), (3, .int (nI (B 1))), (2, .int (nI (B (18 + p)))), (0, .ref (gA G 65)), (1, .int (nI p))]) hx hb dX11_sleep_90 hl (by decide) rfl (fun ls hl => ?_)
    refine lv_aload_n hx hb dX11_sleep_92 rfl (lv_at hl 6 rfl) ?_
    refine lv_iload_n hx hb dX11_sleep_93 rfl (lv_at hl 7 rfl) ?_
    refine lv_iload hx hb dX11_sleep_94 (lv_at hl 0 rfl) ?_
    refine r_calli hW hA (va_runV (As := [.int (nI p), .int (nI (dueN (B 3) (B 1) (B 2) (B (18 + p))))]) (rest := []) ⟨hx, hb, hml, hown, hts⟩ (t_X11_leaves l D G (rj S 66 (va_up (gj S 66) 0 (lN (slW B p)))) _ hG hP p (slD B p) (B (34 + p)) (B (50 + p)) (slW B p) (B 1) (by omega) ((congrFun (e_js _ _ _) _).trans ((up_n _ _ (by omega)).trans (hM (34 + p) (by omega)))) ((congrFun (e_js _ _ _) _).trans ((up_n _ _ (by omega)).trans (hM (50 + p) (by omega)))) ((congrFun (e_js _ _ _) _).trans (up_s _ _ _)) ((congrFun (e_js _ _ _) _).trans ((up_n _ _ (by omega)).trans (hM 1 (by omega)))) (b9 p hp).2.2.1 (b9 p hp).2.2.2 hD (by unfold slW; omega) b3) (cwV 2 hts gX11_sleep_X11_leaves rfl rfl rfl (by decide +kernel) ⟨Nat.le_of_ble_eq_true rfl, Nat.le_of_ble_eq_true rfl⟩) (r_preV (k := 65) hA hW (ci := 10) (C := RX11) (T := TX11) (N := 20) rfl rfl (g_lt hG (by decide)) (g_kd hG (by decide) rfl) rfl rfl) rfl rfl hl.1 rfl (lv_room (Nat.le_of_ble_eq_true rfl)) dX11_sleep_96 ⟨Nat.zero_le _, Nat.zero_le _⟩) (fun r96 S96 H locs hp96 hW => ?_)
    obtain ⟨hs96, rfl⟩ := hp96
    rw [hs96] at hW
    refine lv_istore (lv' := [(8, .int (nI (slL B p))), (7, .int (nI (dueN (B 3) (B 1) (B 2) (B (18 + p))))), (6, .int (nI (slF B p))), (5, .int (nI ((B (18 + p) * B 1) - B 0))), (4, .int (nI ((B (18 + p)) * (B 1)))), (3, .int (nI (B 1))), (2, .int (nI (B (18 + p)))), (0, .ref (gA G 65)), (1, .int (nI p))]) hx hb dX11_sleep_99 hl (by decide) rfl (fun ls hl => ?_)
    refine lv_aload_n hx hb dX11_sleep_101 rfl (lv_at hl 7 rfl) ?_
    refine r_getr (ci := 10) (C := RX11) (T := TX11) (N := 20) hx hb hts iX11 hown hW rfl 65 0 rfl (g_lt hG (by decide)) (g_kd hG (by decide) rfl) (by decide) q0 (fun _ h9 => h9) (hP _ (List.mem_of_getElem? (i := 60) rfl)) rfl rfl dX11_sleep_102 ?_
    refine lv_iconst (v := 0) hx hb dX11_sleep_105 (by decide) ?_
    refine lv_aload_n hx hb dX11_sleep_106 rfl (lv_at hl 7 rfl) ?_
    refine r_getr (ci := 10) (C := RX11) (T := TX11) (N := 20) hx hb hts iX11 hown hW rfl 65 0 rfl (g_lt hG (by decide)) (g_kd hG (by decide) rfl) (by decide) q0 (fun _ h9 => h9) (hP _ (List.mem_of_getElem? (i := 60) rfl)) rfl rfl dX11_sleep_107 ?_
    refine lv_iconst (v := 0) hx hb dX11_sleep_110 (by decide) ?_
    refine W.eq (g2 := F0 mM 111 ls [.int (nI 0), .ref (gA G 66), .int 0, .ref (gA G 66)]) rfl ?_
    refine r_lald hx hb hW 66 rfl (g_lt hG (by decide)) (g_kd hG (by decide) rfl) (g_ix hG (c := 560) (by decide) rfl (n_inI (by omega) (by decide))) (lN (slW B p)) ((congrFun (e_js _ _ _) _).trans (by rw [n_clamp (by omega)]; exact (up_s _ _ _))) dX11_sleep_111 ?_
    refine lv_iload hx hb dX11_sleep_112 (lv_at hl 0 rfl) ?_
    refine lv_i2l hx hb dX11_sleep_114 rfl ?_
    rw [show (Int32.toInt64 (nI (slL B p)) : Int64) = lN (slL B p) from lN_of (by omega)]
    refine lv_ladd hx hb dX11_sleep_115 ?_
    rw [show (((lN (slW B p)) + (lN (slL B p))) : Int64) = (lN ((slW B p) + (slL B p))) from lN_add (slW B p) (slL B p)]
    refine lv_ldc2 (v := (999)) hx hb hown q1 dX11_sleep_116 ?_
    refine W.lcmp hx hb dX11_sleep_119 ?_
    refine lv_if_le (tgt := 129) hx hb dX11_sleep_120 (by decide) (fun c120 => ?_) (fun c120 => ?_)
    · skip
      rw [lc_le] at c120
      rw [lN_int (by omega), show (999 : Int64).toInt = 999 from by decide] at c120
      refine lv_aload_n hx hb dX11_sleep_129 rfl (lv_at hl 7 rfl) ?_
      refine r_getr (ci := 10) (C := RX11) (T := TX11) (N := 20) hx hb hts iX11 hown hW rfl 65 0 rfl (g_lt hG (by decide)) (g_kd hG (by decide) rfl) (by decide) q0 (fun _ h9 => h9) (hP _ (List.mem_of_getElem? (i := 60) rfl)) rfl rfl dX11_sleep_130 ?_
      refine lv_iconst (v := 0) hx hb dX11_sleep_133 (by decide) ?_
      refine W.eq (g2 := F0 mM 134 ls [.int (nI 0), .ref (gA G 66), .int 0, .ref (gA G 66)]) rfl ?_
      refine r_lald hx hb hW 66 rfl (g_lt hG (by decide)) (g_kd hG (by decide) rfl) (g_ix hG (c := 560) (by decide) rfl (n_inI (by omega) (by decide))) (lN (slW B p)) ((congrFun (e_js _ _ _) _).trans (by rw [n_clamp (by omega)]; exact (up_s _ _ _))) dX11_sleep_134 ?_
      refine lv_iload hx hb dX11_sleep_135 (lv_at hl 0 rfl) ?_
      refine lv_i2l hx hb dX11_sleep_137 rfl ?_
      rw [show (Int32.toInt64 (nI (slL B p)) : Int64) = lN (slL B p) from lN_of (by omega)]
      refine lv_ladd hx hb dX11_sleep_138 ?_
      rw [show (((lN (slW B p)) + (lN (slL B p))) : Int64) = (lN ((slW B p) + (slL B p))) from lN_add (slW B p) (slL B p)]
      have ez : ((lN ((slW B p) + (slL B p))) : Int64) = (lN (min 999 (slW B p + slL B p))) := by rw [show min 999 (slW B p + slL B p) = slW B p + slL B p by omega]
      refine W.eq (g2 := F0 mM 139 ls [.long (lN (min 999 (slW B p + slL B p))), .int 0, .ref (gA G 66)]) (by rw [← ez]) ?_
      refine W.eq (g2 := F0 mM 139 ls [.long (lN (min 999 (slW B p + slL B p))), .int (nI 0), .ref (gA G 66)]) rfl ?_
      refine r_last hx hb hW 66 rfl (g_lt hG (by decide)) (g_kd hG (by decide) rfl) (g_ix hG (c := 560) (by decide) rfl (n_inI (by omega) (by decide))) (rj S 66 (va_up (va_up (gj S 66) 0 (lN (slW B p))) ((nI 0)).toNatClampNeg (lN (min 999 (slW B p + slL B p))))) (va_up (gj S 66) 0 (lN (slW B p))) (e_js _ _ _) (e_js _ _ _) rfl rfl c_j dX11_sleep_139 (fun H locs hW => ?_)
      rw [show ((nI 0)).toNatClampNeg = 0 from n_clamp (by omega)] at hW
      refine lv_aload_n hx hb dX11_sleep_140 rfl (lv_at hl 7 rfl) ?_
      refine r_getr (ci := 10) (C := RX11) (T := TX11) (N := 20) hx hb hts iX11 hown hW rfl 65 0 rfl (g_lt hG (by decide)) (g_kd hG (by decide) rfl) (by decide) q0 (fun _ h9 => h9) (hP _ (List.mem_of_getElem? (i := 60) rfl)) rfl rfl dX11_sleep_141 ?_
      refine lv_bipush (v := 66) hx hb dX11_sleep_144 (by decide) ?_
      refine lv_iload_n hx hb dX11_sleep_146 rfl (lv_at hl 8 rfl) ?_
      refine lv_iadd hx hb dX11_sleep_147 ?_
      rw [show ((66 + (nI p)) : Int32) = (nI (66 + p)) from n_add 66 p]
      refine lv_dup2_11 hx hb dX11_sleep_148 rfl rfl ?_
      refine r_lald hx hb hW 66 rfl (g_lt hG (by decide)) (g_kd hG (by decide) rfl) (g_ix hG (c := 560) (by decide) rfl (n_inI (by omega) (by decide))) (lN (B (66 + p))) ((congrFun (e_js _ _ _) _).trans (by rw [n_clamp (by omega)]; exact ((up_n _ _ (by omega)).trans ((up_n _ _ (by omega)).trans (hM (66 + p) (by omega)))))) dX11_sleep_149 ?_
      refine lv_lconst (v := 1) hx hb dX11_sleep_150 (by decide) ?_
      refine lv_ladd hx hb dX11_sleep_151 ?_
      rw [show (((lN (B (66 + p))) + 1) : Int64) = (lN ((B (66 + p)) + 1)) from lN_add (B (66 + p)) 1]
      refine r_last hx hb hW 66 rfl (g_lt hG (by decide)) (g_kd hG (by decide) rfl) (g_ix hG (c := 560) (by decide) rfl (n_inI (by omega) (by decide))) (rj S 66 (va_up (va_up (va_up (gj S 66) 0 (lN (slW B p))) 0 (lN (min 999 (slW B p + slL B p)))) ((nI (66 + p))).toNatClampNeg (lN ((B (66 + p)) + 1)))) (va_up (va_up (gj S 66) 0 (lN (slW B p))) 0 (lN (min 999 (slW B p + slL B p)))) (e_js _ _ _) (e_js _ _ _) rfl rfl c_j dX11_sleep_152 (fun H locs hW => ?_)
      rw [show ((nI (66 + p))).toNatClampNeg = (66 + p) from n_clamp (by omega)] at hW
      refine lv_aload_n hx hb dX11_sleep_153 rfl (lv_at hl 7 rfl) ?_
      refine r_getr (ci := 10) (C := RX11) (T := TX11) (N := 20) hx hb hts iX11 hown hW rfl 65 0 rfl (g_lt hG (by decide)) (g_kd hG (by decide) rfl) (by decide) q0 (fun _ h9 => h9) (hP _ (List.mem_of_getElem? (i := 60) rfl)) rfl rfl dX11_sleep_154 ?_
      refine lv_bipush (v := 82) hx hb dX11_sleep_157 (by decide) ?_
      refine lv_iload_n hx hb dX11_sleep_159 rfl (lv_at hl 8 rfl) ?_
      refine lv_iadd hx hb dX11_sleep_160 ?_
      rw [show ((82 + (nI p)) : Int32) = (nI (82 + p)) from n_add 82 p]
      refine lv_dup2_11 hx hb dX11_sleep_161 rfl rfl ?_
      refine r_lald hx hb hW 66 rfl (g_lt hG (by decide)) (g_kd hG (by decide) rfl) (g_ix hG (c := 560) (by decide) rfl (n_inI (by omega) (by decide))) (lN (B (82 + p))) ((congrFun (e_js _ _ _) _).trans (by rw [n_clamp (by omega)]; exact ((up_n _ _ (by omega)).trans ((up_n _ _ (by omega)).trans ((up_n _ _ (by omega)).trans (hM (82 + p) (by omega))))))) dX11_sleep_162 ?_
      refine lv_iload hx hb dX11_sleep_163 (lv_at hl 2 rfl) ?_
      refine lv_i2l hx hb dX11_sleep_165 rfl ?_
      rw [show (Int32.toInt64 (nI (slF B p)) : Int64) = lN (slF B p) from lN_of (by omega)]
      refine lv_ladd hx hb dX11_sleep_166 ?_
      rw [show (((lN (B (82 + p))) + (lN (slF B p))) : Int64) = (lN ((B (82 + p)) + (slF B p))) from lN_add (B (82 + p)) (slF B p)]
      refine r_last hx hb hW 66 rfl (g_lt hG (by decide)) (g_kd hG (by decide) rfl) (g_ix hG (c := 560) (by decide) rfl (n_inI (by omega) (by decide))) (rj S 66 (va_up (va_up (va_up (va_up (gj S 66) 0 (lN (slW B p))) 0 (lN (min 999 (slW B p + slL B p)))) (66 + p) (lN ((B (66 + p)) + 1))) ((nI (82 + p))).toNatClampNeg (lN ((B (82 + p)) + (slF B p))))) (va_up (va_up (va_up (gj S 66) 0 (lN (slW B p))) 0 (lN (min 999 (slW B p + slL B p)))) (66 + p) (lN ((B (66 + p)) + 1))) (e_js _ _ _) (e_js _ _ _) rfl rfl c_j dX11_sleep_167 (fun H locs hW => ?_)
      rw [show ((nI (82 + p))).toNatClampNeg = (82 + p) from n_clamp (by omega)] at hW
      refine lv_aload_n hx hb dX11_sleep_168 rfl (lv_at hl 7 rfl) ?_
      refine r_getr (ci := 10) (C := RX11) (T := TX11) (N := 20) hx hb hts iX11 hown hW rfl 65 0 rfl (g_lt hG (by decide)) (g_kd hG (by decide) rfl) (by decide) q0 (fun _ h9 => h9) (hP _ (List.mem_of_getElem? (i := 60) rfl)) rfl rfl dX11_sleep_169 ?_
      refine lv_bipush (v := 98) hx hb dX11_sleep_172 (by decide) ?_
      refine lv_iload_n hx hb dX11_sleep_174 rfl (lv_at hl 8 rfl) ?_
      refine lv_iadd hx hb dX11_sleep_175 ?_
      rw [show ((98 + (nI p)) : Int32) = (nI (98 + p)) from n_add 98 p]
      refine lv_dup2_11 hx hb dX11_sleep_176 rfl rfl ?_
      refine r_lald hx hb hW 66 rfl (g_lt hG (by decide)) (g_kd hG (by decide) rfl) (g_ix hG (c := 560) (by decide) rfl (n_inI (by omega) (by decide))) (lN (B (98 + p))) ((congrFun (e_js _ _ _) _).trans (by rw [n_clamp (by omega)]; exact ((up_n _ _ (by omega)).trans ((up_n _ _ (by omega)).trans ((up_n _ _ (by omega)).trans ((up_n _ _ (by omega)).trans (hM (98 + p) (by omega)))))))) dX11_sleep_177 ?_
      refine lv_iload hx hb dX11_sleep_178 (lv_at hl 0 rfl) ?_
      refine lv_i2l hx hb dX11_sleep_180 rfl ?_
      rw [show (Int32.toInt64 (nI (slL B p)) : Int64) = lN (slL B p) from lN_of (by omega)]
      refine lv_ladd hx hb dX11_sleep_181 ?_
      rw [show (((lN (B (98 + p))) + (lN (slL B p))) : Int64) = (lN ((B (98 + p)) + (slL B p))) from lN_add (B (98 + p)) (slL B p)]
      refine r_last hx hb hW 66 rfl (g_lt hG (by decide)) (g_kd hG (by decide) rfl) (g_ix hG (c := 560) (by decide) rfl (n_inI (by omega) (by decide))) (rj S 66 (va_up (va_up (va_up (va_up (va_up (gj S 66) 0 (lN (slW B p))) 0 (lN (min 999 (slW B p + slL B p)))) (66 + p) (lN ((B (66 + p)) + 1))) (82 + p) (lN ((B (82 + p)) + (slF B p)))) ((nI (98 + p))).toNatClampNeg (lN ((B (98 + p)) + (slL B p))))) (va_up (va_up (va_up (va_up (gj S 66) 0 (lN (slW B p))) 0 (lN (min 999 (slW B p + slL B p)))) (66 + p) (lN ((B (66 + p)) + 1))) (82 + p) (lN ((B (82 + p)) + (slF B p)))) (e_js _ _ _) (e_js _ _ _) rfl rfl c_j dX11_sleep_182 (fun H locs hW => ?_)
      rw [show ((nI (98 + p))).toNatClampNeg = (98 + p) from n_clamp (by omega)] at hW
      refine lv_aload_n hx hb dX11_sleep_183 rfl (lv_at hl 7 rfl) ?_
      refine r_getr (ci := 10) (C := RX11) (T := TX11) (N := 20) hx hb hts iX11 hown hW rfl 65 0 rfl (g_lt hG (by decide)) (g_kd hG (by decide) rfl) (by decide) q0 (fun _ h9 => h9) (hP _ (List.mem_of_getElem? (i := 60) rfl)) rfl rfl dX11_sleep_184 ?_
      refine lv_bipush (v := 114) hx hb dX11_sleep_187 (by decide) ?_
      refine lv_iload_n hx hb dX11_sleep_189 rfl (lv_at hl 8 rfl) ?_
      refine lv_iadd hx hb dX11_sleep_190 ?_
      rw [show ((114 + (nI p)) : Int32) = (nI (114 + p)) from n_add 114 p]
      refine lv_dup2_11 hx hb dX11_sleep_191 rfl rfl ?_
      refine r_lald hx hb hW 66 rfl (g_lt hG (by decide)) (g_kd hG (by decide) rfl) (g_ix hG (c := 560) (by decide) rfl (n_inI (by omega) (by decide))) (lN (B (114 + p))) ((congrFun (e_js _ _ _) _).trans (by rw [n_clamp (by omega)]; exact ((up_n _ _ (by omega)).trans ((up_n _ _ (by omega)).trans ((up_n _ _ (by omega)).trans ((up_n _ _ (by omega)).trans ((up_n _ _ (by omega)).trans (hM (114 + p) (by omega))))))))) dX11_sleep_192 ?_
      refine lv_iload hx hb dX11_sleep_193 (lv_at hl 1 rfl) ?_
      refine lv_iload hx hb dX11_sleep_195 (lv_at hl 0 rfl) ?_
      refine lv_isub hx hb dX11_sleep_197 ?_
      rw [show (((nI (dueN (B 3) (B 1) (B 2) (B (18 + p)))) - (nI (slL B p))) : Int32) = (nI (slD B p - slL B p)) from n_sub hLD]
      refine lv_i2l hx hb dX11_sleep_198 rfl ?_
      rw [show (Int32.toInt64 (nI (slD B p - slL B p)) : Int64) = lN (slD B p - slL B p) from lN_of (by omega)]
      refine lv_ladd hx hb dX11_sleep_199 ?_
      rw [show (((lN (B (114 + p))) + (lN (slD B p - slL B p))) : Int64) = (lN ((B (114 + p)) + (slD B p - slL B p))) from lN_add (B (114 + p)) (slD B p - slL B p)]
      refine r_last hx hb hW 66 rfl (g_lt hG (by decide)) (g_kd hG (by decide) rfl) (g_ix hG (c := 560) (by decide) rfl (n_inI (by omega) (by decide))) (rj S 66 (va_up (va_up (va_up (va_up (va_up (va_up (gj S 66) 0 (lN (slW B p))) 0 (lN (min 999 (slW B p + slL B p)))) (66 + p) (lN ((B (66 + p)) + 1))) (82 + p) (lN ((B (82 + p)) + (slF B p)))) (98 + p) (lN ((B (98 + p)) + (slL B p)))) ((nI (114 + p))).toNatClampNeg (lN ((B (114 + p)) + (slD B p - slL B p))))) (va_up (va_up (va_up (va_up (va_up (gj S 66) 0 (lN (slW B p))) 0 (lN (min 999 (slW B p + slL B p)))) (66 + p) (lN ((B (66 + p)) + 1))) (82 + p) (lN ((B (82 + p)) + (slF B p)))) (98 + p) (lN ((B (98 + p)) + (slL B p)))) (e_js _ _ _) (e_js _ _ _) rfl rfl c_j dX11_sleep_200 (fun H locs hW => ?_)
      rw [show ((nI (114 + p))).toNatClampNeg = (114 + p) from n_clamp (by omega)] at hW
      refine lv_aload_n hx hb dX11_sleep_201 rfl (lv_at hl 7 rfl) ?_
      refine r_getr (ci := 10) (C := RX11) (T := TX11) (N := 20) hx hb hts iX11 hown hW rfl 65 0 rfl (g_lt hG (by decide)) (g_kd hG (by decide) rfl) (by decide) q0 (fun _ h9 => h9) (hP _ (List.mem_of_getElem? (i := 60) rfl)) rfl rfl dX11_sleep_202 ?_
      refine lv_sipush (v := 130) hx hb dX11_sleep_205 (by decide) ?_
      refine W.eq (g2 := F0 mM 208 ls [.int (nI 130), .ref (gA G 66)]) rfl ?_
      refine lv_dup2_11 hx hb dX11_sleep_208 rfl rfl ?_
      refine r_lald hx hb hW 66 rfl (g_lt hG (by decide)) (g_kd hG (by decide) rfl) (g_ix hG (c := 560) (by decide) rfl (n_inI (by omega) (by decide))) (lN (B 130)) ((congrFun (e_js _ _ _) _).trans (by rw [n_clamp (by omega)]; exact ((up_n _ _ (by omega)).trans ((up_n _ _ (by omega)).trans ((up_n _ _ (by omega)).trans ((up_n _ _ (by omega)).trans ((up_n _ _ (by omega)).trans ((up_n _ _ (by omega)).trans (hM 130 (by omega)))))))))) dX11_sleep_209 ?_
      refine lv_lconst (v := 1) hx hb dX11_sleep_210 (by decide) ?_
      refine lv_ladd hx hb dX11_sleep_211 ?_
      rw [show (((lN (B 130)) + 1) : Int64) = (lN ((B 130) + 1)) from lN_add (B 130) 1]
      refine r_last hx hb hW 66 rfl (g_lt hG (by decide)) (g_kd hG (by decide) rfl) (g_ix hG (c := 560) (by decide) rfl (n_inI (by omega) (by decide))) (rj S 66 (va_up (va_up (va_up (va_up (va_up (va_up (va_up (gj S 66) 0 (lN (slW B p))) 0 (lN (min 999 (slW B p + slL B p)))) (66 + p) (lN ((B (66 + p)) + 1))) (82 + p) (lN ((B (82 + p)) + (slF B p)))) (98 + p) (lN ((B (98 + p)) + (slL B p)))) (114 + p) (lN ((B (114 + p)) + (slD B p - slL B p)))) ((nI 130)).toNatClampNeg (lN ((B 130) + 1)))) (va_up (va_up (va_up (va_up (va_up (va_up (gj S 66) 0 (lN (slW B p))) 0 (lN (min 999 (slW B p + slL B p)))) (66 + p) (lN ((B (66 + p)) + 1))) (82 + p) (lN ((B (82 + p)) + (slF B p)))) (98 + p) (lN ((B (98 + p)) + (slL B p)))) (114 + p) (lN ((B (114 + p)) + (slD B p - slL B p)))) (e_js _ _ _) (e_js _ _ _) rfl rfl c_j dX11_sleep_212 (fun H locs hW => ?_)
      rw [show ((nI 130)).toNatClampNeg = 130 from n_clamp (by omega)] at hW
      refine lv_aload_n hx hb dX11_sleep_213 rfl (lv_at hl 7 rfl) ?_
      refine r_getr (ci := 10) (C := RX11) (T := TX11) (N := 20) hx hb hts iX11 hown hW rfl 65 0 rfl (g_lt hG (by decide)) (g_kd hG (by decide) rfl) (by decide) q0 (fun _ h9 => h9) (hP _ (List.mem_of_getElem? (i := 60) rfl)) rfl rfl dX11_sleep_214 ?_
      refine lv_sipush (v := 131) hx hb dX11_sleep_217 (by decide) ?_
      refine W.eq (g2 := F0 mM 220 ls [.int (nI 131), .ref (gA G 66)]) rfl ?_
      refine lv_dup2_11 hx hb dX11_sleep_220 rfl rfl ?_
      refine r_lald hx hb hW 66 rfl (g_lt hG (by decide)) (g_kd hG (by decide) rfl) (g_ix hG (c := 560) (by decide) rfl (n_inI (by omega) (by decide))) (lN (B 131)) ((congrFun (e_js _ _ _) _).trans (by rw [n_clamp (by omega)]; exact ((up_n _ _ (by omega)).trans ((up_n _ _ (by omega)).trans ((up_n _ _ (by omega)).trans ((up_n _ _ (by omega)).trans ((up_n _ _ (by omega)).trans ((up_n _ _ (by omega)).trans ((up_n _ _ (by omega)).trans (hM 131 (by omega))))))))))) dX11_sleep_221 ?_
      refine lv_iload hx hb dX11_sleep_222 (lv_at hl 2 rfl) ?_
      refine lv_i2l hx hb dX11_sleep_224 rfl ?_
      rw [show (Int32.toInt64 (nI (slF B p)) : Int64) = lN (slF B p) from lN_of (by omega)]
      refine lv_ladd hx hb dX11_sleep_225 ?_
      rw [show (((lN (B 131)) + (lN (slF B p))) : Int64) = (lN ((B 131) + (slF B p))) from lN_add (B 131) (slF B p)]
      refine r_last hx hb hW 66 rfl (g_lt hG (by decide)) (g_kd hG (by decide) rfl) (g_ix hG (c := 560) (by decide) rfl (n_inI (by omega) (by decide))) (rj S 66 (va_up (va_up (va_up (va_up (va_up (va_up (va_up (va_up (gj S 66) 0 (lN (slW B p))) 0 (lN (min 999 (slW B p + slL B p)))) (66 + p) (lN ((B (66 + p)) + 1))) (82 + p) (lN ((B (82 + p)) + (slF B p)))) (98 + p) (lN ((B (98 + p)) + (slL B p)))) (114 + p) (lN ((B (114 + p)) + (slD B p - slL B p)))) 130 (lN ((B 130) + 1))) ((nI 131)).toNatClampNeg (lN ((B 131) + (slF B p))))) (va_up (va_up (va_up (va_up (va_up (va_up (va_up (gj S 66) 0 (lN (slW B p))) 0 (lN (min 999 (slW B p + slL B p)))) (66 + p) (lN ((B (66 + p)) + 1))) (82 + p) (lN ((B (82 + p)) + (slF B p)))) (98 + p) (lN ((B (98 + p)) + (slL B p)))) (114 + p) (lN ((B (114 + p)) + (slD B p - slL B p)))) 130 (lN ((B 130) + 1))) (e_js _ _ _) (e_js _ _ _) rfl rfl c_j dX11_sleep_226 (fun H locs hW => ?_)
      rw [show ((nI 131)).toNatClampNeg = 131 from n_clamp (by omega)] at hW
      refine lv_iload hx hb dX11_sleep_227 (lv_at hl 2 rfl) ?_
      refine r_iret hx hb hr hlocks hW ?_ dX11_sleep_229
      refine ⟨rfl, _, rfl, fun k hk => ?_, fun k hk => ?_⟩
      · rcases (show k = 0 ∨ k = 66 + p ∨ k = 82 + p ∨ k = 98 + p ∨ k = 114 + p ∨ k = 130 ∨ k = 131 ∨ (k ≠ 0 ∧ k ≠ 66 + p ∧ k ≠ 82 + p ∧ k ≠ 98 + p ∧ k ≠ 114 + p ∧ k ≠ 130 ∧ k ≠ 131) by omega) with e | e | e | e | e | e | e | e
        · rw [e, up_n _ _ (by omega), up_n _ _ (by omega), up_n _ _ (by omega), up_n _ _ (by omega), up_n _ _ (by omega), up_n _ _ (by omega), up_s]; unfold slB; rw [if_pos rfl]
        · rw [e, up_n _ _ (by omega), up_n _ _ (by omega), up_n _ _ (by omega), up_n _ _ (by omega), up_n _ _ (by omega), up_s]; unfold slB; rw [if_neg (by omega), if_pos rfl]
        · rw [e, up_n _ _ (by omega), up_n _ _ (by omega), up_n _ _ (by omega), up_n _ _ (by omega), up_s]; unfold slB; rw [if_neg (by omega), if_neg (by omega), if_pos rfl]
        · rw [e, up_n _ _ (by omega), up_n _ _ (by omega), up_n _ _ (by omega), up_s]; unfold slB; rw [if_neg (by omega), if_neg (by omega), if_neg (by omega), if_pos rfl]
        · rw [e, up_n _ _ (by omega), up_n _ _ (by omega), up_s]; unfold slB; rw [if_neg (by omega), if_neg (by omega), if_neg (by omega), if_neg (by omega), if_pos rfl]
        · rw [e, up_n _ _ (by omega), up_s]; unfold slB; rw [if_neg (by omega), if_neg (by omega), if_neg (by omega), if_neg (by omega), if_neg (by omega), if_pos rfl]
        · rw [e, up_s]; unfold slB; rw [if_neg (by omega), if_neg (by omega), if_neg (by omega), if_neg (by omega), if_neg (by omega), if_neg (by omega), if_pos rfl]
        · rw [up_n _ _ (by omega), up_n _ _ (by omega), up_n _ _ (by omega), up_n _ _ (by omega), up_n _ _ (by omega), up_n _ _ (by omega), up_n _ _ (by omega), up_n _ _ (by omega)]; unfold slB; rw [if_neg (by omega), if_neg (by omega), if_neg (by omega), if_neg (by omega), if_neg (by omega), if_neg (by omega), if_neg (by omega)]; exact hM k hk
      · rw [up_n _ _ (by omega), up_n _ _ (by omega), up_n _ _ (by omega), up_n _ _ (by omega), up_n _ _ (by omega), up_n _ _ (by omega), up_n _ _ (by omega), up_n _ _ (by omega)]
    · skip
      rw [lc_le] at c120
      rw [lN_int (by omega), show (999 : Int64).toInt = 999 from by decide] at c120
      refine lv_ldc2 (v := (999)) hx hb hown q1 dX11_sleep_123 ?_
      refine lv_goto (tgt := 139) hx hb dX11_sleep_126 (by decide) ?_
      have ez : ((999) : Int64) = (lN (min 999 (slW B p + slL B p))) := by rw [show min 999 (slW B p + slL B p) = 999 by omega]; rfl
      refine W.eq (g2 := F0 mM 139 ls [.long (lN (min 999 (slW B p + slL B p))), .int 0, .ref (gA G 66)]) (by rw [← ez]) ?_
      refine W.eq (g2 := F0 mM 139 ls [.long (lN (min 999 (slW B p + slL B p))), .int (nI 0), .ref (gA G 66)]) rfl ?_
      refine r_last hx hb hW 66 rfl (g_lt hG (by decide)) (g_kd hG (by decide) rfl) (g_ix hG (c := 560) (by decide) rfl (n_inI (by omega) (by decide))) (rj S 66 (va_up (va_up (gj S 66) 0 (lN (slW B p))) ((nI 0)).toNatClampNeg (lN (min 999 (slW B p + slL B p))))) (va_up (gj S 66) 0 (lN (slW B p))) (e_js _ _ _) (e_js _ _ _) rfl rfl c_j dX11_sleep_139 (fun H locs hW => ?_)
      rw [show ((nI 0)).toNatClampNeg = 0 from n_clamp (by omega)] at hW
      refine lv_aload_n hx hb dX11_sleep_140 rfl (lv_at hl 7 rfl) ?_
      refine r_getr (ci := 10) (C := RX11) (T := TX11) (N := 20) hx hb hts iX11 hown hW rfl 65 0 rfl (g_lt hG (by decide)) (g_kd hG (by decide) rfl) (by decide) q0 (fun _ h9 => h9) (hP _ (List.mem_of_getElem? (i := 60) rfl)) rfl rfl dX11_sleep_141 ?_
      refine lv_bipush (v := 66) hx hb dX11_sleep_144 (by decide) ?_
      refine lv_iload_n hx hb dX11_sleep_146 rfl (lv_at hl 8 rfl) ?_
      refine lv_iadd hx hb dX11_sleep_147 ?_
      rw [show ((66 + (nI p)) : Int32) = (nI (66 + p)) from n_add 66 p]
      refine lv_dup2_11 hx hb dX11_sleep_148 rfl rfl ?_
      refine r_lald hx hb hW 66 rfl (g_lt hG (by decide)) (g_kd hG (by decide) rfl) (g_ix hG (c := 560) (by decide) rfl (n_inI (by omega) (by decide))) (lN (B (66 + p))) ((congrFun (e_js _ _ _) _).trans (by rw [n_clamp (by omega)]; exact ((up_n _ _ (by omega)).trans ((up_n _ _ (by omega)).trans (hM (66 + p) (by omega)))))) dX11_sleep_149 ?_
      refine lv_lconst (v := 1) hx hb dX11_sleep_150 (by decide) ?_
      refine lv_ladd hx hb dX11_sleep_151 ?_
      rw [show (((lN (B (66 + p))) + 1) : Int64) = (lN ((B (66 + p)) + 1)) from lN_add (B (66 + p)) 1]
      refine r_last hx hb hW 66 rfl (g_lt hG (by decide)) (g_kd hG (by decide) rfl) (g_ix hG (c := 560) (by decide) rfl (n_inI (by omega) (by decide))) (rj S 66 (va_up (va_up (va_up (gj S 66) 0 (lN (slW B p))) 0 (lN (min 999 (slW B p + slL B p)))) ((nI (66 + p))).toNatClampNeg (lN ((B (66 + p)) + 1)))) (va_up (va_up (gj S 66) 0 (lN (slW B p))) 0 (lN (min 999 (slW B p + slL B p)))) (e_js _ _ _) (e_js _ _ _) rfl rfl c_j dX11_sleep_152 (fun H locs hW => ?_)
      rw [show ((nI (66 + p))).toNatClampNeg = (66 + p) from n_clamp (by omega)] at hW
      refine lv_aload_n hx hb dX11_sleep_153 rfl (lv_at hl 7 rfl) ?_
      refine r_getr (ci := 10) (C := RX11) (T := TX11) (N := 20) hx hb hts iX11 hown hW rfl 65 0 rfl (g_lt hG (by decide)) (g_kd hG (by decide) rfl) (by decide) q0 (fun _ h9 => h9) (hP _ (List.mem_of_getElem? (i := 60) rfl)) rfl rfl dX11_sleep_154 ?_
      refine lv_bipush (v := 82) hx hb dX11_sleep_157 (by decide) ?_
      refine lv_iload_n hx hb dX11_sleep_159 rfl (lv_at hl 8 rfl) ?_
      refine lv_iadd hx hb dX11_sleep_160 ?_
      rw [show ((82 + (nI p)) : Int32) = (nI (82 + p)) from n_add 82 p]
      refine lv_dup2_11 hx hb dX11_sleep_161 rfl rfl ?_
      refine r_lald hx hb hW 66 rfl (g_lt hG (by decide)) (g_kd hG (by decide) rfl) (g_ix hG (c := 560) (by decide) rfl (n_inI (by omega) (by decide))) (lN (B (82 + p))) ((congrFun (e_js _ _ _) _).trans (by rw [n_clamp (by omega)]; exact ((up_n _ _ (by omega)).trans ((up_n _ _ (by omega)).trans ((up_n _ _ (by omega)).trans (hM (82 + p) (by omega))))))) dX11_sleep_162 ?_
      refine lv_iload hx hb dX11_sleep_163 (lv_at hl 2 rfl) ?_
      refine lv_i2l hx hb dX11_sleep_165 rfl ?_
      rw [show (Int32.toInt64 (nI (slF B p)) : Int64) = lN (slF B p) from lN_of (by omega)]
      refine lv_ladd hx hb dX11_sleep_166 ?_
      rw [show (((lN (B (82 + p))) + (lN (slF B p))) : Int64) = (lN ((B (82 + p)) + (slF B p))) from lN_add (B (82 + p)) (slF B p)]
      refine r_last hx hb hW 66 rfl (g_lt hG (by decide)) (g_kd hG (by decide) rfl) (g_ix hG (c := 560) (by decide) rfl (n_inI (by omega) (by decide))) (rj S 66 (va_up (va_up (va_up (va_up (gj S 66) 0 (lN (slW B p))) 0 (lN (min 999 (slW B p + slL B p)))) (66 + p) (lN ((B (66 + p)) + 1))) ((nI (82 + p))).toNatClampNeg (lN ((B (82 + p)) + (slF B p))))) (va_up (va_up (va_up (gj S 66) 0 (lN (slW B p))) 0 (lN (min 999 (slW B p + slL B p)))) (66 + p) (lN ((B (66 + p)) + 1))) (e_js _ _ _) (e_js _ _ _) rfl rfl c_j dX11_sleep_167 (fun H locs hW => ?_)
      rw [show ((nI (82 + p))).toNatClampNeg = (82 + p) from n_clamp (by omega)] at hW
      refine lv_aload_n hx hb dX11_sleep_168 rfl (lv_at hl 7 rfl) ?_
      refine r_getr (ci := 10) (C := RX11) (T := TX11) (N := 20) hx hb hts iX11 hown hW rfl 65 0 rfl (g_lt hG (by decide)) (g_kd hG (by decide) rfl) (by decide) q0 (fun _ h9 => h9) (hP _ (List.mem_of_getElem? (i := 60) rfl)) rfl rfl dX11_sleep_169 ?_
      refine lv_bipush (v := 98) hx hb dX11_sleep_172 (by decide) ?_
      refine lv_iload_n hx hb dX11_sleep_174 rfl (lv_at hl 8 rfl) ?_
      refine lv_iadd hx hb dX11_sleep_175 ?_
      rw [show ((98 + (nI p)) : Int32) = (nI (98 + p)) from n_add 98 p]
      refine lv_dup2_11 hx hb dX11_sleep_176 rfl rfl ?_
      refine r_lald hx hb hW 66 rfl (g_lt hG (by decide)) (g_kd hG (by decide) rfl) (g_ix hG (c := 560) (by decide) rfl (n_inI (by omega) (by decide))) (lN (B (98 + p))) ((congrFun (e_js _ _ _) _).trans (by rw [n_clamp (by omega)]; exact ((up_n _ _ (by omega)).trans ((up_n _ _ (by omega)).trans ((up_n _ _ (by omega)).trans ((up_n _ _ (by omega)).trans (hM (98 + p) (by omega)))))))) dX11_sleep_177 ?_
      refine lv_iload hx hb dX11_sleep_178 (lv_at hl 0 rfl) ?_
      refine lv_i2l hx hb dX11_sleep_180 rfl ?_
      rw [show (Int32.toInt64 (nI (slL B p)) : Int64) = lN (slL B p) from lN_of (by omega)]
      refine lv_ladd hx hb dX11_sleep_181 ?_
      rw [show (((lN (B (98 + p))) + (lN (slL B p))) : Int64) = (lN ((B (98 + p)) + (slL B p))) from lN_add (B (98 + p)) (slL B p)]
      refine r_last hx hb hW 66 rfl (g_lt hG (by decide)) (g_kd hG (by decide) rfl) (g_ix hG (c := 560) (by decide) rfl (n_inI (by omega) (by decide))) (rj S 66 (va_up (va_up (va_up (va_up (va_up (gj S 66) 0 (lN (slW B p))) 0 (lN (min 999 (slW B p + slL B p)))) (66 + p) (lN ((B (66 + p)) + 1))) (82 + p) (lN ((B (82 + p)) + (slF B p)))) ((nI (98 + p))).toNatClampNeg (lN ((B (98 + p)) + (slL B p))))) (va_up (va_up (va_up (va_up (gj S 66) 0 (lN (slW B p))) 0 (lN (min 999 (slW B p + slL B p)))) (66 + p) (lN ((B (66 + p)) + 1))) (82 + p) (lN ((B (82 + p)) + (slF B p)))) (e_js _ _ _) (e_js _ _ _) rfl rfl c_j dX11_sleep_182 (fun H locs hW => ?_)
      rw [show ((nI (98 + p))).toNatClampNeg = (98 + p) from n_clamp (by omega)] at hW
      refine lv_aload_n hx hb dX11_sleep_183 rfl (lv_at hl 7 rfl) ?_
      refine r_getr (ci := 10) (C := RX11) (T := TX11) (N := 20) hx hb hts iX11 hown hW rfl 65 0 rfl (g_lt hG (by decide)) (g_kd hG (by decide) rfl) (by decide) q0 (fun _ h9 => h9) (hP _ (List.mem_of_getElem? (i := 60) rfl)) rfl rfl dX11_sleep_184 ?_
      refine lv_bipush (v := 114) hx hb dX11_sleep_187 (by decide) ?_
      refine lv_iload_n hx hb dX11_sleep_189 rfl (lv_at hl 8 rfl) ?_
      refine lv_iadd hx hb dX11_sleep_190 ?_
      rw [show ((114 + (nI p)) : Int32) = (nI (114 + p)) from n_add 114 p]
      refine lv_dup2_11 hx hb dX11_sleep_191 rfl rfl ?_
      refine r_lald hx hb hW 66 rfl (g_lt hG (by decide)) (g_kd hG (by decide) rfl) (g_ix hG (c := 560) (by decide) rfl (n_inI (by omega) (by decide))) (lN (B (114 + p))) ((congrFun (e_js _ _ _) _).trans (by rw [n_clamp (by omega)]; exact ((up_n _ _ (by omega)).trans ((up_n _ _ (by omega)).trans ((up_n _ _ (by omega)).trans ((up_n _ _ (by omega)).trans ((up_n _ _ (by omega)).trans (hM (114 + p) (by omega))))))))) dX11_sleep_192 ?_
      refine lv_iload hx hb dX11_sleep_193 (lv_at hl 1 rfl) ?_
      refine lv_iload hx hb dX11_sleep_195 (lv_at hl 0 rfl) ?_
      refine lv_isub hx hb dX11_sleep_197 ?_
      rw [show (((nI (dueN (B 3) (B 1) (B 2) (B (18 + p)))) - (nI (slL B p))) : Int32) = (nI (slD B p - slL B p)) from n_sub hLD]
      refine lv_i2l hx hb dX11_sleep_198 rfl ?_
      rw [show (Int32.toInt64 (nI (slD B p - slL B p)) : Int64) = lN (slD B p - slL B p) from lN_of (by omega)]
      refine lv_ladd hx hb dX11_sleep_199 ?_
      rw [show (((lN (B (114 + p))) + (lN (slD B p - slL B p))) : Int64) = (lN ((B (114 + p)) + (slD B p - slL B p))) from lN_add (B (114 + p)) (slD B p - slL B p)]
      refine r_last hx hb hW 66 rfl (g_lt hG (by decide)) (g_kd hG (by decide) rfl) (g_ix hG (c := 560) (by decide) rfl (n_inI (by omega) (by decide))) (rj S 66 (va_up (va_up (va_up (va_up (va_up (va_up (gj S 66) 0 (lN (slW B p))) 0 (lN (min 999 (slW B p + slL B p)))) (66 + p) (lN ((B (66 + p)) + 1))) (82 + p) (lN ((B (82 + p)) + (slF B p)))) (98 + p) (lN ((B (98 + p)) + (slL B p)))) ((nI (114 + p))).toNatClampNeg (lN ((B (114 + p)) + (slD B p - slL B p))))) (va_up (va_up (va_up (va_up (va_up (gj S 66) 0 (lN (slW B p))) 0 (lN (min 999 (slW B p + slL B p)))) (66 + p) (lN ((B (66 + p)) + 1))) (82 + p) (lN ((B (82 + p)) + (slF B p)))) (98 + p) (lN ((B (98 + p)) + (slL B p)))) (e_js _ _ _) (e_js _ _ _) rfl rfl c_j dX11_sleep_200 (fun H locs hW => ?_)
      rw [show ((nI (114 + p))).toNatClampNeg = (114 + p) from n_clamp (by omega)] at hW
      refine lv_aload_n hx hb dX11_sleep_201 rfl (lv_at hl 7 rfl) ?_
      refine r_getr (ci := 10) (C := RX11) (T := TX11) (N := 20) hx hb hts iX11 hown hW rfl 65 0 rfl (g_lt hG (by decide)) (g_kd hG (by decide) rfl) (by decide) q0 (fun _ h9 => h9) (hP _ (List.mem_of_getElem? (i := 60) rfl)) rfl rfl dX11_sleep_202 ?_
      refine lv_sipush (v := 130) hx hb dX11_sleep_205 (by decide) ?_
      refine W.eq (g2 := F0 mM 208 ls [.int (nI 130), .ref (gA G 66)]) rfl ?_
      refine lv_dup2_11 hx hb dX11_sleep_208 rfl rfl ?_
      refine r_lald hx hb hW 66 rfl (g_lt hG (by decide)) (g_kd hG (by decide) rfl) (g_ix hG (c := 560) (by decide) rfl (n_inI (by omega) (by decide))) (lN (B 130)) ((congrFun (e_js _ _ _) _).trans (by rw [n_clamp (by omega)]; exact ((up_n _ _ (by omega)).trans ((up_n _ _ (by omega)).trans ((up_n _ _ (by omega)).trans ((up_n _ _ (by omega)).trans ((up_n _ _ (by omega)).trans ((up_n _ _ (by omega)).trans (hM 130 (by omega)))))))))) dX11_sleep_209 ?_
      refine lv_lconst (v := 1) hx hb dX11_sleep_210 (by decide) ?_
      refine lv_ladd hx hb dX11_sleep_211 ?_
      rw [show (((lN (B 130)) + 1) : Int64) = (lN ((B 130) + 1)) from lN_add (B 130) 1]
      refine r_last hx hb hW 66 rfl (g_lt hG (by decide)) (g_kd hG (by decide) rfl) (g_ix hG (c := 560) (by decide) rfl (n_inI (by omega) (by decide))) (rj S 66 (va_up (va_up (va_up (va_up (va_up (va_up (va_up (gj S 66) 0 (lN (slW B p))) 0 (lN (min 999 (slW B p + slL B p)))) (66 + p) (lN ((B (66 + p)) + 1))) (82 + p) (lN ((B (82 + p)) + (slF B p)))) (98 + p) (lN ((B (98 + p)) + (slL B p)))) (114 + p) (lN ((B (114 + p)) + (slD B p - slL B p)))) ((nI 130)).toNatClampNeg (lN ((B 130) + 1)))) (va_up (va_up (va_up (va_up (va_up (va_up (gj S 66) 0 (lN (slW B p))) 0 (lN (min 999 (slW B p + slL B p)))) (66 + p) (lN ((B (66 + p)) + 1))) (82 + p) (lN ((B (82 + p)) + (slF B p)))) (98 + p) (lN ((B (98 + p)) + (slL B p)))) (114 + p) (lN ((B (114 + p)) + (slD B p - slL B p)))) (e_js _ _ _) (e_js _ _ _) rfl rfl c_j dX11_sleep_212 (fun H locs hW => ?_)
      rw [show ((nI 130)).toNatClampNeg = 130 from n_clamp (by omega)] at hW
      refine lv_aload_n hx hb dX11_sleep_213 rfl (lv_at hl 7 rfl) ?_
      refine r_getr (ci := 10) (C := RX11) (T := TX11) (N := 20) hx hb hts iX11 hown hW rfl 65 0 rfl (g_lt hG (by decide)) (g_kd hG (by decide) rfl) (by decide) q0 (fun _ h9 => h9) (hP _ (List.mem_of_getElem? (i := 60) rfl)) rfl rfl dX11_sleep_214 ?_
      refine lv_sipush (v := 131) hx hb dX11_sleep_217 (by decide) ?_
      refine W.eq (g2 := F0 mM 220 ls [.int (nI 131), .ref (gA G 66)]) rfl ?_
      refine lv_dup2_11 hx hb dX11_sleep_220 rfl rfl ?_
      refine r_lald hx hb hW 66 rfl (g_lt hG (by decide)) (g_kd hG (by decide) rfl) (g_ix hG (c := 560) (by decide) rfl (n_inI (by omega) (by decide))) (lN (B 131)) ((congrFun (e_js _ _ _) _).trans (by rw [n_clamp (by omega)]; exact ((up_n _ _ (by omega)).trans ((up_n _ _ (by omega)).trans ((up_n _ _ (by omega)).trans ((up_n _ _ (by omega)).trans ((up_n _ _ (by omega)).trans ((up_n _ _ (by omega)).trans ((up_n _ _ (by omega)).trans (hM 131 (by omega))))))))))) dX11_sleep_221 ?_
      refine lv_iload hx hb dX11_sleep_222 (lv_at hl 2 rfl) ?_
      refine lv_i2l hx hb dX11_sleep_224 rfl ?_
      rw [show (Int32.toInt64 (nI (slF B p)) : Int64) = lN (slF B p) from lN_of (by omega)]
      refine lv_ladd hx hb dX11_sleep_225 ?_
      rw [show (((lN (B 131)) + (lN (slF B p))) : Int64) = (lN ((B 131) + (slF B p))) from lN_add (B 131) (slF B p)]
      refine r_last hx hb hW 66 rfl (g_lt hG (by decide)) (g_kd hG (by decide) rfl) (g_ix hG (c := 560) (by decide) rfl (n_inI (by omega) (by decide))) (rj S 66 (va_up (va_up (va_up (va_up (va_up (va_up (va_up (va_up (gj S 66) 0 (lN (slW B p))) 0 (lN (min 999 (slW B p + slL B p)))) (66 + p) (lN ((B (66 + p)) + 1))) (82 + p) (lN ((B (82 + p)) + (slF B p)))) (98 + p) (lN ((B (98 + p)) + (slL B p)))) (114 + p) (lN ((B (114 + p)) + (slD B p - slL B p)))) 130 (lN ((B 130) + 1))) ((nI 131)).toNatClampNeg (lN ((B 131) + (slF B p))))) (va_up (va_up (va_up (va_up (va_up (va_up (va_up (gj S 66) 0 (lN (slW B p))) 0 (lN (min 999 (slW B p + slL B p)))) (66 + p) (lN ((B (66 + p)) + 1))) (82 + p) (lN ((B (82 + p)) + (slF B p)))) (98 + p) (lN ((B (98 + p)) + (slL B p)))) (114 + p) (lN ((B (114 + p)) + (slD B p - slL B p)))) 130 (lN ((B 130) + 1))) (e_js _ _ _) (e_js _ _ _) rfl rfl c_j dX11_sleep_226 (fun H locs hW => ?_)
      rw [show ((nI 131)).toNatClampNeg = 131 from n_clamp (by omega)] at hW
      refine lv_iload hx hb dX11_sleep_227 (lv_at hl 2 rfl) ?_
      refine r_iret hx hb hr hlocks hW ?_ dX11_sleep_229
      refine ⟨rfl, _, rfl, fun k hk => ?_, fun k hk => ?_⟩
      · rcases (show k = 0 ∨ k = 66 + p ∨ k = 82 + p ∨ k = 98 + p ∨ k = 114 + p ∨ k = 130 ∨ k = 131 ∨ (k ≠ 0 ∧ k ≠ 66 + p ∧ k ≠ 82 + p ∧ k ≠ 98 + p ∧ k ≠ 114 + p ∧ k ≠ 130 ∧ k ≠ 131) by omega) with e | e | e | e | e | e | e | e
        · rw [e, up_n _ _ (by omega), up_n _ _ (by omega), up_n _ _ (by omega), up_n _ _ (by omega), up_n _ _ (by omega), up_n _ _ (by omega), up_s]; unfold slB; rw [if_pos rfl]
        · rw [e, up_n _ _ (by omega), up_n _ _ (by omega), up_n _ _ (by omega), up_n _ _ (by omega), up_n _ _ (by omega), up_s]; unfold slB; rw [if_neg (by omega), if_pos rfl]
        · rw [e, up_n _ _ (by omega), up_n _ _ (by omega), up_n _ _ (by omega), up_n _ _ (by omega), up_s]; unfold slB; rw [if_neg (by omega), if_neg (by omega), if_pos rfl]
        · rw [e, up_n _ _ (by omega), up_n _ _ (by omega), up_n _ _ (by omega), up_s]; unfold slB; rw [if_neg (by omega), if_neg (by omega), if_neg (by omega), if_pos rfl]
        · rw [e, up_n _ _ (by omega), up_n _ _ (by omega), up_s]; unfold slB; rw [if_neg (by omega), if_neg (by omega), if_neg (by omega), if_neg (by omega), if_pos rfl]
        · rw [e, up_n _ _ (by omega), up_s]; unfold slB; rw [if_neg (by omega), if_neg (by omega), if_neg (by omega), if_neg (by omega), if_neg (by omega), if_pos rfl]
        · rw [e, up_s]; unfold slB; rw [if_neg (by omega), if_neg (by omega), if_neg (by omega), if_neg (by omega), if_neg (by omega), if_neg (by omega), if_pos rfl]
        · rw [up_n _ _ (by omega), up_n _ _ (by omega), up_n _ _ (by omega), up_n _ _ (by omega), up_n _ _ (by omega), up_n _ _ (by omega), up_n _ _ (by omega), up_n _ _ (by omega)]; unfold slB; rw [if_neg (by omega), if_neg (by omega), if_neg (by omega), if_neg (by omega), if_neg (by omega), if_neg (by omega), if_neg (by omega)]; exact hM k hk
      · rw [up_n _ _ (by omega), up_n _ _ (by omega), up_n _ _ (by omega), up_n _ _ (by omega), up_n _ _ (by omega), up_n _ _ (by omega), up_n _ _ (by omega), up_n _ _ (by omega)]
  · skip
    rw [lc_le] at c34
    rw [lN_int (by omega), lN_int (by omega)] at c34
    refine lv_iload hx hb dX11_sleep_37 (lv_at hl 0 rfl) ?_
    refine lv_aload_n hx hb dX11_sleep_39 rfl (lv_at hl 3 rfl) ?_
    refine r_getr (ci := 10) (C := RX11) (T := TX11) (N := 20) hx hb hts iX11 hown hW rfl 65 0 rfl (g_lt hG (by decide)) (g_kd hG (by decide) rfl) (by decide) q0 (fun _ h9 => h9) (hP _ (List.mem_of_getElem? (i := 60) rfl)) rfl rfl dX11_sleep_40 ?_
    refine lv_iconst (v := 0) hx hb dX11_sleep_43 (by decide) ?_
    refine W.eq (g2 := F0 mM 44 ls [.int (nI 0), .ref (gA G 66), .int (nI ((B (18 + p)) * (B 1)))]) rfl ?_
    refine r_lald hx hb hW 66 rfl (g_lt hG (by decide)) (g_kd hG (by decide) rfl) (g_ix hG (c := 560) (by decide) rfl (n_inI (by omega) (by decide))) (lN (B 0)) (by rw [n_clamp (by omega)]; exact (hM 0 (by omega))) dX11_sleep_44 ?_
    refine lv_l2i hx hb dX11_sleep_45 rfl ?_
    rw [show (Int64.toInt32 (lN (B 0)) : Int32) = nI (B 0) from lN_i _]
    refine lv_isub hx hb dX11_sleep_46 ?_
    refine lv_goto (tgt := 51) hx hb dX11_sleep_47 (by decide) ?_
    have ez : (((nI ((B (18 + p)) * (B 1))) - (nI (B 0))) : Int32) = (nI ((B (18 + p) * B 1) - B 0)) := n_sub (by omega)
    refine W.eq (g2 := F0 mM 51 ls [.int (nI ((B (18 + p) * B 1) - B 0))]) (by rw [← ez]) ?_
    refine lv_istore (lv' := [(5, .int (nI ((B (18 + p) * B 1) - B 0))), (4, .int (nI ((B (18 + p)) * (B 1)))), (3, .int (nI (B 1))), (2, .int (nI (B (18 + p)))), (0, .ref (gA G 65)), (1, .int (nI p))]) hx hb dX11_sleep_51 hl (by decide) rfl (fun ls hl => ?_)
    refine lv_iload hx hb dX11_sleep_53 (lv_at hl 0 rfl) ?_
    refine lv_iload_n hx hb dX11_sleep_55 rfl (lv_at hl 2 rfl) ?_
    refine lv_iadd hx hb dX11_sleep_56 ?_
    rw [show (((nI ((B (18 + p) * B 1) - B 0)) + (nI (B 1))) : Int32) = (nI (((B (18 + p) * B 1) - B 0) + (B 1))) from n_add ((B (18 + p) * B 1) - B 0) (B 1)]
    refine lv_iconst (v := 1) hx hb dX11_sleep_57 (by decide) ?_
    refine lv_isub hx hb dX11_sleep_58 ?_
    rw [show (((nI (((B (18 + p) * B 1) - B 0) + (B 1))) - 1) : Int32) = (nI (((B (18 + p) * B 1) - B 0) + B 1 - 1)) from n_sub (b := 1) (by omega)]
    refine lv_iload_n hx hb dX11_sleep_59 rfl (lv_at hl 2 rfl) ?_
    refine lv_idiv hx hb dX11_sleep_60 (fun q : nI (B 1) = nI 0 => absurd ((n_eq (by omega) (by omega)).mp q) (by omega)) ?_
    rw [show (((nI (((B (18 + p) * B 1) - B 0) + B 1 - 1)) / (nI (B 1))) : Int32) = (nI (slF B p)) from by rw [n_div (by omega) (by omega) (by omega)]; rfl]
    refine lv_istore (lv' := [(6, .int (nI (slF B p))), (5, .int (nI ((B (18 + p) * B 1) - B 0))), (4, .int (nI ((B (18 + p)) * (B 1)))), (3, .int (nI (B 1))), (2, .int (nI (B (18 + p)))), (0, .ref (gA G 65)), (1, .int (nI p))]) hx hb dX11_sleep_61 hl (by decide) rfl (fun ls hl => ?_)
    refine lv_aload_n hx hb dX11_sleep_63 rfl (lv_at hl 5 rfl) ?_
    refine r_getr (ci := 10) (C := RX11) (T := TX11) (N := 20) hx hb hts iX11 hown hW rfl 65 0 rfl (g_lt hG (by decide)) (g_kd hG (by decide) rfl) (by decide) q0 (fun _ h9 => h9) (hP _ (List.mem_of_getElem? (i := 60) rfl)) rfl rfl dX11_sleep_64 ?_
    refine lv_iconst (v := 0) hx hb dX11_sleep_67 (by decide) ?_
    refine W.eq (g2 := F0 mM 68 ls [.int (nI 0), .ref (gA G 66)]) rfl ?_
    refine lv_dup2_11 hx hb dX11_sleep_68 rfl rfl ?_
    refine r_lald hx hb hW 66 rfl (g_lt hG (by decide)) (g_kd hG (by decide) rfl) (g_ix hG (c := 560) (by decide) rfl (n_inI (by omega) (by decide))) (lN (B 0)) (by rw [n_clamp (by omega)]; exact (hM 0 (by omega))) dX11_sleep_69 ?_
    refine lv_iload hx hb dX11_sleep_70 (lv_at hl 2 rfl) ?_
    refine lv_iload hx hb dX11_sleep_72 (lv_at hl 1 rfl) ?_
    refine lv_isub hx hb dX11_sleep_74 ?_
    rw [show (((nI ((B (18 + p)) * (B 1))) - (nI ((B (18 + p) * B 1) - B 0))) : Int32) = (nI ((B (18 + p) * B 1) - ((B (18 + p) * B 1) - B 0))) from n_sub (by omega)]
    refine lv_i2l hx hb dX11_sleep_75 rfl ?_
    rw [show (Int32.toInt64 (nI ((B (18 + p) * B 1) - ((B (18 + p) * B 1) - B 0))) : Int64) = lN ((B (18 + p) * B 1) - ((B (18 + p) * B 1) - B 0)) from lN_of (by omega)]
    refine lv_lsub hx hb dX11_sleep_76 ?_
    rw [show (((lN (B 0)) - (lN ((B (18 + p) * B 1) - ((B (18 + p) * B 1) - B 0)))) : Int64) = (lN (slW B p)) from by rw [lN_sub (by omega), show B 0 - ((B (18 + p) * B 1) - ((B (18 + p) * B 1) - B 0)) = slW B p by unfold slW slM; omega]]
    refine r_last hx hb hW 66 rfl (g_lt hG (by decide)) (g_kd hG (by decide) rfl) (g_ix hG (c := 560) (by decide) rfl (n_inI (by omega) (by decide))) (rj S 66 (va_up (gj S 66) ((nI 0)).toNatClampNeg (lN (slW B p)))) (gj S 66) rfl (e_js _ _ _) rfl rfl c_j0 dX11_sleep_77 (fun H locs hW => ?_)
    rw [show ((nI 0)).toNatClampNeg = 0 from n_clamp (by omega)] at hW
    refine lv_aload_n hx hb dX11_sleep_78 rfl (lv_at hl 5 rfl) ?_
    refine lv_aload_n hx hb dX11_sleep_79 rfl (lv_at hl 5 rfl) ?_
    refine r_getr (ci := 10) (C := RX11) (T := TX11) (N := 20) hx hb hts iX11 hown hW rfl 65 0 rfl (g_lt hG (by decide)) (g_kd hG (by decide) rfl) (by decide) q0 (fun _ h9 => h9) (hP _ (List.mem_of_getElem? (i := 60) rfl)) rfl rfl dX11_sleep_80 ?_
    refine lv_iconst (v := 2) hx hb dX11_sleep_83 (by decide) ?_
    refine W.eq (g2 := F0 mM 84 ls [.int (nI 2), .ref (gA G 66), .ref (gA G 65)]) rfl ?_
    refine r_lald hx hb hW 66 rfl (g_lt hG (by decide)) (g_kd hG (by decide) rfl) (g_ix hG (c := 560) (by decide) rfl (n_inI (by omega) (by decide))) (lN (B 2)) ((congrFun (e_js _ _ _) _).trans (by rw [n_clamp (by omega)]; exact ((up_n _ _ (by omega)).trans (hM 2 (by omega))))) dX11_sleep_84 ?_
    refine lv_l2i hx hb dX11_sleep_85 rfl ?_
    rw [show (Int64.toInt32 (lN (B 2)) : Int32) = nI (B 2) from lN_i _]
    refine lv_iload_n hx hb dX11_sleep_86 rfl (lv_at hl 4 rfl) ?_
    refine r_calli hW hA (va_runV (As := [.int (nI (B 2)), .int (nI (B (18 + p)))]) (rest := []) ⟨hx, hb, hml, hown, hts⟩ (t_X11_dueOf l D G (rj S 66 (va_up (gj S 66) 0 (lN (slW B p)))) _ hG hP (B 3) (B 1) (B 2) (B (18 + p)) ((congrFun (e_js _ _ _) _).trans ((up_n _ _ (by omega)).trans (hM 3 (by omega)))) ((congrFun (e_js _ _ _) _).trans ((up_n _ _ (by omega)).trans (hM 1 (by omega)))) b4 (b9 p hp).1 (b9 p hp).2.1 b5 b3) (cwV 2 hts gX11_sleep_X11_dueOf rfl rfl rfl (by decide +kernel) ⟨Nat.le_of_ble_eq_true rfl, Nat.le_of_ble_eq_true rfl⟩) (r_preV (k := 65) hA hW (ci := 10) (C := RX11) (T := TX11) (N := 20) rfl rfl (g_lt hG (by decide)) (g_kd hG (by decide) rfl) rfl rfl) rfl rfl hl.1 rfl (lv_room (Nat.le_of_ble_eq_true rfl)) dX11_sleep_87 ⟨Nat.zero_le _, Nat.zero_le _⟩) (fun r87 S87 H locs hp87 hW => ?_)
    obtain ⟨hs87, rfl⟩ := hp87
    rw [hs87] at hW
    refine lv_istore (lv' := [(7, .int (nI (dueN (B 3) (B 1) (B 2) (B (18 + p))))), (6, .int (nI (slF B p))), (5, .int (nI ((B (18 + p) * B 1) - B 0))), (4, .int (nI ((B (18 + p)) * (B 1)))), (3, .int (nI (B 1))), (2, .int (nI (B (18 + p)))), (0, .ref (gA G 65)), (1, .int (nI p))]) hx hb dX11_sleep_90 hl (by decide) rfl (fun ls hl => ?_)
    refine lv_aload_n hx hb dX11_sleep_92 rfl (lv_at hl 6 rfl) ?_
    refine lv_iload_n hx hb dX11_sleep_93 rfl (lv_at hl 7 rfl) ?_
    refine lv_iload hx hb dX11_sleep_94 (lv_at hl 0 rfl) ?_
    refine r_calli hW hA (va_runV (As := [.int (nI p), .int (nI (dueN (B 3) (B 1) (B 2) (B (18 + p))))]) (rest := []) ⟨hx, hb, hml, hown, hts⟩ (t_X11_leaves l D G (rj S 66 (va_up (gj S 66) 0 (lN (slW B p)))) _ hG hP p (slD B p) (B (34 + p)) (B (50 + p)) (slW B p) (B 1) (by omega) ((congrFun (e_js _ _ _) _).trans ((up_n _ _ (by omega)).trans (hM (34 + p) (by omega)))) ((congrFun (e_js _ _ _) _).trans ((up_n _ _ (by omega)).trans (hM (50 + p) (by omega)))) ((congrFun (e_js _ _ _) _).trans (up_s _ _ _)) ((congrFun (e_js _ _ _) _).trans ((up_n _ _ (by omega)).trans (hM 1 (by omega)))) (b9 p hp).2.2.1 (b9 p hp).2.2.2 hD (by unfold slW; omega) b3) (cwV 2 hts gX11_sleep_X11_leaves rfl rfl rfl (by decide +kernel) ⟨Nat.le_of_ble_eq_true rfl, Nat.le_of_ble_eq_true rfl⟩) (r_preV (k := 65) hA hW (ci := 10) (C := RX11) (T := TX11) (N := 20) rfl rfl (g_lt hG (by decide)) (g_kd hG (by decide) rfl) rfl rfl) rfl rfl hl.1 rfl (lv_room (Nat.le_of_ble_eq_true rfl)) dX11_sleep_96 ⟨Nat.zero_le _, Nat.zero_le _⟩) (fun r96 S96 H locs hp96 hW => ?_)
    obtain ⟨hs96, rfl⟩ := hp96
    rw [hs96] at hW
    refine lv_istore (lv' := [(8, .int (nI (slL B p))), (7, .int (nI (dueN (B 3) (B 1) (B 2) (B (18 + p))))), (6, .int (nI (slF B p))), (5, .int (nI ((B (18 + p) * B 1) - B 0))), (4, .int (nI ((B (18 + p)) * (B 1)))), (3, .int (nI (B 1))), (2, .int (nI (B (18 + p)))), (0, .ref (gA G 65)), (1, .int (nI p))]) hx hb dX11_sleep_99 hl (by decide) rfl (fun ls hl => ?_)
    refine lv_aload_n hx hb dX11_sleep_101 rfl (lv_at hl 7 rfl) ?_
    refine r_getr (ci := 10) (C := RX11) (T := TX11) (N := 20) hx hb hts iX11 hown hW rfl 65 0 rfl (g_lt hG (by decide)) (g_kd hG (by decide) rfl) (by decide) q0 (fun _ h9 => h9) (hP _ (List.mem_of_getElem? (i := 60) rfl)) rfl rfl dX11_sleep_102 ?_
    refine lv_iconst (v := 0) hx hb dX11_sleep_105 (by decide) ?_
    refine lv_aload_n hx hb dX11_sleep_106 rfl (lv_at hl 7 rfl) ?_
    refine r_getr (ci := 10) (C := RX11) (T := TX11) (N := 20) hx hb hts iX11 hown hW rfl 65 0 rfl (g_lt hG (by decide)) (g_kd hG (by decide) rfl) (by decide) q0 (fun _ h9 => h9) (hP _ (List.mem_of_getElem? (i := 60) rfl)) rfl rfl dX11_sleep_107 ?_
    refine lv_iconst (v := 0) hx hb dX11_sleep_110 (by decide) ?_
    refine W.eq (g2 := F0 mM 111 ls [.int (nI 0), .ref (gA G 66), .int 0, .ref (gA G 66)]) rfl ?_
    refine r_lald hx hb hW 66 rfl (g_lt hG (by decide)) (g_kd hG (by decide) rfl) (g_ix hG (c := 560) (by decide) rfl (n_inI (by omega) (by decide))) (lN (slW B p)) ((congrFun (e_js _ _ _) _).trans (by rw [n_clamp (by omega)]; exact (up_s _ _ _))) dX11_sleep_111 ?_
    refine lv_iload hx hb dX11_sleep_112 (lv_at hl 0 rfl) ?_
    refine lv_i2l hx hb dX11_sleep_114 rfl ?_
    rw [show (Int32.toInt64 (nI (slL B p)) : Int64) = lN (slL B p) from lN_of (by omega)]
    refine lv_ladd hx hb dX11_sleep_115 ?_
    rw [show (((lN (slW B p)) + (lN (slL B p))) : Int64) = (lN ((slW B p) + (slL B p))) from lN_add (slW B p) (slL B p)]
    refine lv_ldc2 (v := (999)) hx hb hown q1 dX11_sleep_116 ?_
    refine W.lcmp hx hb dX11_sleep_119 ?_
    refine lv_if_le (tgt := 129) hx hb dX11_sleep_120 (by decide) (fun c120 => ?_) (fun c120 => ?_)
    · skip
      rw [lc_le] at c120
      rw [lN_int (by omega), show (999 : Int64).toInt = 999 from by decide] at c120
      refine lv_aload_n hx hb dX11_sleep_129 rfl (lv_at hl 7 rfl) ?_
      refine r_getr (ci := 10) (C := RX11) (T := TX11) (N := 20) hx hb hts iX11 hown hW rfl 65 0 rfl (g_lt hG (by decide)) (g_kd hG (by decide) rfl) (by decide) q0 (fun _ h9 => h9) (hP _ (List.mem_of_getElem? (i := 60) rfl)) rfl rfl dX11_sleep_130 ?_
      refine lv_iconst (v := 0) hx hb dX11_sleep_133 (by decide) ?_
      refine W.eq (g2 := F0 mM 134 ls [.int (nI 0), .ref (gA G 66), .int 0, .ref (gA G 66)]) rfl ?_
      refine r_lald hx hb hW 66 rfl (g_lt hG (by decide)) (g_kd hG (by decide) rfl) (g_ix hG (c := 560) (by decide) rfl (n_inI (by omega) (by decide))) (lN (slW B p)) ((congrFun (e_js _ _ _) _).trans (by rw [n_clamp (by omega)]; exact (up_s _ _ _))) dX11_sleep_134 ?_
      refine lv_iload hx hb dX11_sleep_135 (lv_at hl 0 rfl) ?_
      refine lv_i2l hx hb dX11_sleep_137 rfl ?_
      rw [show (Int32.toInt64 (nI (slL B p)) : Int64) = lN (slL B p) from lN_of (by omega)]
      refine lv_ladd hx hb dX11_sleep_138 ?_
      rw [show (((lN (slW B p)) + (lN (slL B p))) : Int64) = (lN ((slW B p) + (slL B p))) from lN_add (slW B p) (slL B p)]
      have ez : ((lN ((slW B p) + (slL B p))) : Int64) = (lN (min 999 (slW B p + slL B p))) := by rw [show min 999 (slW B p + slL B p) = slW B p + slL B p by omega]
      refine W.eq (g2 := F0 mM 139 ls [.long (lN (min 999 (slW B p + slL B p))), .int 0, .ref (gA G 66)]) (by rw [← ez]) ?_
      refine W.eq (g2 := F0 mM 139 ls [.long (lN (min 999 (slW B p + slL B p))), .int (nI 0), .ref (gA G 66)]) rfl ?_
      refine r_last hx hb hW 66 rfl (g_lt hG (by decide)) (g_kd hG (by decide) rfl) (g_ix hG (c := 560) (by decide) rfl (n_inI (by omega) (by decide))) (rj S 66 (va_up (va_up (gj S 66) 0 (lN (slW B p))) ((nI 0)).toNatClampNeg (lN (min 999 (slW B p + slL B p))))) (va_up (gj S 66) 0 (lN (slW B p))) (e_js _ _ _) (e_js _ _ _) rfl rfl c_j dX11_sleep_139 (fun H locs hW => ?_)
      rw [show ((nI 0)).toNatClampNeg = 0 from n_clamp (by omega)] at hW
      refine lv_aload_n hx hb dX11_sleep_140 rfl (lv_at hl 7 rfl) ?_
      refine r_getr (ci := 10) (C := RX11) (T := TX11) (N := 20) hx hb hts iX11 hown hW rfl 65 0 rfl (g_lt hG (by decide)) (g_kd hG (by decide) rfl) (by decide) q0 (fun _ h9 => h9) (hP _ (List.mem_of_getElem? (i := 60) rfl)) rfl rfl dX11_sleep_141 ?_
      refine lv_bipush (v := 66) hx hb dX11_sleep_144 (by decide) ?_
      refine lv_iload_n hx hb dX11_sleep_146 rfl (lv_at hl 8 rfl) ?_
      refine lv_iadd hx hb dX11_sleep_147 ?_
      rw [show ((66 + (nI p)) : Int32) = (nI (66 + p)) from n_add 66 p]
      refine lv_dup2_11 hx hb dX11_sleep_148 rfl rfl ?_
      refine r_lald hx hb hW 66 rfl (g_lt hG (by decide)) (g_kd hG (by decide) rfl) (g_ix hG (c := 560) (by decide) rfl (n_inI (by omega) (by decide))) (lN (B (66 + p))) ((congrFun (e_js _ _ _) _).trans (by rw [n_clamp (by omega)]; exact ((up_n _ _ (by omega)).trans ((up_n _ _ (by omega)).trans (hM (66 + p) (by omega)))))) dX11_sleep_149 ?_
      refine lv_lconst (v := 1) hx hb dX11_sleep_150 (by decide) ?_
      refine lv_ladd hx hb dX11_sleep_151 ?_
      rw [show (((lN (B (66 + p))) + 1) : Int64) = (lN ((B (66 + p)) + 1)) from lN_add (B (66 + p)) 1]
      refine r_last hx hb hW 66 rfl (g_lt hG (by decide)) (g_kd hG (by decide) rfl) (g_ix hG (c := 560) (by decide) rfl (n_inI (by omega) (by decide))) (rj S 66 (va_up (va_up (va_up (gj S 66) 0 (lN (slW B p))) 0 (lN (min 999 (slW B p + slL B p)))) ((nI (66 + p))).toNatClampNeg (lN ((B (66 + p)) + 1)))) (va_up (va_up (gj S 66) 0 (lN (slW B p))) 0 (lN (min 999 (slW B p + slL B p)))) (e_js _ _ _) (e_js _ _ _) rfl rfl c_j dX11_sleep_152 (fun H locs hW => ?_)
      rw [show ((nI (66 + p))).toNatClampNeg = (66 + p) from n_clamp (by omega)] at hW
      refine lv_aload_n hx hb dX11_sleep_153 rfl (lv_at hl 7 rfl) ?_
      refine r_getr (ci := 10) (C := RX11) (T := TX11) (N := 20) hx hb hts iX11 hown hW rfl 65 0 rfl (g_lt hG (by decide)) (g_kd hG (by decide) rfl) (by decide) q0 (fun _ h9 => h9) (hP _ (List.mem_of_getElem? (i := 60) rfl)) rfl rfl dX11_sleep_154 ?_
      refine lv_bipush (v := 82) hx hb dX11_sleep_157 (by decide) ?_
      refine lv_iload_n hx hb dX11_sleep_159 rfl (lv_at hl 8 rfl) ?_
      refine lv_iadd hx hb dX11_sleep_160 ?_
      rw [show ((82 + (nI p)) : Int32) = (nI (82 + p)) from n_add 82 p]
      refine lv_dup2_11 hx hb dX11_sleep_161 rfl rfl ?_
      refine r_lald hx hb hW 66 rfl (g_lt hG (by decide)) (g_kd hG (by decide) rfl) (g_ix hG (c := 560) (by decide) rfl (n_inI (by omega) (by decide))) (lN (B (82 + p))) ((congrFun (e_js _ _ _) _).trans (by rw [n_clamp (by omega)]; exact ((up_n _ _ (by omega)).trans ((up_n _ _ (by omega)).trans ((up_n _ _ (by omega)).trans (hM (82 + p) (by omega))))))) dX11_sleep_162 ?_
      refine lv_iload hx hb dX11_sleep_163 (lv_at hl 2 rfl) ?_
      refine lv_i2l hx hb dX11_sleep_165 rfl ?_
      rw [show (Int32.toInt64 (nI (slF B p)) : Int64) = lN (slF B p) from lN_of (by omega)]
      refine lv_ladd hx hb dX11_sleep_166 ?_
      rw [show (((lN (B (82 + p))) + (lN (slF B p))) : Int64) = (lN ((B (82 + p)) + (slF B p))) from lN_add (B (82 + p)) (slF B p)]
      refine r_last hx hb hW 66 rfl (g_lt hG (by decide)) (g_kd hG (by decide) rfl) (g_ix hG (c := 560) (by decide) rfl (n_inI (by omega) (by decide))) (rj S 66 (va_up (va_up (va_up (va_up (gj S 66) 0 (lN (slW B p))) 0 (lN (min 999 (slW B p + slL B p)))) (66 + p) (lN ((B (66 + p)) + 1))) ((nI (82 + p))).toNatClampNeg (lN ((B (82 + p)) + (slF B p))))) (va_up (va_up (va_up (gj S 66) 0 (lN (slW B p))) 0 (lN (min 999 (slW B p + slL B p)))) (66 + p) (lN ((B (66 + p)) + 1))) (e_js _ _ _) (e_js _ _ _) rfl rfl c_j dX11_sleep_167 (fun H locs hW => ?_)
      rw [show ((nI (82 + p))).toNatClampNeg = (82 + p) from n_clamp (by omega)] at hW
      refine lv_aload_n hx hb dX11_sleep_168 rfl (lv_at hl 7 rfl) ?_
      refine r_getr (ci := 10) (C := RX11) (T := TX11) (N := 20) hx hb hts iX11 hown hW rfl 65 0 rfl (g_lt hG (by decide)) (g_kd hG (by decide) rfl) (by decide) q0 (fun _ h9 => h9) (hP _ (List.mem_of_getElem? (i := 60) rfl)) rfl rfl dX11_sleep_169 ?_
      refine lv_bipush (v := 98) hx hb dX11_sleep_172 (by decide) ?_
      refine lv_iload_n hx hb dX11_sleep_174 rfl (lv_at hl 8 rfl) ?_
      refine lv_iadd hx hb dX11_sleep_175 ?_
      rw [show ((98 + (nI p)) : Int32) = (nI (98 + p)) from n_add 98 p]
      refine lv_dup2_11 hx hb dX11_sleep_176 rfl rfl ?_
      refine r_lald hx hb hW 66 rfl (g_lt hG (by decide)) (g_kd hG (by decide) rfl) (g_ix hG (c := 560) (by decide) rfl (n_inI (by omega) (by decide))) (lN (B (98 + p))) ((congrFun (e_js _ _ _) _).trans (by rw [n_clamp (by omega)]; exact ((up_n _ _ (by omega)).trans ((up_n _ _ (by omega)).trans ((up_n _ _ (by omega)).trans ((up_n _ _ (by omega)).trans (hM (98 + p) (by omega)))))))) dX11_sleep_177 ?_
      refine lv_iload hx hb dX11_sleep_178 (lv_at hl 0 rfl) ?_
      refine lv_i2l hx hb dX11_sleep_180 rfl ?_
      rw [show (Int32.toInt64 (nI (slL B p)) : Int64) = lN (slL B p) from lN_of (by omega)]
      refine lv_ladd hx hb dX11_sleep_181 ?_
      rw [show (((lN (B (98 + p))) + (lN (slL B p))) : Int64) = (lN ((B (98 + p)) + (slL B p))) from lN_add (B (98 + p)) (slL B p)]
      refine r_last hx hb hW 66 rfl (g_lt hG (by decide)) (g_kd hG (by decide) rfl) (g_ix hG (c := 560) (by decide) rfl (n_inI (by omega) (by decide))) (rj S 66 (va_up (va_up (va_up (va_up (va_up (gj S 66) 0 (lN (slW B p))) 0 (lN (min 999 (slW B p + slL B p)))) (66 + p) (lN ((B (66 + p)) + 1))) (82 + p) (lN ((B (82 + p)) + (slF B p)))) ((nI (98 + p))).toNatClampNeg (lN ((B (98 + p)) + (slL B p))))) (va_up (va_up (va_up (va_up (gj S 66) 0 (lN (slW B p))) 0 (lN (min 999 (slW B p + slL B p)))) (66 + p) (lN ((B (66 + p)) + 1))) (82 + p) (lN ((B (82 + p)) + (slF B p)))) (e_js _ _ _) (e_js _ _ _) rfl rfl c_j dX11_sleep_182 (fun H locs hW => ?_)
      rw [show ((nI (98 + p))).toNatClampNeg = (98 + p) from n_clamp (by omega)] at hW
      refine lv_aload_n hx hb dX11_sleep_183 rfl (lv_at hl 7 rfl) ?_
      refine r_getr (ci := 10) (C := RX11) (T := TX11) (N := 20) hx hb hts iX11 hown hW rfl 65 0 rfl (g_lt hG (by decide)) (g_kd hG (by decide) rfl) (by decide) q0 (fun _ h9 => h9) (hP _ (List.mem_of_getElem? (i := 60) rfl)) rfl rfl dX11_sleep_184 ?_
      refine lv_bipush (v := 114) hx hb dX11_sleep_187 (by decide) ?_
      refine lv_iload_n hx hb dX11_sleep_189 rfl (lv_at hl 8 rfl) ?_
      refine lv_iadd hx hb dX11_sleep_190 ?_
      rw [show ((114 + (nI p)) : Int32) = (nI (114 + p)) from n_add 114 p]
      refine lv_dup2_11 hx hb dX11_sleep_191 rfl rfl ?_
      refine r_lald hx hb hW 66 rfl (g_lt hG (by decide)) (g_kd hG (by decide) rfl) (g_ix hG (c := 560) (by decide) rfl (n_inI (by omega) (by decide))) (lN (B (114 + p))) ((congrFun (e_js _ _ _) _).trans (by rw [n_clamp (by omega)]; exact ((up_n _ _ (by omega)).trans ((up_n _ _ (by omega)).trans ((up_n _ _ (by omega)).trans ((up_n _ _ (by omega)).trans ((up_n _ _ (by omega)).trans (hM (114 + p) (by omega))))))))) dX11_sleep_192 ?_
      refine lv_iload hx hb dX11_sleep_193 (lv_at hl 1 rfl) ?_
      refine lv_iload hx hb dX11_sleep_195 (lv_at hl 0 rfl) ?_
      refine lv_isub hx hb dX11_sleep_197 ?_
      rw [show (((nI (dueN (B 3) (B 1) (B 2) (B (18 + p)))) - (nI (slL B p))) : Int32) = (nI (slD B p - slL B p)) from n_sub hLD]
      refine lv_i2l hx hb dX11_sleep_198 rfl ?_
      rw [show (Int32.toInt64 (nI (slD B p - slL B p)) : Int64) = lN (slD B p - slL B p) from lN_of (by omega)]
      refine lv_ladd hx hb dX11_sleep_199 ?_
      rw [show (((lN (B (114 + p))) + (lN (slD B p - slL B p))) : Int64) = (lN ((B (114 + p)) + (slD B p - slL B p))) from lN_add (B (114 + p)) (slD B p - slL B p)]
      refine r_last hx hb hW 66 rfl (g_lt hG (by decide)) (g_kd hG (by decide) rfl) (g_ix hG (c := 560) (by decide) rfl (n_inI (by omega) (by decide))) (rj S 66 (va_up (va_up (va_up (va_up (va_up (va_up (gj S 66) 0 (lN (slW B p))) 0 (lN (min 999 (slW B p + slL B p)))) (66 + p) (lN ((B (66 + p)) + 1))) (82 + p) (lN ((B (82 + p)) + (slF B p)))) (98 + p) (lN ((B (98 + p)) + (slL B p)))) ((nI (114 + p))).toNatClampNeg (lN ((B (114 + p)) + (slD B p - slL B p))))) (va_up (va_up (va_up (va_up (va_up (gj S 66) 0 (lN (slW B p))) 0 (lN (min 999 (slW B p + slL B p)))) (66 + p) (lN ((B (66 + p)) + 1))) (82 + p) (lN ((B (82 + p)) + (slF B p)))) (98 + p) (lN ((B (98 + p)) + (slL B p)))) (e_js _ _ _) (e_js _ _ _) rfl rfl c_j dX11_sleep_200 (fun H locs hW => ?_)
      rw [show ((nI (114 + p))).toNatClampNeg = (114 + p) from n_clamp (by omega)] at hW
      refine lv_aload_n hx hb dX11_sleep_201 rfl (lv_at hl 7 rfl) ?_
      refine r_getr (ci := 10) (C := RX11) (T := TX11) (N := 20) hx hb hts iX11 hown hW rfl 65 0 rfl (g_lt hG (by decide)) (g_kd hG (by decide) rfl) (by decide) q0 (fun _ h9 => h9) (hP _ (List.mem_of_getElem? (i := 60) rfl)) rfl rfl dX11_sleep_202 ?_
      refine lv_sipush (v := 130) hx hb dX11_sleep_205 (by decide) ?_
      refine W.eq (g2 := F0 mM 208 ls [.int (nI 130), .ref (gA G 66)]) rfl ?_
      refine lv_dup2_11 hx hb dX11_sleep_208 rfl rfl ?_
      refine r_lald hx hb hW 66 rfl (g_lt hG (by decide)) (g_kd hG (by decide) rfl) (g_ix hG (c := 560) (by decide) rfl (n_inI (by omega) (by decide))) (lN (B 130)) ((congrFun (e_js _ _ _) _).trans (by rw [n_clamp (by omega)]; exact ((up_n _ _ (by omega)).trans ((up_n _ _ (by omega)).trans ((up_n _ _ (by omega)).trans ((up_n _ _ (by omega)).trans ((up_n _ _ (by omega)).trans ((up_n _ _ (by omega)).trans (hM 130 (by omega)))))))))) dX11_sleep_209 ?_
      refine lv_lconst (v := 1) hx hb dX11_sleep_210 (by decide) ?_
      refine lv_ladd hx hb dX11_sleep_211 ?_
      rw [show (((lN (B 130)) + 1) : Int64) = (lN ((B 130) + 1)) from lN_add (B 130) 1]
      refine r_last hx hb hW 66 rfl (g_lt hG (by decide)) (g_kd hG (by decide) rfl) (g_ix hG (c := 560) (by decide) rfl (n_inI (by omega) (by decide))) (rj S 66 (va_up (va_up (va_up (va_up (va_up (va_up (va_up (gj S 66) 0 (lN (slW B p))) 0 (lN (min 999 (slW B p + slL B p)))) (66 + p) (lN ((B (66 + p)) + 1))) (82 + p) (lN ((B (82 + p)) + (slF B p)))) (98 + p) (lN ((B (98 + p)) + (slL B p)))) (114 + p) (lN ((B (114 + p)) + (slD B p - slL B p)))) ((nI 130)).toNatClampNeg (lN ((B 130) + 1)))) (va_up (va_up (va_up (va_up (va_up (va_up (gj S 66) 0 (lN (slW B p))) 0 (lN (min 999 (slW B p + slL B p)))) (66 + p) (lN ((B (66 + p)) + 1))) (82 + p) (lN ((B (82 + p)) + (slF B p)))) (98 + p) (lN ((B (98 + p)) + (slL B p)))) (114 + p) (lN ((B (114 + p)) + (slD B p - slL B p)))) (e_js _ _ _) (e_js _ _ _) rfl rfl c_j dX11_sleep_212 (fun H locs hW => ?_)
      rw [show ((nI 130)).toNatClampNeg = 130 from n_clamp (by omega)] at hW
      refine lv_aload_n hx hb dX11_sleep_213 rfl (lv_at hl 7 rfl) ?_
      refine r_getr (ci := 10) (C := RX11) (T := TX11) (N := 20) hx hb hts iX11 hown hW rfl 65 0 rfl (g_lt hG (by decide)) (g_kd hG (by decide) rfl) (by decide) q0 (fun _ h9 => h9) (hP _ (List.mem_of_getElem? (i := 60) rfl)) rfl rfl dX11_sleep_214 ?_
      refine lv_sipush (v := 131) hx hb dX11_sleep_217 (by decide) ?_
      refine W.eq (g2 := F0 mM 220 ls [.int (nI 131), .ref (gA G 66)]) rfl ?_
      refine lv_dup2_11 hx hb dX11_sleep_220 rfl rfl ?_
      refine r_lald hx hb hW 66 rfl (g_lt hG (by decide)) (g_kd hG (by decide) rfl) (g_ix hG (c := 560) (by decide) rfl (n_inI (by omega) (by decide))) (lN (B 131)) ((congrFun (e_js _ _ _) _).trans (by rw [n_clamp (by omega)]; exact ((up_n _ _ (by omega)).trans ((up_n _ _ (by omega)).trans ((up_n _ _ (by omega)).trans ((up_n _ _ (by omega)).trans ((up_n _ _ (by omega)).trans ((up_n _ _ (by omega)).trans ((up_n _ _ (by omega)).trans (hM 131 (by omega))))))))))) dX11_sleep_221 ?_
      refine lv_iload hx hb dX11_sleep_222 (lv_at hl 2 rfl) ?_
      refine lv_i2l hx hb dX11_sleep_224 rfl ?_
      rw [show (Int32.toInt64 (nI (slF B p)) : Int64) = lN (slF B p) from lN_of (by omega)]
      refine lv_ladd hx hb dX11_sleep_225 ?_
      rw [show (((lN (B 131)) + (lN (slF B p))) : Int64) = (lN ((B 131) + (slF B p))) from lN_add (B 131) (slF B p)]
      refine r_last hx hb hW 66 rfl (g_lt hG (by decide)) (g_kd hG (by decide) rfl) (g_ix hG (c := 560) (by decide) rfl (n_inI (by omega) (by decide))) (rj S 66 (va_up (va_up (va_up (va_up (va_up (va_up (va_up (va_up (gj S 66) 0 (lN (slW B p))) 0 (lN (min 999 (slW B p + slL B p)))) (66 + p) (lN ((B (66 + p)) + 1))) (82 + p) (lN ((B (82 + p)) + (slF B p)))) (98 + p) (lN ((B (98 + p)) + (slL B p)))) (114 + p) (lN ((B (114 + p)) + (slD B p - slL B p)))) 130 (lN ((B 130) + 1))) ((nI 131)).toNatClampNeg (lN ((B 131) + (slF B p))))) (va_up (va_up (va_up (va_up (va_up (va_up (va_up (gj S 66) 0 (lN (slW B p))) 0 (lN (min 999 (slW B p + slL B p)))) (66 + p) (lN ((B (66 + p)) + 1))) (82 + p) (lN ((B (82 + p)) + (slF B p)))) (98 + p) (lN ((B (98 + p)) + (slL B p)))) (114 + p) (lN ((B (114 + p)) + (slD B p - slL B p)))) 130 (lN ((B 130) + 1))) (e_js _ _ _) (e_js _ _ _) rfl rfl c_j dX11_sleep_226 (fun H locs hW => ?_)
      rw [show ((nI 131)).toNatClampNeg = 131 from n_clamp (by omega)] at hW
      refine lv_iload hx hb dX11_sleep_227 (lv_at hl 2 rfl) ?_
      refine r_iret hx hb hr hlocks hW ?_ dX11_sleep_229
      refine ⟨rfl, _, rfl, fun k hk => ?_, fun k hk => ?_⟩
      · rcases (show k = 0 ∨ k = 66 + p ∨ k = 82 + p ∨ k = 98 + p ∨ k = 114 + p ∨ k = 130 ∨ k = 131 ∨ (k ≠ 0 ∧ k ≠ 66 + p ∧ k ≠ 82 + p ∧ k ≠ 98 + p ∧ k ≠ 114 + p ∧ k ≠ 130 ∧ k ≠ 131) by omega) with e | e | e | e | e | e | e | e
        · rw [e, up_n _ _ (by omega), up_n _ _ (by omega), up_n _ _ (by omega), up_n _ _ (by omega), up_n _ _ (by omega), up_n _ _ (by omega), up_s]; unfold slB; rw [if_pos rfl]
        · rw [e, up_n _ _ (by omega), up_n _ _ (by omega), up_n _ _ (by omega), up_n _ _ (by omega), up_n _ _ (by omega), up_s]; unfold slB; rw [if_neg (by omega), if_pos rfl]
        · rw [e, up_n _ _ (by omega), up_n _ _ (by omega), up_n _ _ (by omega), up_n _ _ (by omega), up_s]; unfold slB; rw [if_neg (by omega), if_neg (by omega), if_pos rfl]
        · rw [e, up_n _ _ (by omega), up_n _ _ (by omega), up_n _ _ (by omega), up_s]; unfold slB; rw [if_neg (by omega), if_neg (by omega), if_neg (by omega), if_pos rfl]
        · rw [e, up_n _ _ (by omega), up_n _ _ (by omega), up_s]; unfold slB; rw [if_neg (by omega), if_neg (by omega), if_neg (by omega), if_neg (by omega), if_pos rfl]
        · rw [e, up_n _ _ (by omega), up_s]; unfold slB; rw [if_neg (by omega), if_neg (by omega), if_neg (by omega), if_neg (by omega), if_neg (by omega), if_pos rfl]
        · rw [e, up_s]; unfold slB; rw [if_neg (by omega), if_neg (by omega), if_neg (by omega), if_neg (by omega), if_neg (by omega), if_neg (by omega), if_pos rfl]
        · rw [up_n _ _ (by omega), up_n _ _ (by omega), up_n _ _ (by omega), up_n _ _ (by omega), up_n _ _ (by omega), up_n _ _ (by omega), up_n _ _ (by omega), up_n _ _ (by omega)]; unfold slB; rw [if_neg (by omega), if_neg (by omega), if_neg (by omega), if_neg (by omega), if_neg (by omega), if_neg (by omega), if_neg (by omega)]; exact hM k hk
      · rw [up_n _ _ (by omega), up_n _ _ (by omega), up_n _ _ (by omega), up_n _ _ (by omega), up_n _ _ (by omega), up_n _ _ (by omega), up_n _ _ (by omega), up_n _ _ (by omega)]
    · skip
      rw [lc_le] at c120
      rw [lN_int (by omega), show (999 : Int64).toInt = 999 from by decide] at c120
      refine lv_ldc2 (v := (999)) hx hb hown q1 dX11_sleep_123 ?_
      refine lv_goto (tgt := 139) hx hb dX11_sleep_126 (by decide) ?_
      have ez : ((999) : Int64) = (lN (min 999 (slW B p + slL B p))) := by rw [show min 999 (slW B p + slL B p) = 999 by omega]; rfl
      refine W.eq (g2 := F0 mM 139 ls [.long (lN (min 999 (slW B p + slL B p))), .int 0, .ref (gA G 66)]) (by rw [← ez]) ?_
      refine W.eq (g2 := F0 mM 139 ls [.long (lN (min 999 (slW B p + slL B p))), .int (nI 0), .ref (gA G 66)]) rfl ?_
      refine r_last hx hb hW 66 rfl (g_lt hG (by decide)) (g_kd hG (by decide) rfl) (g_ix hG (c := 560) (by decide) rfl (n_inI (by omega) (by decide))) (rj S 66 (va_up (va_up (gj S 66) 0 (lN (slW B p))) ((nI 0)).toNatClampNeg (lN (min 999 (slW B p + slL B p))))) (va_up (gj S 66) 0 (lN (slW B p))) (e_js _ _ _) (e_js _ _ _) rfl rfl c_j dX11_sleep_139 (fun H locs hW => ?_)
      rw [show ((nI 0)).toNatClampNeg = 0 from n_clamp (by omega)] at hW
      refine lv_aload_n hx hb dX11_sleep_140 rfl (lv_at hl 7 rfl) ?_
      refine r_getr (ci := 10) (C := RX11) (T := TX11) (N := 20) hx hb hts iX11 hown hW rfl 65 0 rfl (g_lt hG (by decide)) (g_kd hG (by decide) rfl) (by decide) q0 (fun _ h9 => h9) (hP _ (List.mem_of_getElem? (i := 60) rfl)) rfl rfl dX11_sleep_141 ?_
      refine lv_bipush (v := 66) hx hb dX11_sleep_144 (by decide) ?_
      refine lv_iload_n hx hb dX11_sleep_146 rfl (lv_at hl 8 rfl) ?_
      refine lv_iadd hx hb dX11_sleep_147 ?_
      rw [show ((66 + (nI p)) : Int32) = (nI (66 + p)) from n_add 66 p]
      refine lv_dup2_11 hx hb dX11_sleep_148 rfl rfl ?_
      refine r_lald hx hb hW 66 rfl (g_lt hG (by decide)) (g_kd hG (by decide) rfl) (g_ix hG (c := 560) (by decide) rfl (n_inI (by omega) (by decide))) (lN (B (66 + p))) ((congrFun (e_js _ _ _) _).trans (by rw [n_clamp (by omega)]; exact ((up_n _ _ (by omega)).trans ((up_n _ _ (by omega)).trans (hM (66 + p) (by omega)))))) dX11_sleep_149 ?_
      refine lv_lconst (v := 1) hx hb dX11_sleep_150 (by decide) ?_
      refine lv_ladd hx hb dX11_sleep_151 ?_
      rw [show (((lN (B (66 + p))) + 1) : Int64) = (lN ((B (66 + p)) + 1)) from lN_add (B (66 + p)) 1]
      refine r_last hx hb hW 66 rfl (g_lt hG (by decide)) (g_kd hG (by decide) rfl) (g_ix hG (c := 560) (by decide) rfl (n_inI (by omega) (by decide))) (rj S 66 (va_up (va_up (va_up (gj S 66) 0 (lN (slW B p))) 0 (lN (min 999 (slW B p + slL B p)))) ((nI (66 + p))).toNatClampNeg (lN ((B (66 + p)) + 1)))) (va_up (va_up (gj S 66) 0 (lN (slW B p))) 0 (lN (min 999 (slW B p + slL B p)))) (e_js _ _ _) (e_js _ _ _) rfl rfl c_j dX11_sleep_152 (fun H locs hW => ?_)
      rw [show ((nI (66 + p))).toNatClampNeg = (66 + p) from n_clamp (by omega)] at hW
      refine lv_aload_n hx hb dX11_sleep_153 rfl (lv_at hl 7 rfl) ?_
      refine r_getr (ci := 10) (C := RX11) (T := TX11) (N := 20) hx hb hts iX11 hown hW rfl 65 0 rfl (g_lt hG (by decide)) (g_kd hG (by decide) rfl) (by decide) q0 (fun _ h9 => h9) (hP _ (List.mem_of_getElem? (i := 60) rfl)) rfl rfl dX11_sleep_154 ?_
      refine lv_bipush (v := 82) hx hb dX11_sleep_157 (by decide) ?_
      refine lv_iload_n hx hb dX11_sleep_159 rfl (lv_at hl 8 rfl) ?_
      refine lv_iadd hx hb dX11_sleep_160 ?_
      rw [show ((82 + (nI p)) : Int32) = (nI (82 + p)) from n_add 82 p]
      refine lv_dup2_11 hx hb dX11_sleep_161 rfl rfl ?_
      refine r_lald hx hb hW 66 rfl (g_lt hG (by decide)) (g_kd hG (by decide) rfl) (g_ix hG (c := 560) (by decide) rfl (n_inI (by omega) (by decide))) (lN (B (82 + p))) ((congrFun (e_js _ _ _) _).trans (by rw [n_clamp (by omega)]; exact ((up_n _ _ (by omega)).trans ((up_n _ _ (by omega)).trans ((up_n _ _ (by omega)).trans (hM (82 + p) (by omega))))))) dX11_sleep_162 ?_
      refine lv_iload hx hb dX11_sleep_163 (lv_at hl 2 rfl) ?_
      refine lv_i2l hx hb dX11_sleep_165 rfl ?_
      rw [show (Int32.toInt64 (nI (slF B p)) : Int64) = lN (slF B p) from lN_of (by omega)]
      refine lv_ladd hx hb dX11_sleep_166 ?_
      rw [show (((lN (B (82 + p))) + (lN (slF B p))) : Int64) = (lN ((B (82 + p)) + (slF B p))) from lN_add (B (82 + p)) (slF B p)]
      refine r_last hx hb hW 66 rfl (g_lt hG (by decide)) (g_kd hG (by decide) rfl) (g_ix hG (c := 560) (by decide) rfl (n_inI (by omega) (by decide))) (rj S 66 (va_up (va_up (va_up (va_up (gj S 66) 0 (lN (slW B p))) 0 (lN (min 999 (slW B p + slL B p)))) (66 + p) (lN ((B (66 + p)) + 1))) ((nI (82 + p))).toNatClampNeg (lN ((B (82 + p)) + (slF B p))))) (va_up (va_up (va_up (gj S 66) 0 (lN (slW B p))) 0 (lN (min 999 (slW B p + slL B p)))) (66 + p) (lN ((B (66 + p)) + 1))) (e_js _ _ _) (e_js _ _ _) rfl rfl c_j dX11_sleep_167 (fun H locs hW => ?_)
      rw [show ((nI (82 + p))).toNatClampNeg = (82 + p) from n_clamp (by omega)] at hW
      refine lv_aload_n hx hb dX11_sleep_168 rfl (lv_at hl 7 rfl) ?_
      refine r_getr (ci := 10) (C := RX11) (T := TX11) (N := 20) hx hb hts iX11 hown hW rfl 65 0 rfl (g_lt hG (by decide)) (g_kd hG (by decide) rfl) (by decide) q0 (fun _ h9 => h9) (hP _ (List.mem_of_getElem? (i := 60) rfl)) rfl rfl dX11_sleep_169 ?_
      refine lv_bipush (v := 98) hx hb dX11_sleep_172 (by decide) ?_
      refine lv_iload_n hx hb dX11_sleep_174 rfl (lv_at hl 8 rfl) ?_
      refine lv_iadd hx hb dX11_sleep_175 ?_
      rw [show ((98 + (nI p)) : Int32) = (nI (98 + p)) from n_add 98 p]
      refine lv_dup2_11 hx hb dX11_sleep_176 rfl rfl ?_
      refine r_lald hx hb hW 66 rfl (g_lt hG (by decide)) (g_kd hG (by decide) rfl) (g_ix hG (c := 560) (by decide) rfl (n_inI (by omega) (by decide))) (lN (B (98 + p))) ((congrFun (e_js _ _ _) _).trans (by rw [n_clamp (by omega)]; exact ((up_n _ _ (by omega)).trans ((up_n _ _ (by omega)).trans ((up_n _ _ (by omega)).trans ((up_n _ _ (by omega)).trans (hM (98 + p) (by omega)))))))) dX11_sleep_177 ?_
      refine lv_iload hx hb dX11_sleep_178 (lv_at hl 0 rfl) ?_
      refine lv_i2l hx hb dX11_sleep_180 rfl ?_
      rw [show (Int32.toInt64 (nI (slL B p)) : Int64) = lN (slL B p) from lN_of (by omega)]
      refine lv_ladd hx hb dX11_sleep_181 ?_
      rw [show (((lN (B (98 + p))) + (lN (slL B p))) : Int64) = (lN ((B (98 + p)) + (slL B p))) from lN_add (B (98 + p)) (slL B p)]
      refine r_last hx hb hW 66 rfl (g_lt hG (by decide)) (g_kd hG (by decide) rfl) (g_ix hG (c := 560) (by decide) rfl (n_inI (by omega) (by decide))) (rj S 66 (va_up (va_up (va_up (va_up (va_up (gj S 66) 0 (lN (slW B p))) 0 (lN (min 999 (slW B p + slL B p)))) (66 + p) (lN ((B (66 + p)) + 1))) (82 + p) (lN ((B (82 + p)) + (slF B p)))) ((nI (98 + p))).toNatClampNeg (lN ((B (98 + p)) + (slL B p))))) (va_up (va_up (va_up (va_up (gj S 66) 0 (lN (slW B p))) 0 (lN (min 999 (slW B p + slL B p)))) (66 + p) (lN ((B (66 + p)) + 1))) (82 + p) (lN ((B (82 + p)) + (slF B p)))) (e_js _ _ _) (e_js _ _ _) rfl rfl c_j dX11_sleep_182 (fun H locs hW => ?_)
      rw [show ((nI (98 + p))).toNatClampNeg = (98 + p) from n_clamp (by omega)] at hW
      refine lv_aload_n hx hb dX11_sleep_183 rfl (lv_at hl 7 rfl) ?_
      refine r_getr (ci := 10) (C := RX11) (T := TX11) (N := 20) hx hb hts iX11 hown hW rfl 65 0 rfl (g_lt hG (by decide)) (g_kd hG (by decide) rfl) (by decide) q0 (fun _ h9 => h9) (hP _ (List.mem_of_getElem? (i := 60) rfl)) rfl rfl dX11_sleep_184 ?_
      refine lv_bipush (v := 114) hx hb dX11_sleep_187 (by decide) ?_
      refine lv_iload_n hx hb dX11_sleep_189 rfl (lv_at hl 8 rfl) ?_
      refine lv_iadd hx hb dX11_sleep_190 ?_
      rw [show ((114 + (nI p)) : Int32) = (nI (114 + p)) from n_add 114 p]
      refine lv_dup2_11 hx hb dX11_sleep_191 rfl rfl ?_
      refine r_lald hx hb hW 66 rfl (g_lt hG (by decide)) (g_kd hG (by decide) rfl) (g_ix hG (c := 560) (by decide) rfl (n_inI (by omega) (by decide))) (lN (B (114 + p))) ((congrFun (e_js _ _ _) _).trans (by rw [n_clamp (by omega)]; exact ((up_n _ _ (by omega)).trans ((up_n _ _ (by omega)).trans ((up_n _ _ (by omega)).trans ((up_n _ _ (by omega)).trans ((up_n _ _ (by omega)).trans (hM (114 + p) (by omega))))))))) dX11_sleep_192 ?_
      refine lv_iload hx hb dX11_sleep_193 (lv_at hl 1 rfl) ?_
      refine lv_iload hx hb dX11_sleep_195 (lv_at hl 0 rfl) ?_
      refine lv_isub hx hb dX11_sleep_197 ?_
      rw [show (((nI (dueN (B 3) (B 1) (B 2) (B (18 + p)))) - (nI (slL B p))) : Int32) = (nI (slD B p - slL B p)) from n_sub hLD]
      refine lv_i2l hx hb dX11_sleep_198 rfl ?_
      rw [show (Int32.toInt64 (nI (slD B p - slL B p)) : Int64) = lN (slD B p - slL B p) from lN_of (by omega)]
      refine lv_ladd hx hb dX11_sleep_199 ?_
      rw [show (((lN (B (114 + p))) + (lN (slD B p - slL B p))) : Int64) = (lN ((B (114 + p)) + (slD B p - slL B p))) from lN_add (B (114 + p)) (slD B p - slL B p)]
      refine r_last hx hb hW 66 rfl (g_lt hG (by decide)) (g_kd hG (by decide) rfl) (g_ix hG (c := 560) (by decide) rfl (n_inI (by omega) (by decide))) (rj S 66 (va_up (va_up (va_up (va_up (va_up (va_up (gj S 66) 0 (lN (slW B p))) 0 (lN (min 999 (slW B p + slL B p)))) (66 + p) (lN ((B (66 + p)) + 1))) (82 + p) (lN ((B (82 + p)) + (slF B p)))) (98 + p) (lN ((B (98 + p)) + (slL B p)))) ((nI (114 + p))).toNatClampNeg (lN ((B (114 + p)) + (slD B p - slL B p))))) (va_up (va_up (va_up (va_up (va_up (gj S 66) 0 (lN (slW B p))) 0 (lN (min 999 (slW B p + slL B p)))) (66 + p) (lN ((B (66 + p)) + 1))) (82 + p) (lN ((B (82 + p)) + (slF B p)))) (98 + p) (lN ((B (98 + p)) + (slL B p)))) (e_js _ _ _) (e_js _ _ _) rfl rfl c_j dX11_sleep_200 (fun H locs hW => ?_)
      rw [show ((nI (114 + p))).toNatClampNeg = (114 + p) from n_clamp (by omega)] at hW
      refine lv_aload_n hx hb dX11_sleep_201 rfl (lv_at hl 7 rfl) ?_
      refine r_getr (ci := 10) (C := RX11) (T := TX11) (N := 20) hx hb hts iX11 hown hW rfl 65 0 rfl (g_lt hG (by decide)) (g_kd hG (by decide) rfl) (by decide) q0 (fun _ h9 => h9) (hP _ (List.mem_of_getElem? (i := 60) rfl)) rfl rfl dX11_sleep_202 ?_
      refine lv_sipush (v := 130) hx hb dX11_sleep_205 (by decide) ?_
      refine W.eq (g2 := F0 mM 208 ls [.int (nI 130), .ref (gA G 66)]) rfl ?_
      refine lv_dup2_11 hx hb dX11_sleep_208 rfl rfl ?_
      refine r_lald hx hb hW 66 rfl (g_lt hG (by decide)) (g_kd hG (by decide) rfl) (g_ix hG (c := 560) (by decide) rfl (n_inI (by omega) (by decide))) (lN (B 130)) ((congrFun (e_js _ _ _) _).trans (by rw [n_clamp (by omega)]; exact ((up_n _ _ (by omega)).trans ((up_n _ _ (by omega)).trans ((up_n _ _ (by omega)).trans ((up_n _ _ (by omega)).trans ((up_n _ _ (by omega)).trans ((up_n _ _ (by omega)).trans (hM 130 (by omega)))))))))) dX11_sleep_209 ?_
      refine lv_lconst (v := 1) hx hb dX11_sleep_210 (by decide) ?_
      refine lv_ladd hx hb dX11_sleep_211 ?_
      rw [show (((lN (B 130)) + 1) : Int64) = (lN ((B 130) + 1)) from lN_add (B 130) 1]
      refine r_last hx hb hW 66 rfl (g_lt hG (by decide)) (g_kd hG (by decide) rfl) (g_ix hG (c := 560) (by decide) rfl (n_inI (by omega) (by decide))) (rj S 66 (va_up (va_up (va_up (va_up (va_up (va_up (va_up (gj S 66) 0 (lN (slW B p))) 0 (lN (min 999 (slW B p + slL B p)))) (66 + p) (lN ((B (66 + p)) + 1))) (82 + p) (lN ((B (82 + p)) + (slF B p)))) (98 + p) (lN ((B (98 + p)) + (slL B p)))) (114 + p) (lN ((B (114 + p)) + (slD B p - slL B p)))) ((nI 130)).toNatClampNeg (lN ((B 130) + 1)))) (va_up (va_up (va_up (va_up (va_up (va_up (gj S 66) 0 (lN (slW B p))) 0 (lN (min 999 (slW B p + slL B p)))) (66 + p) (lN ((B (66 + p)) + 1))) (82 + p) (lN ((B (82 + p)) + (slF B p)))) (98 + p) (lN ((B (98 + p)) + (slL B p)))) (114 + p) (lN ((B (114 + p)) + (slD B p - slL B p)))) (e_js _ _ _) (e_js _ _ _) rfl rfl c_j dX11_sleep_212 (fun H locs hW => ?_)
      rw [show ((nI 130)).toNatClampNeg = 130 from n_clamp (by omega)] at hW
      refine lv_aload_n hx hb dX11_sleep_213 rfl (lv_at hl 7 rfl) ?_
      refine r_getr (ci := 10) (C := RX11) (T := TX11) (N := 20) hx hb hts iX11 hown hW rfl 65 0 rfl (g_lt hG (by decide)) (g_kd hG (by decide) rfl) (by decide) q0 (fun _ h9 => h9) (hP _ (List.mem_of_getElem? (i := 60) rfl)) rfl rfl dX11_sleep_214 ?_
      refine lv_sipush (v := 131) hx hb dX11_sleep_217 (by decide) ?_
      refine W.eq (g2 := F0 mM 220 ls [.int (nI 131), .ref (gA G 66)]) rfl ?_
      refine lv_dup2_11 hx hb dX11_sleep_220 rfl rfl ?_
      refine r_lald hx hb hW 66 rfl (g_lt hG (by decide)) (g_kd hG (by decide) rfl) (g_ix hG (c := 560) (by decide) rfl (n_inI (by omega) (by decide))) (lN (B 131)) ((congrFun (e_js _ _ _) _).trans (by rw [n_clamp (by omega)]; exact ((up_n _ _ (by omega)).trans ((up_n _ _ (by omega)).trans ((up_n _ _ (by omega)).trans ((up_n _ _ (by omega)).trans ((up_n _ _ (by omega)).trans ((up_n _ _ (by omega)).trans ((up_n _ _ (by omega)).trans (hM 131 (by omega))))))))))) dX11_sleep_221 ?_
      refine lv_iload hx hb dX11_sleep_222 (lv_at hl 2 rfl) ?_
      refine lv_i2l hx hb dX11_sleep_224 rfl ?_
      rw [show (Int32.toInt64 (nI (slF B p)) : Int64) = lN (slF B p) from lN_of (by omega)]
      refine lv_ladd hx hb dX11_sleep_225 ?_
      rw [show (((lN (B 131)) + (lN (slF B p))) : Int64) = (lN ((B 131) + (slF B p))) from lN_add (B 131) (slF B p)]
      refine r_last hx hb hW 66 rfl (g_lt hG (by decide)) (g_kd hG (by decide) rfl) (g_ix hG (c := 560) (by decide) rfl (n_inI (by omega) (by decide))) (rj S 66 (va_up (va_up (va_up (va_up (va_up (va_up (va_up (va_up (gj S 66) 0 (lN (slW B p))) 0 (lN (min 999 (slW B p + slL B p)))) (66 + p) (lN ((B (66 + p)) + 1))) (82 + p) (lN ((B (82 + p)) + (slF B p)))) (98 + p) (lN ((B (98 + p)) + (slL B p)))) (114 + p) (lN ((B (114 + p)) + (slD B p - slL B p)))) 130 (lN ((B 130) + 1))) ((nI 131)).toNatClampNeg (lN ((B 131) + (slF B p))))) (va_up (va_up (va_up (va_up (va_up (va_up (va_up (gj S 66) 0 (lN (slW B p))) 0 (lN (min 999 (slW B p + slL B p)))) (66 + p) (lN ((B (66 + p)) + 1))) (82 + p) (lN ((B (82 + p)) + (slF B p)))) (98 + p) (lN ((B (98 + p)) + (slL B p)))) (114 + p) (lN ((B (114 + p)) + (slD B p - slL B p)))) 130 (lN ((B 130) + 1))) (e_js _ _ _) (e_js _ _ _) rfl rfl c_j dX11_sleep_226 (fun H locs hW => ?_)
      rw [show ((nI 131)).toNatClampNeg = 131 from n_clamp (by omega)] at hW
      refine lv_iload hx hb dX11_sleep_227 (lv_at hl 2 rfl) ?_
      refine r_iret hx hb hr hlocks hW ?_ dX11_sleep_229
      refine ⟨rfl, _, rfl, fun k hk => ?_, fun k hk => ?_⟩
      · rcases (show k = 0 ∨ k = 66 + p ∨ k = 82 + p ∨ k = 98 + p ∨ k = 114 + p ∨ k = 130 ∨ k = 131 ∨ (k ≠ 0 ∧ k ≠ 66 + p ∧ k ≠ 82 + p ∧ k ≠ 98 + p ∧ k ≠ 114 + p ∧ k ≠ 130 ∧ k ≠ 131) by omega) with e | e | e | e | e | e | e | e
        · rw [e, up_n _ _ (by omega), up_n _ _ (by omega), up_n _ _ (by omega), up_n _ _ (by omega), up_n _ _ (by omega), up_n _ _ (by omega), up_s]; unfold slB; rw [if_pos rfl]
        · rw [e, up_n _ _ (by omega), up_n _ _ (by omega), up_n _ _ (by omega), up_n _ _ (by omega), up_n _ _ (by omega), up_s]; unfold slB; rw [if_neg (by omega), if_pos rfl]
        · rw [e, up_n _ _ (by omega), up_n _ _ (by omega), up_n _ _ (by omega), up_n _ _ (by omega), up_s]; unfold slB; rw [if_neg (by omega), if_neg (by omega), if_pos rfl]
        · rw [e, up_n _ _ (by omega), up_n _ _ (by omega), up_n _ _ (by omega), up_s]; unfold slB; rw [if_neg (by omega), if_neg (by omega), if_neg (by omega), if_pos rfl]
        · rw [e, up_n _ _ (by omega), up_n _ _ (by omega), up_s]; unfold slB; rw [if_neg (by omega), if_neg (by omega), if_neg (by omega), if_neg (by omega), if_pos rfl]
        · rw [e, up_n _ _ (by omega), up_s]; unfold slB; rw [if_neg (by omega), if_neg (by omega), if_neg (by omega), if_neg (by omega), if_neg (by omega), if_pos rfl]
        · rw [e, up_s]; unfold slB; rw [if_neg (by omega), if_neg (by omega), if_neg (by omega), if_neg (by omega), if_neg (by omega), if_neg (by omega), if_pos rfl]
        · rw [up_n _ _ (by omega), up_n _ _ (by omega), up_n _ _ (by omega), up_n _ _ (by omega), up_n _ _ (by omega), up_n _ _ (by omega), up_n _ _ (by omega), up_n _ _ (by omega)]; unfold slB; rw [if_neg (by omega), if_neg (by omega), if_neg (by omega), if_neg (by omega), if_neg (by omega), if_neg (by omega), if_neg (by omega)]; exact hM k hk
      · rw [up_n _ _ (by omega), up_n _ _ (by omega), up_n _ _ (by omega), up_n _ _ (by omega), up_n _ _ (by omega), up_n _ _ (by omega), up_n _ _ (by omega), up_n _ _ (by omega)]
