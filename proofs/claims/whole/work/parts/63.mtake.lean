def rmX11_takeNumber : Jvm.Room := { frames := 3, cells := 0, slots := 0, locals := 65 }
set_option maxHeartbeats 4000000 in
set_option maxRecDepth 100000 in
theorem t_X11_takeNumber (l : Launch) (D : Dc) (G : Gg) (S : Sg) (z : Nat) (hG : GrG G) (hP : GrP G S) (T : Nat → Nat) (ts : Nat) (ht4 : ts ≤ 400) (hTB : ∀ i, i < ts → T i ≤ 255) (a : Nat) (hAt : AtM S T ts a) (lo hi : Nat) (hlo : lo ≤ 1000) (hhi : hi ≤ 1000) : MI l yX11_takeNumber wsX11_takeNumber rmX11_takeNumber D G S z [.ref (gA G 65), .int (nI lo), .int (nI hi)] (fun r S' => (∃ v e, pNum T ts lo hi a = .inl (v, e) ∧ r = nI v ∧ OkM S S' T ts e) ∨ (∃ f p, pNum T ts lo hi a = .inr (f, p) ∧ FlM S S' f p)) := by
  refine Met.ofW (cc := cX11_takeNumber) (maxL := 4) (ret := (some .int)) (by decide +kernel) rfl ?_
  intro pP eE s mM args bl mT cD s₁ bD hml hv
  obtain ⟨rfl, hv⟩ := hv
  have hz := hv.1
  subst hz
  have hx := bD.exec
  have hb := bD.bytes
  have hr := bD.returns
  have hts := atoms_spec (ws := wsX11_takeNumber) bD.pre
  have hown : s.vm.findClass RX11 = some mM.cls := findClass_of_methodNamed bD.named
  have hlocks := bD.notSynchronized
  have hW := Wd.start hv
  have hA : ∀ q, s.heap.size ≤ q → AW G s.heap.size q := fun q h => Or.inr h
  have hl := lv_entry ([.ref (gA G 65), .int (nI lo), .int (nI hi)]) (n := 4) (Nat.le_of_ble_eq_true rfl)
  rw [lg_entry_eq]
  generalize (lg_sl ([.ref (gA G 65), .int (nI lo), .int (nI hi)]) ++ List.replicate (4 - (lg_sl ([.ref (gA G 65), .int (nI lo), .int (nI hi)])).length) Slot.unset).toArray = ls at hl ⊢
  have hl : lv_has ls 4 [(0, .ref (gA G 65)), (1, .int (nI lo)), (2, .int (nI hi))] := hl
  have q0 := hts (.fieldLink RX11 109 "WoodForTwoModel" "faultOf" "I") (List.mem_of_getElem? (i := 1) rfl)
  have q1 := hts (.fieldLink RX11 100 "WoodForTwoModel" "token" "I") (List.mem_of_getElem? (i := 2) rfl)
  have q2 := hts (.fieldLink RX11 97 "WoodForTwoModel" "value" "I") (List.mem_of_getElem? (i := 3) rfl)
  have iX11 : ∀ w ∈ wsX110, w ∈ wsX11_takeNumber := fun _ h => List.mem_cons_of_mem _ (List.mem_append_right _ (h))
  refine lv_aload_n hx hb dX11_takeNumber_0 rfl (lv_at hl 0 rfl) ?_
  refine r_geti (ci := 10) (C := RX11) (T := TX11) (N := 20) hx hb hts iX11 hown hW rfl 65 12 rfl (g_lt hG (by decide)) (g_kd hG (by decide) rfl) (by decide) q0 (fun _ h9 => h9) 0 hAt.2.2.2 rfl rfl dX11_takeNumber_1 ?_
  refine lv_if_le (tgt := 9) hx hb dX11_takeNumber_4 (by decide) (fun c4 => ?_) (fun c4 => ?_)
  · skip
    refine lv_aload_n hx hb dX11_takeNumber_9 rfl (lv_at hl 0 rfl) ?_
    refine r_callv hW hA (va_runV (As := []) (rest := []) ⟨hx, hb, hml, hown, hts⟩ (t_X11_goOn l D G S _ hG hP T ts ht4 hTB hAt.1 a hAt.2.2.1 hAt.2.1) (cwV 0 hts gX11_takeNumber_X11_goOn rfl rfl rfl (by decide +kernel) ⟨Nat.le_of_ble_eq_true rfl, Nat.le_of_ble_eq_true rfl⟩) (r_preV (k := 65) hA hW (ci := 10) (C := RX11) (T := TX11) (N := 20) rfl rfl (g_lt hG (by decide)) (g_kd hG (by decide) rfl) rfl rfl) rfl rfl hl.1 rfl (lv_room (Nat.le_of_ble_eq_true rfl)) dX11_takeNumber_10 ⟨Nat.zero_le _, Nat.zero_le _⟩) (fun SG H locs hpG hW => ?_)
    obtain ⟨hTk, hfr, hCg⟩ := hpG
    have hP_SG : GrP G SG := fun q hq => by rw [hCg.1]; exact hP q hq
    have hXG : TpM SG T ts := ⟨(hfr 7 (by decide) (by decide) (by decide) (by decide)).trans hAt.1.1, fun i hi => (congrFun (hCg.2 71 (by decide)).1 i).trans (hAt.1.2 i hi)⟩
    have h12G : gi SG 65 12 = 0 := (hfr 12 (by decide) (by decide) (by decide) (by decide)).trans hAt.2.2.2
    have hle := tE_le (T := T) hAt.2.2.1
    have htl := tS_le (T := T) (ts := ts) (a := a)
    refine lv_aload_n hx hb dX11_takeNumber_13 rfl (lv_at hl 0 rfl) ?_
    refine lv_aload_n hx hb dX11_takeNumber_14 rfl (lv_at hl 0 rfl) ?_
    refine r_geti (ci := 10) (C := RX11) (T := TX11) (N := 20) hx hb hts iX11 hown hW rfl 65 10 rfl (g_lt hG (by decide)) (g_kd hG (by decide) rfl) (by decide) q1 (fun _ h9 => h9) (nI (tS T ts a)) hTk.2.1 rfl rfl dX11_takeNumber_15 ?_
    refine lv_iconst (v := 2) hx hb dX11_takeNumber_18 (by decide) ?_
    refine lv_icmp_ne (tgt := 26) hx hb dX11_takeNumber_19 (by decide) (fun c19 => ?_) (fun c19 => ?_)
    · skip
      have hs2 : ¬ tS T ts a = 2 := fun z => c19 (by rw [z]; rfl)
      refine lv_iconst (v := 0) hx hb dX11_takeNumber_26 (by decide) ?_
      refine lv_iconst (v := 1) hx hb dX11_takeNumber_27 (by decide) ?_
      refine W.eq (g2 := F0 mM 28 ls [.int (nI 1), .int 0, .ref (gA G 65)]) rfl ?_
      refine r_calli hW hA (va_runV (As := [.int 0, .int (nI 1)]) (rest := []) ⟨hx, hb, hml, hown, hts⟩ (t_X11_want_no l D G SG _ hG hP_SG 1 h12G (by decide)) (cwV 2 hts gX11_takeNumber_X11_want rfl rfl rfl (by decide +kernel) ⟨Nat.le_of_ble_eq_true rfl, Nat.le_of_ble_eq_true rfl⟩) (r_preV (k := 65) hA hW (ci := 10) (C := RX11) (T := TX11) (N := 20) rfl rfl (g_lt hG (by decide)) (g_kd hG (by decide) rfl) rfl rfl) rfl rfl hl.1 rfl (lv_room (Nat.le_of_ble_eq_true rfl)) dX11_takeNumber_28 ⟨Nat.zero_le _, Nat.zero_le _⟩) (fun r28 S28 H locs hp28 hW => ?_)
      obtain ⟨rfl, hs28⟩ := hp28
      rw [hs28] at hW
      refine lv_if_eq (tgt := 52) hx hb dX11_takeNumber_31 (by decide) (fun c31 => ?_) (fun c31 => ?_)
      · skip
        refine lv_aload_n hx hb dX11_takeNumber_52 rfl (lv_at hl 0 rfl) ?_
        refine r_geti (ci := 10) (C := RX11) (T := TX11) (N := 20) hx hb hts iX11 hown hW rfl 65 11 rfl (g_lt hG (by decide)) (g_kd hG (by decide) rfl) (by decide) q2 (fun _ h9 => h9) (gi SG 65 11) (congrFun (e_is _ _ _) 11) rfl rfl dX11_takeNumber_53 ?_
        refine r_iret hx hb hr hlocks hW ?_ dX11_takeNumber_56
        refine Or.inr ⟨1, SK T ts a, ?_, ⟨congrFun (e_is _ _ _) 12, (congrFun (e_is _ _ _) 13).trans hTk.1, fun j hj => (congrFun (e_is _ _ _) j).trans ((up_n _ _ (by omega)).trans ((up_n _ _ (by omega)).trans (hfr j (by omega) (by omega) (by omega) (by omega)))), Ch.tr hCg (Ch.ri Ch.rf rfl)⟩⟩
        unfold pNum; rw [if_neg hs2]
      · exact absurd (by decide) c31
    · skip
      have hs2 : tS T ts a = 2 := (n_eq (b := 2) (by omega) (by decide)).mp c19
      have htv := tV_le hs2
      refine lv_iconst (v := 1) hx hb dX11_takeNumber_22 (by decide) ?_
      refine lv_goto (tgt := 27) hx hb dX11_takeNumber_23 (by decide) ?_
      refine lv_iconst (v := 1) hx hb dX11_takeNumber_27 (by decide) ?_
      refine W.eq (g2 := F0 mM 28 ls [.int (nI 1), .int 1, .ref (gA G 65)]) rfl ?_
      refine r_calli hW hA (va_runV (As := [.int 1, .int (nI 1)]) (rest := []) ⟨hx, hb, hml, hown, hts⟩ (t_X11_want_ok l D G SG _ hG hP_SG 1 h12G) (cwV 2 hts gX11_takeNumber_X11_want rfl rfl rfl (by decide +kernel) ⟨Nat.le_of_ble_eq_true rfl, Nat.le_of_ble_eq_true rfl⟩) (r_preV (k := 65) hA hW (ci := 10) (C := RX11) (T := TX11) (N := 20) rfl rfl (g_lt hG (by decide)) (g_kd hG (by decide) rfl) rfl rfl) rfl rfl hl.1 rfl (lv_room (Nat.le_of_ble_eq_true rfl)) dX11_takeNumber_28 ⟨Nat.zero_le _, Nat.zero_le _⟩) (fun r28 S28 H locs hp28 hW => ?_)
      obtain ⟨rfl, hs28⟩ := hp28
      rw [hs28] at hW
      refine lv_if_eq (tgt := 52) hx hb dX11_takeNumber_31 (by decide) (fun c31 => ?_) (fun c31 => ?_)
      · exact absurd c31 (by decide)
      · skip
        refine lv_aload_n hx hb dX11_takeNumber_34 rfl (lv_at hl 0 rfl) ?_
        refine lv_aload_n hx hb dX11_takeNumber_35 rfl (lv_at hl 0 rfl) ?_
        refine r_geti (ci := 10) (C := RX11) (T := TX11) (N := 20) hx hb hts iX11 hown hW rfl 65 11 rfl (g_lt hG (by decide)) (g_kd hG (by decide) rfl) (by decide) q2 (fun _ h9 => h9) (nI (tV T ts a)) (hTk.2.2.2 hs2) rfl rfl dX11_takeNumber_36 ?_
        refine lv_i2l hx hb dX11_takeNumber_39 rfl ?_
        rw [show (Int32.toInt64 (nI (tV T ts a)) : Int64) = lN (tV T ts a) from lN_of (by omega)]
        refine lv_iload_n hx hb dX11_takeNumber_40 rfl (lv_at hl 1 rfl) ?_
        refine lv_i2l hx hb dX11_takeNumber_41 rfl ?_
        rw [show (Int32.toInt64 (nI lo) : Int64) = lN lo from lN_of (by omega)]
        refine lv_iload_n hx hb dX11_takeNumber_42 rfl (lv_at hl 2 rfl) ?_
        refine lv_i2l hx hb dX11_takeNumber_43 rfl ?_
        rw [show (Int32.toInt64 (nI hi) : Int64) = lN hi from lN_of (by omega)]
        refine r_calli hW hA (va_runS (As := [.long (lN (tV T ts a)), .long (lN lo), .long (lN hi)]) (rest := [.ref (gA G 65)]) ⟨hx, hb, hml, hown, hts⟩ (t_X11_in l D G SG _ (lN (tV T ts a)) (lN lo) (lN hi) (((tV T ts a) : Nat) : Int) ((lo : Nat) : Int) ((hi : Nat) : Int) (lN_int (by omega)) (lN_int (by omega)) (lN_int (by omega))) (va_cwS 3 hts gX11_takeNumber_X11_in rfl rfl rfl (by decide +kernel) ⟨Nat.le_of_ble_eq_true rfl, Nat.le_of_ble_eq_true rfl⟩) (r_preS hA hW) rfl rfl hl.1 rfl (lv_room (Nat.le_of_ble_eq_true rfl)) dX11_takeNumber_44 ⟨Nat.zero_le _, Nat.zero_le _⟩) (fun r44 S44 H locs hp44 hW => ?_)
        obtain ⟨hs44, hp44⟩ := hp44
        rw [hs44] at hW
        rcases hp44 with ⟨rfl, h44⟩ | ⟨rfl, h44⟩
        · skip
          refine lv_iconst (v := 2) hx hb dX11_takeNumber_47 (by decide) ?_
          refine W.eq (g2 := F0 mM 48 ls [.int (nI 2), .int 1, .ref (gA G 65)]) rfl ?_
          refine r_calli hW hA (va_runV (As := [.int 1, .int (nI 2)]) (rest := []) ⟨hx, hb, hml, hown, hts⟩ (t_X11_want_ok l D G SG _ hG hP_SG 2 h12G) (cwV 2 hts gX11_takeNumber_X11_want rfl rfl rfl (by decide +kernel) ⟨Nat.le_of_ble_eq_true rfl, Nat.le_of_ble_eq_true rfl⟩) (r_preV (k := 65) hA hW (ci := 10) (C := RX11) (T := TX11) (N := 20) rfl rfl (g_lt hG (by decide)) (g_kd hG (by decide) rfl) rfl rfl) rfl rfl hl.1 rfl (lv_room (Nat.le_of_ble_eq_true rfl)) dX11_takeNumber_48 ⟨Nat.zero_le _, Nat.zero_le _⟩) (fun r48 S48 H locs hp48 hW => ?_)
          obtain ⟨rfl, hs48⟩ := hp48
          rw [hs48] at hW
          refine lv_istore_n (lv' := [(3, .int 1), (0, .ref (gA G 65)), (1, .int (nI lo)), (2, .int (nI hi))]) hx hb dX11_takeNumber_51 rfl hl (by decide) rfl (fun ls hl => ?_)
          refine lv_aload_n hx hb dX11_takeNumber_52 rfl (lv_at hl 1 rfl) ?_
          refine r_geti (ci := 10) (C := RX11) (T := TX11) (N := 20) hx hb hts iX11 hown hW rfl 65 11 rfl (g_lt hG (by decide)) (g_kd hG (by decide) rfl) (by decide) q2 (fun _ h9 => h9) (nI (tV T ts a)) (hTk.2.2.2 hs2) rfl rfl dX11_takeNumber_53 ?_
          refine r_iret hx hb hr hlocks hW ?_ dX11_takeNumber_56
          refine Or.inl ⟨tV T ts a, tE T ts a, ?_, rfl, ⟨⟨hXG, hTk.2.2.1 (by omega), hle.1, h12G⟩, hfr, hCg⟩⟩
          unfold pNum; rw [if_pos hs2, if_pos (by omega)]
        · skip
          refine lv_iconst (v := 2) hx hb dX11_takeNumber_47 (by decide) ?_
          refine W.eq (g2 := F0 mM 48 ls [.int (nI 2), .int 0, .ref (gA G 65)]) rfl ?_
          refine r_calli hW hA (va_runV (As := [.int 0, .int (nI 2)]) (rest := []) ⟨hx, hb, hml, hown, hts⟩ (t_X11_want_no l D G SG _ hG hP_SG 2 h12G (by decide)) (cwV 2 hts gX11_takeNumber_X11_want rfl rfl rfl (by decide +kernel) ⟨Nat.le_of_ble_eq_true rfl, Nat.le_of_ble_eq_true rfl⟩) (r_preV (k := 65) hA hW (ci := 10) (C := RX11) (T := TX11) (N := 20) rfl rfl (g_lt hG (by decide)) (g_kd hG (by decide) rfl) rfl rfl) rfl rfl hl.1 rfl (lv_room (Nat.le_of_ble_eq_true rfl)) dX11_takeNumber_48 ⟨Nat.zero_le _, Nat.zero_le _⟩) (fun r48 S48 H locs hp48 hW => ?_)
          obtain ⟨rfl, hs48⟩ := hp48
          rw [hs48] at hW
          refine lv_istore_n (lv' := [(3, .int 0), (0, .ref (gA G 65)), (1, .int (nI lo)), (2, .int (nI hi))]) hx hb dX11_takeNumber_51 rfl hl (by decide) rfl (fun ls hl => ?_)
          refine lv_aload_n hx hb dX11_takeNumber_52 rfl (lv_at hl 1 rfl) ?_
          refine r_geti (ci := 10) (C := RX11) (T := TX11) (N := 20) hx hb hts iX11 hown hW rfl 65 11 rfl (g_lt hG (by decide)) (g_kd hG (by decide) rfl) (by decide) q2 (fun _ h9 => h9) (nI (tV T ts a)) ((congrFun (e_is _ _ _) 11).trans (hTk.2.2.2 hs2)) rfl rfl dX11_takeNumber_53 ?_
          refine r_iret hx hb hr hlocks hW ?_ dX11_takeNumber_56
          refine Or.inr ⟨2, SK T ts a, ?_, ⟨congrFun (e_is _ _ _) 12, (congrFun (e_is _ _ _) 13).trans hTk.1, fun j hj => (congrFun (e_is _ _ _) j).trans ((up_n _ _ (by omega)).trans ((up_n _ _ (by omega)).trans (hfr j (by omega) (by omega) (by omega) (by omega)))), Ch.tr hCg (Ch.ri Ch.rf rfl)⟩⟩
          unfold pNum; rw [if_pos hs2, if_neg (by omega)]
  · exact absurd (by decide) c4

def rmX11_takeSign : Jvm.Room := { frames := 3, cells := 0, slots := 0, locals := 65 }
set_option maxHeartbeats 4000000 in
set_option maxRecDepth 100000 in
theorem t_X11_takeSign (l : Launch) (D : Dc) (G : Gg) (S : Sg) (z : Nat) (hG : GrG G) (hP : GrP G S) (T : Nat → Nat) (ts : Nat) (ht4 : ts ≤ 400) (hTB : ∀ i, i < ts → T i ≤ 255) (a : Nat) (hAt : AtM S T ts a) : MV l yX11_takeSign wsX11_takeSign rmX11_takeSign D G S z [.ref (gA G 65)] (fun S' => (∃ v e, pSign T ts a = .inl (v, e) ∧ OkM S S' T ts e) ∨ (∃ f p, pSign T ts a = .inr (f, p) ∧ FlM S S' f p)) := by
  refine Met.ofW (cc := cX11_takeSign) (maxL := 2) (ret := none) (by decide +kernel) rfl ?_
  intro pP eE s mM args bl mT cD s₁ bD hml hv
  obtain ⟨rfl, hv⟩ := hv
  have hz := hv.1
  subst hz
  have hx := bD.exec
  have hb := bD.bytes
  have hr := bD.returns
  have hts := atoms_spec (ws := wsX11_takeSign) bD.pre
  have hown : s.vm.findClass RX11 = some mM.cls := findClass_of_methodNamed bD.named
  have hlocks := bD.notSynchronized
  have hW := Wd.start hv
  have hA : ∀ q, s.heap.size ≤ q → AW G s.heap.size q := fun q h => Or.inr h
  have hl := lv_entry ([.ref (gA G 65)]) (n := 2) (Nat.le_of_ble_eq_true rfl)
  rw [lg_entry_eq]
  generalize (lg_sl ([.ref (gA G 65)]) ++ List.replicate (2 - (lg_sl ([.ref (gA G 65)])).length) Slot.unset).toArray = ls at hl ⊢
  have hl : lv_has ls 2 [(0, .ref (gA G 65))] := hl
  have q0 := hts (.fieldLink RX11 109 "WoodForTwoModel" "faultOf" "I") (List.mem_of_getElem? (i := 1) rfl)
  have q1 := hts (.fieldLink RX11 100 "WoodForTwoModel" "token" "I") (List.mem_of_getElem? (i := 2) rfl)
  have iX11 : ∀ w ∈ wsX110, w ∈ wsX11_takeSign := fun _ h => List.mem_cons_of_mem _ (List.mem_append_right _ (h))
  refine lv_aload_n hx hb dX11_takeSign_0 rfl (lv_at hl 0 rfl) ?_
  refine r_geti (ci := 10) (C := RX11) (T := TX11) (N := 20) hx hb hts iX11 hown hW rfl 65 12 rfl (g_lt hG (by decide)) (g_kd hG (by decide) rfl) (by decide) q0 (fun _ h9 => h9) 0 hAt.2.2.2 rfl rfl dX11_takeSign_1 ?_
  refine lv_if_ne (tgt := 30) hx hb dX11_takeSign_4 (by decide) (fun c4 => ?_) (fun c4 => ?_)
  · exact absurd (by decide) c4
  · skip
    refine lv_aload_n hx hb dX11_takeSign_7 rfl (lv_at hl 0 rfl) ?_
    refine r_callv hW hA (va_runV (As := []) (rest := []) ⟨hx, hb, hml, hown, hts⟩ (t_X11_goOn l D G S _ hG hP T ts ht4 hTB hAt.1 a hAt.2.2.1 hAt.2.1) (cwV 0 hts gX11_takeSign_X11_goOn rfl rfl rfl (by decide +kernel) ⟨Nat.le_of_ble_eq_true rfl, Nat.le_of_ble_eq_true rfl⟩) (r_preV (k := 65) hA hW (ci := 10) (C := RX11) (T := TX11) (N := 20) rfl rfl (g_lt hG (by decide)) (g_kd hG (by decide) rfl) rfl rfl) rfl rfl hl.1 rfl (lv_room (Nat.le_of_ble_eq_true rfl)) dX11_takeSign_8 ⟨Nat.zero_le _, Nat.zero_le _⟩) (fun SG H locs hpG hW => ?_)
    obtain ⟨hTk, hfr, hCg⟩ := hpG
    have hP_SG : GrP G SG := fun q hq => by rw [hCg.1]; exact hP q hq
    have hXG : TpM SG T ts := ⟨(hfr 7 (by decide) (by decide) (by decide) (by decide)).trans hAt.1.1, fun i hi => (congrFun (hCg.2 71 (by decide)).1 i).trans (hAt.1.2 i hi)⟩
    have h12G : gi SG 65 12 = 0 := (hfr 12 (by decide) (by decide) (by decide) (by decide)).trans hAt.2.2.2
    have hle := tE_le (T := T) hAt.2.2.1
    have htl := tS_le (T := T) (ts := ts) (a := a)
    refine lv_aload_n hx hb dX11_takeSign_11 rfl (lv_at hl 0 rfl) ?_
    refine lv_aload_n hx hb dX11_takeSign_12 rfl (lv_at hl 0 rfl) ?_
    refine r_geti (ci := 10) (C := RX11) (T := TX11) (N := 20) hx hb hts iX11 hown hW rfl 65 10 rfl (g_lt hG (by decide)) (g_kd hG (by decide) rfl) (by decide) q1 (fun _ h9 => h9) (nI (tS T ts a)) hTk.2.1 rfl rfl dX11_takeSign_13 ?_
    refine lv_iconst (v := 3) hx hb dX11_takeSign_16 (by decide) ?_
    refine lv_icmp_ne (tgt := 24) hx hb dX11_takeSign_17 (by decide) (fun c17 => ?_) (fun c17 => ?_)
    · skip
      have hs3 : ¬ tS T ts a = 3 := fun z => c17 (by rw [z]; rfl)
      refine lv_iconst (v := 0) hx hb dX11_takeSign_24 (by decide) ?_
      refine lv_iconst (v := 1) hx hb dX11_takeSign_25 (by decide) ?_
      refine W.eq (g2 := F0 mM 26 ls [.int (nI 1), .int 0, .ref (gA G 65)]) rfl ?_
      refine r_calli hW hA (va_runV (As := [.int 0, .int (nI 1)]) (rest := []) ⟨hx, hb, hml, hown, hts⟩ (t_X11_want_no l D G SG _ hG hP_SG 1 h12G (by decide)) (cwV 2 hts gX11_takeSign_X11_want rfl rfl rfl (by decide +kernel) ⟨Nat.le_of_ble_eq_true rfl, Nat.le_of_ble_eq_true rfl⟩) (r_preV (k := 65) hA hW (ci := 10) (C := RX11) (T := TX11) (N := 20) rfl rfl (g_lt hG (by decide)) (g_kd hG (by decide) rfl) rfl rfl) rfl rfl hl.1 rfl (lv_room (Nat.le_of_ble_eq_true rfl)) dX11_takeSign_26 ⟨Nat.zero_le _, Nat.zero_le _⟩) (fun r26 S26 H locs hp26 hW => ?_)
      obtain ⟨rfl, hs26⟩ := hp26
      rw [hs26] at hW
      refine lv_istore_n (lv' := [(1, .int 0), (0, .ref (gA G 65))]) hx hb dX11_takeSign_29 rfl hl (by decide) rfl (fun ls hl => ?_)
      refine r_vret hx hb hr hlocks hW ?_ dX11_takeSign_30
      refine Or.inr ⟨1, SK T ts a, ?_, ⟨congrFun (e_is _ _ _) 12, (congrFun (e_is _ _ _) 13).trans hTk.1, fun j hj => (congrFun (e_is _ _ _) j).trans ((up_n _ _ (by omega)).trans ((up_n _ _ (by omega)).trans (hfr j (by omega) (by omega) (by omega) (by omega)))), Ch.tr hCg (Ch.ri Ch.rf rfl)⟩⟩
      unfold pSign; rw [if_neg hs3]
    · skip
      have hs3 : tS T ts a = 3 := (n_eq (b := 3) (by omega) (by decide)).mp c17
      refine lv_iconst (v := 1) hx hb dX11_takeSign_20 (by decide) ?_
      refine lv_goto (tgt := 25) hx hb dX11_takeSign_21 (by decide) ?_
      refine lv_iconst (v := 1) hx hb dX11_takeSign_25 (by decide) ?_
      refine W.eq (g2 := F0 mM 26 ls [.int (nI 1), .int 1, .ref (gA G 65)]) rfl ?_
      refine r_calli hW hA (va_runV (As := [.int 1, .int (nI 1)]) (rest := []) ⟨hx, hb, hml, hown, hts⟩ (t_X11_want_ok l D G SG _ hG hP_SG 1 h12G) (cwV 2 hts gX11_takeSign_X11_want rfl rfl rfl (by decide +kernel) ⟨Nat.le_of_ble_eq_true rfl, Nat.le_of_ble_eq_true rfl⟩) (r_preV (k := 65) hA hW (ci := 10) (C := RX11) (T := TX11) (N := 20) rfl rfl (g_lt hG (by decide)) (g_kd hG (by decide) rfl) rfl rfl) rfl rfl hl.1 rfl (lv_room (Nat.le_of_ble_eq_true rfl)) dX11_takeSign_26 ⟨Nat.zero_le _, Nat.zero_le _⟩) (fun r26 S26 H locs hp26 hW => ?_)
      obtain ⟨rfl, hs26⟩ := hp26
      rw [hs26] at hW
      refine lv_istore_n (lv' := [(1, .int 1), (0, .ref (gA G 65))]) hx hb dX11_takeSign_29 rfl hl (by decide) rfl (fun ls hl => ?_)
      refine r_vret hx hb hr hlocks hW ?_ dX11_takeSign_30
      refine Or.inl ⟨(), tE T ts a, ?_, ⟨⟨hXG, hTk.2.2.1 (by omega), hle.1, h12G⟩, hfr, hCg⟩⟩
      unfold pSign; rw [if_pos hs3]

def rmX11_takeChoice : Jvm.Room := { frames := 3, cells := 0, slots := 0, locals := 65 }
set_option maxHeartbeats 4000000 in
set_option maxRecDepth 100000 in
theorem t_X11_takeChoice_pLaw (l : Launch) (D : Dc) (G : Gg) (S : Sg) (z : Nat) (hG : GrG G) (hP : GrP G S) (T : Nat → Nat) (ts : Nat) (ht4 : ts ≤ 400) (hTB : ∀ i, i < ts → T i ≤ 255) (a : Nat) (hAt : AtM S T ts a) : MI l yX11_takeChoice wsX11_takeChoice rmX11_takeChoice D G S z [.ref (gA G 65), .int 1] (fun r S' => (∃ v e, pLaw T ts a = .inl (v, e) ∧ r = nI v ∧ OkM S S' T ts e) ∨ (∃ f p, pLaw T ts a = .inr (f, p) ∧ FlM S S' f p)) := by
  refine Met.ofW (cc := cX11_takeChoice) (maxL := 4) (ret := (some .int)) (by decide +kernel) rfl ?_
  intro pP eE s mM args bl mT cD s₁ bD hml hv
  obtain ⟨rfl, hv⟩ := hv
  have hz := hv.1
  subst hz
  have hx := bD.exec
  have hb := bD.bytes
  have hr := bD.returns
  have hts := atoms_spec (ws := wsX11_takeChoice) bD.pre
  have hown : s.vm.findClass RX11 = some mM.cls := findClass_of_methodNamed bD.named
  have hlocks := bD.notSynchronized
  have hW := Wd.start hv
  have hA : ∀ q, s.heap.size ≤ q → AW G s.heap.size q := fun q h => Or.inr h
  have hl := lv_entry ([.ref (gA G 65), .int 1]) (n := 4) (Nat.le_of_ble_eq_true rfl)
  rw [lg_entry_eq]
  generalize (lg_sl ([.ref (gA G 65), .int 1]) ++ List.replicate (4 - (lg_sl ([.ref (gA G 65), .int 1])).length) Slot.unset).toArray = ls at hl ⊢
  have hl : lv_has ls 4 [(0, .ref (gA G 65)), (1, .int 1)] := hl
  have q0 := hts (.fieldLink RX11 109 "WoodForTwoModel" "faultOf" "I") (List.mem_of_getElem? (i := 1) rfl)
  have iX11 : ∀ w ∈ wsX110, w ∈ wsX11_takeChoice := fun _ h => List.mem_cons_of_mem _ (List.mem_append_right _ (h))
  refine lv_aload_n hx hb dX11_takeChoice_0 rfl (lv_at hl 0 rfl) ?_
  refine r_geti (ci := 10) (C := RX11) (T := TX11) (N := 20) hx hb hts iX11 hown hW rfl 65 12 rfl (g_lt hG (by decide)) (g_kd hG (by decide) rfl) (by decide) q0 (fun _ h9 => h9) 0 hAt.2.2.2 rfl rfl dX11_takeChoice_1 ?_
  refine lv_if_le (tgt := 9) hx hb dX11_takeChoice_4 (by decide) (fun c4 => ?_) (fun c4 => ?_)
  · skip
    refine lv_aload_n hx hb dX11_takeChoice_9 rfl (lv_at hl 0 rfl) ?_
    refine r_callv hW hA (va_runV (As := []) (rest := []) ⟨hx, hb, hml, hown, hts⟩ (t_X11_goOn l D G S _ hG hP T ts ht4 hTB hAt.1 a hAt.2.2.1 hAt.2.1) (cwV 0 hts gX11_takeChoice_X11_goOn rfl rfl rfl (by decide +kernel) ⟨Nat.le_of_ble_eq_true rfl, Nat.le_of_ble_eq_true rfl⟩) (r_preV (k := 65) hA hW (ci := 10) (C := RX11) (T := TX11) (N := 20) rfl rfl (g_lt hG (by decide)) (g_kd hG (by decide) rfl) rfl rfl) rfl rfl hl.1 rfl (lv_room (Nat.le_of_ble_eq_true rfl)) dX11_takeChoice_10 ⟨Nat.zero_le _, Nat.zero_le _⟩) (fun SG H locs hpG hW => ?_)
    obtain ⟨hTk, hfr, hCg⟩ := hpG
    have hP_SG : GrP G SG := fun q hq => by rw [hCg.1]; exact hP q hq
    have hXG : TpM SG T ts := ⟨(hfr 7 (by decide) (by decide) (by decide) (by decide)).trans hAt.1.1, fun i hi => (congrFun (hCg.2 71 (by decide)).1 i).trans (hAt.1.2 i hi)⟩
    have h12G : gi SG 65 12 = 0 := (hfr 12 (by decide) (by decide) (by decide) (by decide)).trans hAt.2.2.2
    have hle := tE_le (T := T) hAt.2.2.1
    have htl := tS_le (T := T) (ts := ts) (a := a)
    refine lv_iload_n hx hb dX11_takeChoice_13 rfl (lv_at hl 1 rfl) ?_
    refine lv_if_eq (tgt := 87) hx hb dX11_takeChoice_14 (by decide) (fun c14 => ?_) (fun c14 => ?_)
    · exact absurd c14 (by decide)
    · skip
      refine lv_aload_n hx hb dX11_takeChoice_17 rfl (lv_at hl 0 rfl) ?_
      refine lv_iconst (v := 4) hx hb dX11_takeChoice_18 (by decide) ?_
      refine lv_bipush (v := 104) hx hb dX11_takeChoice_19 (by decide) ?_
      refine lv_bipush (v := 101) hx hb dX11_takeChoice_21 (by decide) ?_
      refine lv_bipush (v := 97) hx hb dX11_takeChoice_23 (by decide) ?_
      refine lv_bipush (v := 100) hx hb dX11_takeChoice_25 (by decide) ?_
      refine lv_iconst (v := 0) hx hb dX11_takeChoice_27 (by decide) ?_
      refine lv_iconst (v := 0) hx hb dX11_takeChoice_28 (by decide) ?_
      refine W.eq (g2 := F0 mM 29 ls [.int (chI 3 5), .int (chI 3 4), .int (chI 3 3), .int (chI 3 2), .int (chI 3 1), .int (chI 3 0), .int (nI (sLen.getD 3 0)), .ref (gA G 65)]) rfl ?_
      refine r_calli hW hA (va_runV (As := [.int (nI (sLen.getD 3 0)), .int (chI 3 0), .int (chI 3 1), .int (chI 3 2), .int (chI 3 3), .int (chI 3 4), .int (chI 3 5)]) (rest := []) ⟨hx, hb, hml, hown, hts⟩ (t_X11_isName l D G SG _ hG hP_SG T ts ht4 hTB a hAt.2.2.1 hXG hTk 3 (by decide)) (cwV 7 hts gX11_takeChoice_X11_isName rfl rfl rfl (by decide +kernel) ⟨Nat.le_of_ble_eq_true rfl, Nat.le_of_ble_eq_true rfl⟩) (r_preV (k := 65) hA hW (ci := 10) (C := RX11) (T := TX11) (N := 20) rfl rfl (g_lt hG (by decide)) (g_kd hG (by decide) rfl) rfl rfl) rfl rfl hl.1 rfl (lv_room (Nat.le_of_ble_eq_true rfl)) dX11_takeChoice_29 ⟨Nat.zero_le _, Nat.zero_le _⟩) (fun r29 S29 H locs hp29 hW => ?_)
      obtain ⟨hs29, hp29⟩ := hp29
      rw [hs29] at hW
      rcases hp29 with ⟨rfl, h29⟩ | ⟨rfl, h29⟩
      · skip
        refine lv_if_eq (tgt := 39) hx hb dX11_takeChoice_32 (by decide) (fun c32 => ?_) (fun c32 => ?_)
        · exact absurd c32 (by decide)
        · skip
          refine lv_iconst (v := 0) hx hb dX11_takeChoice_35 (by decide) ?_
          refine lv_goto (tgt := 180) hx hb dX11_takeChoice_36 (by decide) ?_
          refine lv_istore_n (lv' := [(2, .int 0), (0, .ref (gA G 65)), (1, .int 1)]) hx hb dX11_takeChoice_180 rfl hl (by decide) rfl (fun ls hl => ?_)
          refine lv_aload_n hx hb dX11_takeChoice_181 rfl (lv_at hl 1 rfl) ?_
          refine lv_iload_n hx hb dX11_takeChoice_182 rfl (lv_at hl 0 rfl) ?_
          refine lv_if_lt (tgt := 190) hx hb dX11_takeChoice_183 (by decide) (fun c183 => ?_) (fun c183 => ?_)
          · exact absurd c183 (by decide)
          · skip
            refine lv_iconst (v := 1) hx hb dX11_takeChoice_186 (by decide) ?_
            refine lv_goto (tgt := 191) hx hb dX11_takeChoice_187 (by decide) ?_
            refine lv_iconst (v := 1) hx hb dX11_takeChoice_191 (by decide) ?_
            refine W.eq (g2 := F0 mM 192 ls [.int (nI 1), .int 1, .ref (gA G 65)]) rfl ?_
            refine r_calli hW hA (va_runV (As := [.int 1, .int (nI 1)]) (rest := []) ⟨hx, hb, hml, hown, hts⟩ (t_X11_want_ok l D G SG _ hG hP_SG 1 h12G) (cwV 2 hts gX11_takeChoice_X11_want rfl rfl rfl (by decide +kernel) ⟨Nat.le_of_ble_eq_true rfl, Nat.le_of_ble_eq_true rfl⟩) (r_preV (k := 65) hA hW (ci := 10) (C := RX11) (T := TX11) (N := 20) rfl rfl (g_lt hG (by decide)) (g_kd hG (by decide) rfl) rfl rfl) rfl rfl hl.1 rfl (lv_room (Nat.le_of_ble_eq_true rfl)) dX11_takeChoice_192 ⟨Nat.zero_le _, Nat.zero_le _⟩) (fun r192 S192 H locs hp192 hW => ?_)
            obtain ⟨rfl, hs192⟩ := hp192
            rw [hs192] at hW
            refine lv_istore_n (lv' := [(3, .int 1), (2, .int 0), (0, .ref (gA G 65)), (1, .int 1)]) hx hb dX11_takeChoice_195 rfl hl (by decide) rfl (fun ls hl => ?_)
            refine lv_iload_n hx hb dX11_takeChoice_196 rfl (lv_at hl 1 rfl) ?_
            refine r_iret hx hb hr hlocks hW ?_ dX11_takeChoice_197
            refine Or.inl ⟨0, tE T ts a, ?_, rfl, ⟨⟨hXG, hTk.2.2.1 (by have := h29.1; omega), hle.1, h12G⟩, hfr, hCg⟩⟩
            unfold pLaw; rw [if_pos h29]
      · skip
        refine lv_if_eq (tgt := 39) hx hb dX11_takeChoice_32 (by decide) (fun c32 => ?_) (fun c32 => ?_)
        · skip
          refine lv_aload_n hx hb dX11_takeChoice_39 rfl (lv_at hl 0 rfl) ?_
          refine lv_iconst (v := 4) hx hb dX11_takeChoice_40 (by decide) ?_
          refine lv_bipush (v := 102) hx hb dX11_takeChoice_41 (by decide) ?_
          refine lv_bipush (v := 108) hx hb dX11_takeChoice_43 (by decide) ?_
          refine lv_bipush (v := 97) hx hb dX11_takeChoice_45 (by decide) ?_
          refine lv_bipush (v := 116) hx hb dX11_takeChoice_47 (by decide) ?_
          refine lv_iconst (v := 0) hx hb dX11_takeChoice_49 (by decide) ?_
          refine lv_iconst (v := 0) hx hb dX11_takeChoice_50 (by decide) ?_
          refine W.eq (g2 := F0 mM 51 ls [.int (chI 4 5), .int (chI 4 4), .int (chI 4 3), .int (chI 4 2), .int (chI 4 1), .int (chI 4 0), .int (nI (sLen.getD 4 0)), .ref (gA G 65)]) rfl ?_
          refine r_calli hW hA (va_runV (As := [.int (nI (sLen.getD 4 0)), .int (chI 4 0), .int (chI 4 1), .int (chI 4 2), .int (chI 4 3), .int (chI 4 4), .int (chI 4 5)]) (rest := []) ⟨hx, hb, hml, hown, hts⟩ (t_X11_isName l D G SG _ hG hP_SG T ts ht4 hTB a hAt.2.2.1 hXG hTk 4 (by decide)) (cwV 7 hts gX11_takeChoice_X11_isName rfl rfl rfl (by decide +kernel) ⟨Nat.le_of_ble_eq_true rfl, Nat.le_of_ble_eq_true rfl⟩) (r_preV (k := 65) hA hW (ci := 10) (C := RX11) (T := TX11) (N := 20) rfl rfl (g_lt hG (by decide)) (g_kd hG (by decide) rfl) rfl rfl) rfl rfl hl.1 rfl (lv_room (Nat.le_of_ble_eq_true rfl)) dX11_takeChoice_51 ⟨Nat.zero_le _, Nat.zero_le _⟩) (fun r51 S51 H locs hp51 hW => ?_)
          obtain ⟨hs51, hp51⟩ := hp51
          rw [hs51] at hW
          rcases hp51 with ⟨rfl, h51⟩ | ⟨rfl, h51⟩
          · skip
            refine lv_if_eq (tgt := 61) hx hb dX11_takeChoice_54 (by decide) (fun c54 => ?_) (fun c54 => ?_)
            · exact absurd c54 (by decide)
            · skip
              refine lv_iconst (v := 1) hx hb dX11_takeChoice_57 (by decide) ?_
              refine lv_goto (tgt := 180) hx hb dX11_takeChoice_58 (by decide) ?_
              refine lv_istore_n (lv' := [(2, .int 1), (0, .ref (gA G 65)), (1, .int 1)]) hx hb dX11_takeChoice_180 rfl hl (by decide) rfl (fun ls hl => ?_)
              refine lv_aload_n hx hb dX11_takeChoice_181 rfl (lv_at hl 1 rfl) ?_
              refine lv_iload_n hx hb dX11_takeChoice_182 rfl (lv_at hl 0 rfl) ?_
              refine lv_if_lt (tgt := 190) hx hb dX11_takeChoice_183 (by decide) (fun c183 => ?_) (fun c183 => ?_)
              · exact absurd c183 (by decide)
              · skip
                refine lv_iconst (v := 1) hx hb dX11_takeChoice_186 (by decide) ?_
                refine lv_goto (tgt := 191) hx hb dX11_takeChoice_187 (by decide) ?_
                refine lv_iconst (v := 1) hx hb dX11_takeChoice_191 (by decide) ?_
                refine W.eq (g2 := F0 mM 192 ls [.int (nI 1), .int 1, .ref (gA G 65)]) rfl ?_
                refine r_calli hW hA (va_runV (As := [.int 1, .int (nI 1)]) (rest := []) ⟨hx, hb, hml, hown, hts⟩ (t_X11_want_ok l D G SG _ hG hP_SG 1 h12G) (cwV 2 hts gX11_takeChoice_X11_want rfl rfl rfl (by decide +kernel) ⟨Nat.le_of_ble_eq_true rfl, Nat.le_of_ble_eq_true rfl⟩) (r_preV (k := 65) hA hW (ci := 10) (C := RX11) (T := TX11) (N := 20) rfl rfl (g_lt hG (by decide)) (g_kd hG (by decide) rfl) rfl rfl) rfl rfl hl.1 rfl (lv_room (Nat.le_of_ble_eq_true rfl)) dX11_takeChoice_192 ⟨Nat.zero_le _, Nat.zero_le _⟩) (fun r192 S192 H locs hp192 hW => ?_)
                obtain ⟨rfl, hs192⟩ := hp192
                rw [hs192] at hW
                refine lv_istore_n (lv' := [(3, .int 1), (2, .int 1), (0, .ref (gA G 65)), (1, .int 1)]) hx hb dX11_takeChoice_195 rfl hl (by decide) rfl (fun ls hl => ?_)
                refine lv_iload_n hx hb dX11_takeChoice_196 rfl (lv_at hl 1 rfl) ?_
                refine r_iret hx hb hr hlocks hW ?_ dX11_takeChoice_197
                refine Or.inl ⟨1, tE T ts a, ?_, rfl, ⟨⟨hXG, hTk.2.2.1 (by have := h51.1; omega), hle.1, h12G⟩, hfr, hCg⟩⟩
                unfold pLaw; rw [if_neg h29, if_pos h51]
          · skip
            refine lv_if_eq (tgt := 61) hx hb dX11_takeChoice_54 (by decide) (fun c54 => ?_) (fun c54 => ?_)
            · skip
              refine lv_aload_n hx hb dX11_takeChoice_61 rfl (lv_at hl 0 rfl) ?_
              refine lv_iconst (v := 4) hx hb dX11_takeChoice_62 (by decide) ?_
              refine lv_bipush (v := 108) hx hb dX11_takeChoice_63 (by decide) ?_
              refine lv_bipush (v := 101) hx hb dX11_takeChoice_65 (by decide) ?_
              refine lv_bipush (v := 115) hx hb dX11_takeChoice_67 (by decide) ?_
              refine lv_bipush (v := 115) hx hb dX11_takeChoice_69 (by decide) ?_
              refine lv_iconst (v := 0) hx hb dX11_takeChoice_71 (by decide) ?_
              refine lv_iconst (v := 0) hx hb dX11_takeChoice_72 (by decide) ?_
              refine W.eq (g2 := F0 mM 73 ls [.int (chI 5 5), .int (chI 5 4), .int (chI 5 3), .int (chI 5 2), .int (chI 5 1), .int (chI 5 0), .int (nI (sLen.getD 5 0)), .ref (gA G 65)]) rfl ?_
              refine r_calli hW hA (va_runV (As := [.int (nI (sLen.getD 5 0)), .int (chI 5 0), .int (chI 5 1), .int (chI 5 2), .int (chI 5 3), .int (chI 5 4), .int (chI 5 5)]) (rest := []) ⟨hx, hb, hml, hown, hts⟩ (t_X11_isName l D G SG _ hG hP_SG T ts ht4 hTB a hAt.2.2.1 hXG hTk 5 (by decide)) (cwV 7 hts gX11_takeChoice_X11_isName rfl rfl rfl (by decide +kernel) ⟨Nat.le_of_ble_eq_true rfl, Nat.le_of_ble_eq_true rfl⟩) (r_preV (k := 65) hA hW (ci := 10) (C := RX11) (T := TX11) (N := 20) rfl rfl (g_lt hG (by decide)) (g_kd hG (by decide) rfl) rfl rfl) rfl rfl hl.1 rfl (lv_room (Nat.le_of_ble_eq_true rfl)) dX11_takeChoice_73 ⟨Nat.zero_le _, Nat.zero_le _⟩) (fun r73 S73 H locs hp73 hW => ?_)
              obtain ⟨hs73, hp73⟩ := hp73
              rw [hs73] at hW
              rcases hp73 with ⟨rfl, h73⟩ | ⟨rfl, h73⟩
              · skip
                refine lv_if_eq (tgt := 83) hx hb dX11_takeChoice_76 (by decide) (fun c76 => ?_) (fun c76 => ?_)
                · exact absurd c76 (by decide)
                · skip
                  refine lv_iconst (v := 2) hx hb dX11_takeChoice_79 (by decide) ?_
                  refine lv_goto (tgt := 180) hx hb dX11_takeChoice_80 (by decide) ?_
                  refine lv_istore_n (lv' := [(2, .int 2), (0, .ref (gA G 65)), (1, .int 1)]) hx hb dX11_takeChoice_180 rfl hl (by decide) rfl (fun ls hl => ?_)
                  refine lv_aload_n hx hb dX11_takeChoice_181 rfl (lv_at hl 1 rfl) ?_
                  refine lv_iload_n hx hb dX11_takeChoice_182 rfl (lv_at hl 0 rfl) ?_
                  refine lv_if_lt (tgt := 190) hx hb dX11_takeChoice_183 (by decide) (fun c183 => ?_) (fun c183 => ?_)
                  · exact absurd c183 (by decide)
                  · skip
                    refine lv_iconst (v := 1) hx hb dX11_takeChoice_186 (by decide) ?_
                    refine lv_goto (tgt := 191) hx hb dX11_takeChoice_187 (by decide) ?_
                    refine lv_iconst (v := 1) hx hb dX11_takeChoice_191 (by decide) ?_
                    refine W.eq (g2 := F0 mM 192 ls [.int (nI 1), .int 1, .ref (gA G 65)]) rfl ?_
                    refine r_calli hW hA (va_runV (As := [.int 1, .int (nI 1)]) (rest := []) ⟨hx, hb, hml, hown, hts⟩ (t_X11_want_ok l D G SG _ hG hP_SG 1 h12G) (cwV 2 hts gX11_takeChoice_X11_want rfl rfl rfl (by decide +kernel) ⟨Nat.le_of_ble_eq_true rfl, Nat.le_of_ble_eq_true rfl⟩) (r_preV (k := 65) hA hW (ci := 10) (C := RX11) (T := TX11) (N := 20) rfl rfl (g_lt hG (by decide)) (g_kd hG (by decide) rfl) rfl rfl) rfl rfl hl.1 rfl (lv_room (Nat.le_of_ble_eq_true rfl)) dX11_takeChoice_192 ⟨Nat.zero_le _, Nat.zero_le _⟩) (fun r192 S192 H locs hp192 hW => ?_)
                    obtain ⟨rfl, hs192⟩ := hp192
                    rw [hs192] at hW
                    refine lv_istore_n (lv' := [(3, .int 1), (2, .int 2), (0, .ref (gA G 65)), (1, .int 1)]) hx hb dX11_takeChoice_195 rfl hl (by decide) rfl (fun ls hl => ?_)
                    refine lv_iload_n hx hb dX11_takeChoice_196 rfl (lv_at hl 1 rfl) ?_
                    refine r_iret hx hb hr hlocks hW ?_ dX11_takeChoice_197
                    refine Or.inl ⟨2, tE T ts a, ?_, rfl, ⟨⟨hXG, hTk.2.2.1 (by have := h73.1; omega), hle.1, h12G⟩, hfr, hCg⟩⟩
                    unfold pLaw; rw [if_neg h29, if_neg h51, if_pos h73]
              · skip
                refine lv_if_eq (tgt := 83) hx hb dX11_takeChoice_76 (by decide) (fun c76 => ?_) (fun c76 => ?_)
                · skip
                  refine lv_iconst (v := (-1)) hx hb dX11_takeChoice_83 (by decide) ?_
                  refine lv_goto (tgt := 180) hx hb dX11_takeChoice_84 (by decide) ?_
                  refine lv_istore_n (lv' := [(2, .int (-1)), (0, .ref (gA G 65)), (1, .int 1)]) hx hb dX11_takeChoice_180 rfl hl (by decide) rfl (fun ls hl => ?_)
                  refine lv_aload_n hx hb dX11_takeChoice_181 rfl (lv_at hl 1 rfl) ?_
                  refine lv_iload_n hx hb dX11_takeChoice_182 rfl (lv_at hl 0 rfl) ?_
                  refine lv_if_lt (tgt := 190) hx hb dX11_takeChoice_183 (by decide) (fun c183 => ?_) (fun c183 => ?_)
                  · skip
                    refine lv_iconst (v := 0) hx hb dX11_takeChoice_190 (by decide) ?_
                    refine lv_iconst (v := 1) hx hb dX11_takeChoice_191 (by decide) ?_
                    refine W.eq (g2 := F0 mM 192 ls [.int (nI 1), .int 0, .ref (gA G 65)]) rfl ?_
                    refine r_calli hW hA (va_runV (As := [.int 0, .int (nI 1)]) (rest := []) ⟨hx, hb, hml, hown, hts⟩ (t_X11_want_no l D G SG _ hG hP_SG 1 h12G (by decide)) (cwV 2 hts gX11_takeChoice_X11_want rfl rfl rfl (by decide +kernel) ⟨Nat.le_of_ble_eq_true rfl, Nat.le_of_ble_eq_true rfl⟩) (r_preV (k := 65) hA hW (ci := 10) (C := RX11) (T := TX11) (N := 20) rfl rfl (g_lt hG (by decide)) (g_kd hG (by decide) rfl) rfl rfl) rfl rfl hl.1 rfl (lv_room (Nat.le_of_ble_eq_true rfl)) dX11_takeChoice_192 ⟨Nat.zero_le _, Nat.zero_le _⟩) (fun r192 S192 H locs hp192 hW => ?_)
                    obtain ⟨rfl, hs192⟩ := hp192
                    rw [hs192] at hW
                    refine lv_istore_n (lv' := [(3, .int 0), (2, .int (-1)), (0, .ref (gA G 65)), (1, .int 1)]) hx hb dX11_takeChoice_195 rfl hl (by decide) rfl (fun ls hl => ?_)
                    refine lv_iload_n hx hb dX11_takeChoice_196 rfl (lv_at hl 1 rfl) ?_
                    refine r_iret hx hb hr hlocks hW ?_ dX11_takeChoice_197
                    refine Or.inr ⟨1, SK T ts a, ?_, ⟨congrFun (e_is _ _ _) 12, (congrFun (e_is _ _ _) 13).trans hTk.1, fun j hj => (congrFun (e_is _ _ _) j).trans ((up_n _ _ (by omega)).trans ((up_n _ _ (by omega)).trans (hfr j (by omega) (by omega) (by omega) (by omega)))), Ch.tr hCg (Ch.ri Ch.rf rfl)⟩⟩
                    unfold pLaw; rw [if_neg h29, if_neg h51, if_neg h73]
                  · exact absurd (by decide) c183
                · exact absurd (by decide) c76
            · exact absurd (by decide) c54
        · exact absurd (by decide) c32
  · exact absurd (by decide) c4

set_option maxHeartbeats 4000000 in
set_option maxRecDepth 100000 in
theorem t_X11_takeChoice_pWay (l : Launch) (D : Dc) (G : Gg) (S : Sg) (z : Nat) (hG : GrG G) (hP : GrP G S) (T : Nat → Nat) (ts : Nat) (ht4 : ts ≤ 400) (hTB : ∀ i, i < ts → T i ≤ 255) (a : Nat) (hAt : AtM S T ts a) : MI l yX11_takeChoice wsX11_takeChoice rmX11_takeChoice D G S z [.ref (gA G 65), .int 0] (fun r S' => (∃ v e, pWay T ts a = .inl (v, e) ∧ r = nI v ∧ OkM S S' T ts e) ∨ (∃ f p, pWay T ts a = .inr (f, p) ∧ FlM S S' f p)) := by
  refine Met.ofW (cc := cX11_takeChoice) (maxL := 4) (ret := (some .int)) (by decide +kernel) rfl ?_
  intro pP eE s mM args bl mT cD s₁ bD hml hv
  obtain ⟨rfl, hv⟩ := hv
  have hz := hv.1
  subst hz
  have hx := bD.exec
  have hb := bD.bytes
  have hr := bD.returns
  have hts := atoms_spec (ws := wsX11_takeChoice) bD.pre
  have hown : s.vm.findClass RX11 = some mM.cls := findClass_of_methodNamed bD.named
  have hlocks := bD.notSynchronized
  have hW := Wd.start hv
  have hA : ∀ q, s.heap.size ≤ q → AW G s.heap.size q := fun q h => Or.inr h
  have hl := lv_entry ([.ref (gA G 65), .int 0]) (n := 4) (Nat.le_of_ble_eq_true rfl)
  rw [lg_entry_eq]
  generalize (lg_sl ([.ref (gA G 65), .int 0]) ++ List.replicate (4 - (lg_sl ([.ref (gA G 65), .int 0])).length) Slot.unset).toArray = ls at hl ⊢
  have hl : lv_has ls 4 [(0, .ref (gA G 65)), (1, .int 0)] := hl
  have q0 := hts (.fieldLink RX11 109 "WoodForTwoModel" "faultOf" "I") (List.mem_of_getElem? (i := 1) rfl)
  have iX11 : ∀ w ∈ wsX110, w ∈ wsX11_takeChoice := fun _ h => List.mem_cons_of_mem _ (List.mem_append_right _ (h))
  refine lv_aload_n hx hb dX11_takeChoice_0 rfl (lv_at hl 0 rfl) ?_
  refine r_geti (ci := 10) (C := RX11) (T := TX11) (N := 20) hx hb hts iX11 hown hW rfl 65 12 rfl (g_lt hG (by decide)) (g_kd hG (by decide) rfl) (by decide) q0 (fun _ h9 => h9) 0 hAt.2.2.2 rfl rfl dX11_takeChoice_1 ?_
  refine lv_if_le (tgt := 9) hx hb dX11_takeChoice_4 (by decide) (fun c4 => ?_) (fun c4 => ?_)
  · skip
    refine lv_aload_n hx hb dX11_takeChoice_9 rfl (lv_at hl 0 rfl) ?_
    refine r_callv hW hA (va_runV (As := []) (rest := []) ⟨hx, hb, hml, hown, hts⟩ (t_X11_goOn l D G S _ hG hP T ts ht4 hTB hAt.1 a hAt.2.2.1 hAt.2.1) (cwV 0 hts gX11_takeChoice_X11_goOn rfl rfl rfl (by decide +kernel) ⟨Nat.le_of_ble_eq_true rfl, Nat.le_of_ble_eq_true rfl⟩) (r_preV (k := 65) hA hW (ci := 10) (C := RX11) (T := TX11) (N := 20) rfl rfl (g_lt hG (by decide)) (g_kd hG (by decide) rfl) rfl rfl) rfl rfl hl.1 rfl (lv_room (Nat.le_of_ble_eq_true rfl)) dX11_takeChoice_10 ⟨Nat.zero_le _, Nat.zero_le _⟩) (fun SG H locs hpG hW => ?_)
    obtain ⟨hTk, hfr, hCg⟩ := hpG
    have hP_SG : GrP G SG := fun q hq => by rw [hCg.1]; exact hP q hq
    have hXG : TpM SG T ts := ⟨(hfr 7 (by decide) (by decide) (by decide) (by decide)).trans hAt.1.1, fun i hi => (congrFun (hCg.2 71 (by decide)).1 i).trans (hAt.1.2 i hi)⟩
    have h12G : gi SG 65 12 = 0 := (hfr 12 (by decide) (by decide) (by decide) (by decide)).trans hAt.2.2.2
    have hle := tE_le (T := T) hAt.2.2.1
    have htl := tS_le (T := T) (ts := ts) (a := a)
    refine lv_iload_n hx hb dX11_takeChoice_13 rfl (lv_at hl 1 rfl) ?_
    refine lv_if_eq (tgt := 87) hx hb dX11_takeChoice_14 (by decide) (fun c14 => ?_) (fun c14 => ?_)
    · skip
      refine lv_aload_n hx hb dX11_takeChoice_87 rfl (lv_at hl 0 rfl) ?_
      refine lv_iconst (v := 5) hx hb dX11_takeChoice_88 (by decide) ?_
      refine lv_bipush (v := 107) hx hb dX11_takeChoice_89 (by decide) ?_
      refine lv_bipush (v := 101) hx hb dX11_takeChoice_91 (by decide) ?_
      refine lv_bipush (v := 101) hx hb dX11_takeChoice_93 (by decide) ?_
      refine lv_bipush (v := 112) hx hb dX11_takeChoice_95 (by decide) ?_
      refine lv_bipush (v := 115) hx hb dX11_takeChoice_97 (by decide) ?_
      refine lv_iconst (v := 0) hx hb dX11_takeChoice_99 (by decide) ?_
      refine W.eq (g2 := F0 mM 100 ls [.int (chI 6 5), .int (chI 6 4), .int (chI 6 3), .int (chI 6 2), .int (chI 6 1), .int (chI 6 0), .int (nI (sLen.getD 6 0)), .ref (gA G 65)]) rfl ?_
      refine r_calli hW hA (va_runV (As := [.int (nI (sLen.getD 6 0)), .int (chI 6 0), .int (chI 6 1), .int (chI 6 2), .int (chI 6 3), .int (chI 6 4), .int (chI 6 5)]) (rest := []) ⟨hx, hb, hml, hown, hts⟩ (t_X11_isName l D G SG _ hG hP_SG T ts ht4 hTB a hAt.2.2.1 hXG hTk 6 (by decide)) (cwV 7 hts gX11_takeChoice_X11_isName rfl rfl rfl (by decide +kernel) ⟨Nat.le_of_ble_eq_true rfl, Nat.le_of_ble_eq_true rfl⟩) (r_preV (k := 65) hA hW (ci := 10) (C := RX11) (T := TX11) (N := 20) rfl rfl (g_lt hG (by decide)) (g_kd hG (by decide) rfl) rfl rfl) rfl rfl hl.1 rfl (lv_room (Nat.le_of_ble_eq_true rfl)) dX11_takeChoice_100 ⟨Nat.zero_le _, Nat.zero_le _⟩) (fun r100 S100 H locs hp100 hW => ?_)
      obtain ⟨hs100, hp100⟩ := hp100
      rw [hs100] at hW
      rcases hp100 with ⟨rfl, h100⟩ | ⟨rfl, h100⟩
      · skip
        refine lv_if_eq (tgt := 110) hx hb dX11_takeChoice_103 (by decide) (fun c103 => ?_) (fun c103 => ?_)
        · exact absurd c103 (by decide)
        · skip
          refine lv_iconst (v := 0) hx hb dX11_takeChoice_106 (by decide) ?_
          refine lv_goto (tgt := 180) hx hb dX11_takeChoice_107 (by decide) ?_
          refine lv_istore_n (lv' := [(2, .int 0), (0, .ref (gA G 65)), (1, .int 0)]) hx hb dX11_takeChoice_180 rfl hl (by decide) rfl (fun ls hl => ?_)
          refine lv_aload_n hx hb dX11_takeChoice_181 rfl (lv_at hl 1 rfl) ?_
          refine lv_iload_n hx hb dX11_takeChoice_182 rfl (lv_at hl 0 rfl) ?_
          refine lv_if_lt (tgt := 190) hx hb dX11_takeChoice_183 (by decide) (fun c183 => ?_) (fun c183 => ?_)
          · exact absurd c183 (by decide)
          · skip
            refine lv_iconst (v := 1) hx hb dX11_takeChoice_186 (by decide) ?_
            refine lv_goto (tgt := 191) hx hb dX11_takeChoice_187 (by decide) ?_
            refine lv_iconst (v := 1) hx hb dX11_takeChoice_191 (by decide) ?_
            refine W.eq (g2 := F0 mM 192 ls [.int (nI 1), .int 1, .ref (gA G 65)]) rfl ?_
            refine r_calli hW hA (va_runV (As := [.int 1, .int (nI 1)]) (rest := []) ⟨hx, hb, hml, hown, hts⟩ (t_X11_want_ok l D G SG _ hG hP_SG 1 h12G) (cwV 2 hts gX11_takeChoice_X11_want rfl rfl rfl (by decide +kernel) ⟨Nat.le_of_ble_eq_true rfl, Nat.le_of_ble_eq_true rfl⟩) (r_preV (k := 65) hA hW (ci := 10) (C := RX11) (T := TX11) (N := 20) rfl rfl (g_lt hG (by decide)) (g_kd hG (by decide) rfl) rfl rfl) rfl rfl hl.1 rfl (lv_room (Nat.le_of_ble_eq_true rfl)) dX11_takeChoice_192 ⟨Nat.zero_le _, Nat.zero_le _⟩) (fun r192 S192 H locs hp192 hW => ?_)
            obtain ⟨rfl, hs192⟩ := hp192
            rw [hs192] at hW
            refine lv_istore_n (lv' := [(3, .int 1), (2, .int 0), (0, .ref (gA G 65)), (1, .int 0)]) hx hb dX11_takeChoice_195 rfl hl (by decide) rfl (fun ls hl => ?_)
            refine lv_iload_n hx hb dX11_takeChoice_196 rfl (lv_at hl 1 rfl) ?_
            refine r_iret hx hb hr hlocks hW ?_ dX11_takeChoice_197
            refine Or.inl ⟨0, tE T ts a, ?_, rfl, ⟨⟨hXG, hTk.2.2.1 (by have := h100.1; omega), hle.1, h12G⟩, hfr, hCg⟩⟩
            unfold pWay; rw [if_pos h100]
      · skip
        refine lv_if_eq (tgt := 110) hx hb dX11_takeChoice_103 (by decide) (fun c103 => ?_) (fun c103 => ?_)
        · skip
          refine lv_aload_n hx hb dX11_takeChoice_110 rfl (lv_at hl 0 rfl) ?_
          refine lv_iconst (v := 4) hx hb dX11_takeChoice_111 (by decide) ?_
          refine lv_bipush (v := 104) hx hb dX11_takeChoice_112 (by decide) ?_
          refine lv_bipush (v := 97) hx hb dX11_takeChoice_114 (by decide) ?_
          refine lv_bipush (v := 108) hx hb dX11_takeChoice_116 (by decide) ?_
          refine lv_bipush (v := 102) hx hb dX11_takeChoice_118 (by decide) ?_
          refine lv_iconst (v := 0) hx hb dX11_takeChoice_120 (by decide) ?_
          refine lv_iconst (v := 0) hx hb dX11_takeChoice_121 (by decide) ?_
          refine W.eq (g2 := F0 mM 122 ls [.int (chI 7 5), .int (chI 7 4), .int (chI 7 3), .int (chI 7 2), .int (chI 7 1), .int (chI 7 0), .int (nI (sLen.getD 7 0)), .ref (gA G 65)]) rfl ?_
          refine r_calli hW hA (va_runV (As := [.int (nI (sLen.getD 7 0)), .int (chI 7 0), .int (chI 7 1), .int (chI 7 2), .int (chI 7 3), .int (chI 7 4), .int (chI 7 5)]) (rest := []) ⟨hx, hb, hml, hown, hts⟩ (t_X11_isName l D G SG _ hG hP_SG T ts ht4 hTB a hAt.2.2.1 hXG hTk 7 (by decide)) (cwV 7 hts gX11_takeChoice_X11_isName rfl rfl rfl (by decide +kernel) ⟨Nat.le_of_ble_eq_true rfl, Nat.le_of_ble_eq_true rfl⟩) (r_preV (k := 65) hA hW (ci := 10) (C := RX11) (T := TX11) (N := 20) rfl rfl (g_lt hG (by decide)) (g_kd hG (by decide) rfl) rfl rfl) rfl rfl hl.1 rfl (lv_room (Nat.le_of_ble_eq_true rfl)) dX11_takeChoice_122 ⟨Nat.zero_le _, Nat.zero_le _⟩) (fun r122 S122 H locs hp122 hW => ?_)
          obtain ⟨hs122, hp122⟩ := hp122
          rw [hs122] at hW
          rcases hp122 with ⟨rfl, h122⟩ | ⟨rfl, h122⟩
          · skip
            refine lv_if_eq (tgt := 132) hx hb dX11_takeChoice_125 (by decide) (fun c125 => ?_) (fun c125 => ?_)
            · exact absurd c125 (by decide)
            · skip
              refine lv_iconst (v := 1) hx hb dX11_takeChoice_128 (by decide) ?_
              refine lv_goto (tgt := 180) hx hb dX11_takeChoice_129 (by decide) ?_
              refine lv_istore_n (lv' := [(2, .int 1), (0, .ref (gA G 65)), (1, .int 0)]) hx hb dX11_takeChoice_180 rfl hl (by decide) rfl (fun ls hl => ?_)
              refine lv_aload_n hx hb dX11_takeChoice_181 rfl (lv_at hl 1 rfl) ?_
              refine lv_iload_n hx hb dX11_takeChoice_182 rfl (lv_at hl 0 rfl) ?_
              refine lv_if_lt (tgt := 190) hx hb dX11_takeChoice_183 (by decide) (fun c183 => ?_) (fun c183 => ?_)
              · exact absurd c183 (by decide)
              · skip
                refine lv_iconst (v := 1) hx hb dX11_takeChoice_186 (by decide) ?_
                refine lv_goto (tgt := 191) hx hb dX11_takeChoice_187 (by decide) ?_
                refine lv_iconst (v := 1) hx hb dX11_takeChoice_191 (by decide) ?_
                refine W.eq (g2 := F0 mM 192 ls [.int (nI 1), .int 1, .ref (gA G 65)]) rfl ?_
                refine r_calli hW hA (va_runV (As := [.int 1, .int (nI 1)]) (rest := []) ⟨hx, hb, hml, hown, hts⟩ (t_X11_want_ok l D G SG _ hG hP_SG 1 h12G) (cwV 2 hts gX11_takeChoice_X11_want rfl rfl rfl (by decide +kernel) ⟨Nat.le_of_ble_eq_true rfl, Nat.le_of_ble_eq_true rfl⟩) (r_preV (k := 65) hA hW (ci := 10) (C := RX11) (T := TX11) (N := 20) rfl rfl (g_lt hG (by decide)) (g_kd hG (by decide) rfl) rfl rfl) rfl rfl hl.1 rfl (lv_room (Nat.le_of_ble_eq_true rfl)) dX11_takeChoice_192 ⟨Nat.zero_le _, Nat.zero_le _⟩) (fun r192 S192 H locs hp192 hW => ?_)
                obtain ⟨rfl, hs192⟩ := hp192
                rw [hs192] at hW
                refine lv_istore_n (lv' := [(3, .int 1), (2, .int 1), (0, .ref (gA G 65)), (1, .int 0)]) hx hb dX11_takeChoice_195 rfl hl (by decide) rfl (fun ls hl => ?_)
                refine lv_iload_n hx hb dX11_takeChoice_196 rfl (lv_at hl 1 rfl) ?_
                refine r_iret hx hb hr hlocks hW ?_ dX11_takeChoice_197
                refine Or.inl ⟨1, tE T ts a, ?_, rfl, ⟨⟨hXG, hTk.2.2.1 (by have := h122.1; omega), hle.1, h12G⟩, hfr, hCg⟩⟩
                unfold pWay; rw [if_neg h100, if_pos h122]
          · skip
            refine lv_if_eq (tgt := 132) hx hb dX11_takeChoice_125 (by decide) (fun c125 => ?_) (fun c125 => ?_)
            · skip
              refine lv_aload_n hx hb dX11_takeChoice_132 rfl (lv_at hl 0 rfl) ?_
              refine lv_iconst (v := 4) hx hb dX11_takeChoice_133 (by decide) ?_
              refine lv_bipush (v := 110) hx hb dX11_takeChoice_134 (by decide) ?_
              refine lv_bipush (v := 111) hx hb dX11_takeChoice_136 (by decide) ?_
              refine lv_bipush (v := 110) hx hb dX11_takeChoice_138 (by decide) ?_
              refine lv_bipush (v := 101) hx hb dX11_takeChoice_140 (by decide) ?_
              refine lv_iconst (v := 0) hx hb dX11_takeChoice_142 (by decide) ?_
              refine lv_iconst (v := 0) hx hb dX11_takeChoice_143 (by decide) ?_
              refine W.eq (g2 := F0 mM 144 ls [.int (chI 8 5), .int (chI 8 4), .int (chI 8 3), .int (chI 8 2), .int (chI 8 1), .int (chI 8 0), .int (nI (sLen.getD 8 0)), .ref (gA G 65)]) rfl ?_
              refine r_calli hW hA (va_runV (As := [.int (nI (sLen.getD 8 0)), .int (chI 8 0), .int (chI 8 1), .int (chI 8 2), .int (chI 8 3), .int (chI 8 4), .int (chI 8 5)]) (rest := []) ⟨hx, hb, hml, hown, hts⟩ (t_X11_isName l D G SG _ hG hP_SG T ts ht4 hTB a hAt.2.2.1 hXG hTk 8 (by decide)) (cwV 7 hts gX11_takeChoice_X11_isName rfl rfl rfl (by decide +kernel) ⟨Nat.le_of_ble_eq_true rfl, Nat.le_of_ble_eq_true rfl⟩) (r_preV (k := 65) hA hW (ci := 10) (C := RX11) (T := TX11) (N := 20) rfl rfl (g_lt hG (by decide)) (g_kd hG (by decide) rfl) rfl rfl) rfl rfl hl.1 rfl (lv_room (Nat.le_of_ble_eq_true rfl)) dX11_takeChoice_144 ⟨Nat.zero_le _, Nat.zero_le _⟩) (fun r144 S144 H locs hp144 hW => ?_)
              obtain ⟨hs144, hp144⟩ := hp144
              rw [hs144] at hW
              rcases hp144 with ⟨rfl, h144⟩ | ⟨rfl, h144⟩
              · skip
                refine lv_if_eq (tgt := 154) hx hb dX11_takeChoice_147 (by decide) (fun c147 => ?_) (fun c147 => ?_)
                · exact absurd c147 (by decide)
                · skip
                  refine lv_iconst (v := 2) hx hb dX11_takeChoice_150 (by decide) ?_
                  refine lv_goto (tgt := 180) hx hb dX11_takeChoice_151 (by decide) ?_
                  refine lv_istore_n (lv' := [(2, .int 2), (0, .ref (gA G 65)), (1, .int 0)]) hx hb dX11_takeChoice_180 rfl hl (by decide) rfl (fun ls hl => ?_)
                  refine lv_aload_n hx hb dX11_takeChoice_181 rfl (lv_at hl 1 rfl) ?_
                  refine lv_iload_n hx hb dX11_takeChoice_182 rfl (lv_at hl 0 rfl) ?_
                  refine lv_if_lt (tgt := 190) hx hb dX11_takeChoice_183 (by decide) (fun c183 => ?_) (fun c183 => ?_)
                  · exact absurd c183 (by decide)
                  · skip
                    refine lv_iconst (v := 1) hx hb dX11_takeChoice_186 (by decide) ?_
                    refine lv_goto (tgt := 191) hx hb dX11_takeChoice_187 (by decide) ?_
                    refine lv_iconst (v := 1) hx hb dX11_takeChoice_191 (by decide) ?_
                    refine W.eq (g2 := F0 mM 192 ls [.int (nI 1), .int 1, .ref (gA G 65)]) rfl ?_
                    refine r_calli hW hA (va_runV (As := [.int 1, .int (nI 1)]) (rest := []) ⟨hx, hb, hml, hown, hts⟩ (t_X11_want_ok l D G SG _ hG hP_SG 1 h12G) (cwV 2 hts gX11_takeChoice_X11_want rfl rfl rfl (by decide +kernel) ⟨Nat.le_of_ble_eq_true rfl, Nat.le_of_ble_eq_true rfl⟩) (r_preV (k := 65) hA hW (ci := 10) (C := RX11) (T := TX11) (N := 20) rfl rfl (g_lt hG (by decide)) (g_kd hG (by decide) rfl) rfl rfl) rfl rfl hl.1 rfl (lv_room (Nat.le_of_ble_eq_true rfl)) dX11_takeChoice_192 ⟨Nat.zero_le _, Nat.zero_le _⟩) (fun r192 S192 H locs hp192 hW => ?_)
                    obtain ⟨rfl, hs192⟩ := hp192
                    rw [hs192] at hW
                    refine lv_istore_n (lv' := [(3, .int 1), (2, .int 2), (0, .ref (gA G 65)), (1, .int 0)]) hx hb dX11_takeChoice_195 rfl hl (by decide) rfl (fun ls hl => ?_)
                    refine lv_iload_n hx hb dX11_takeChoice_196 rfl (lv_at hl 1 rfl) ?_
                    refine r_iret hx hb hr hlocks hW ?_ dX11_takeChoice_197
                    refine Or.inl ⟨2, tE T ts a, ?_, rfl, ⟨⟨hXG, hTk.2.2.1 (by have := h144.1; omega), hle.1, h12G⟩, hfr, hCg⟩⟩
                    unfold pWay; rw [if_neg h100, if_neg h122, if_pos h144]
              · skip
                refine lv_if_eq (tgt := 154) hx hb dX11_takeChoice_147 (by decide) (fun c147 => ?_) (fun c147 => ?_)
                · skip
                  refine lv_aload_n hx hb dX11_takeChoice_154 rfl (lv_at hl 0 rfl) ?_
                  refine lv_bipush (v := 6) hx hb dX11_takeChoice_155 (by decide) ?_
                  refine lv_bipush (v := 119) hx hb dX11_takeChoice_157 (by decide) ?_
                  refine lv_bipush (v := 101) hx hb dX11_takeChoice_159 (by decide) ?_
                  refine lv_bipush (v := 105) hx hb dX11_takeChoice_161 (by decide) ?_
                  refine lv_bipush (v := 103) hx hb dX11_takeChoice_163 (by decide) ?_
                  refine lv_bipush (v := 104) hx hb dX11_takeChoice_165 (by decide) ?_
                  refine lv_bipush (v := 115) hx hb dX11_takeChoice_167 (by decide) ?_
                  refine W.eq (g2 := F0 mM 169 ls [.int (chI 9 5), .int (chI 9 4), .int (chI 9 3), .int (chI 9 2), .int (chI 9 1), .int (chI 9 0), .int (nI (sLen.getD 9 0)), .ref (gA G 65)]) rfl ?_
                  refine r_calli hW hA (va_runV (As := [.int (nI (sLen.getD 9 0)), .int (chI 9 0), .int (chI 9 1), .int (chI 9 2), .int (chI 9 3), .int (chI 9 4), .int (chI 9 5)]) (rest := []) ⟨hx, hb, hml, hown, hts⟩ (t_X11_isName l D G SG _ hG hP_SG T ts ht4 hTB a hAt.2.2.1 hXG hTk 9 (by decide)) (cwV 7 hts gX11_takeChoice_X11_isName rfl rfl rfl (by decide +kernel) ⟨Nat.le_of_ble_eq_true rfl, Nat.le_of_ble_eq_true rfl⟩) (r_preV (k := 65) hA hW (ci := 10) (C := RX11) (T := TX11) (N := 20) rfl rfl (g_lt hG (by decide)) (g_kd hG (by decide) rfl) rfl rfl) rfl rfl hl.1 rfl (lv_room (Nat.le_of_ble_eq_true rfl)) dX11_takeChoice_169 ⟨Nat.zero_le _, Nat.zero_le _⟩) (fun r169 S169 H locs hp169 hW => ?_)
                  obtain ⟨hs169, hp169⟩ := hp169
                  rw [hs169] at hW
                  rcases hp169 with ⟨rfl, h169⟩ | ⟨rfl, h169⟩
                  · skip
                    refine lv_if_eq (tgt := 179) hx hb dX11_takeChoice_172 (by decide) (fun c172 => ?_) (fun c172 => ?_)
                    · exact absurd c172 (by decide)
                    · skip
                      refine lv_iconst (v := 3) hx hb dX11_takeChoice_175 (by decide) ?_
                      refine lv_goto (tgt := 180) hx hb dX11_takeChoice_176 (by decide) ?_
                      refine lv_istore_n (lv' := [(2, .int 3), (0, .ref (gA G 65)), (1, .int 0)]) hx hb dX11_takeChoice_180 rfl hl (by decide) rfl (fun ls hl => ?_)
                      refine lv_aload_n hx hb dX11_takeChoice_181 rfl (lv_at hl 1 rfl) ?_
                      refine lv_iload_n hx hb dX11_takeChoice_182 rfl (lv_at hl 0 rfl) ?_
                      refine lv_if_lt (tgt := 190) hx hb dX11_takeChoice_183 (by decide) (fun c183 => ?_) (fun c183 => ?_)
                      · exact absurd c183 (by decide)
                      · skip
                        refine lv_iconst (v := 1) hx hb dX11_takeChoice_186 (by decide) ?_
                        refine lv_goto (tgt := 191) hx hb dX11_takeChoice_187 (by decide) ?_
                        refine lv_iconst (v := 1) hx hb dX11_takeChoice_191 (by decide) ?_
                        refine W.eq (g2 := F0 mM 192 ls [.int (nI 1), .int 1, .ref (gA G 65)]) rfl ?_
                        refine r_calli hW hA (va_runV (As := [.int 1, .int (nI 1)]) (rest := []) ⟨hx, hb, hml, hown, hts⟩ (t_X11_want_ok l D G SG _ hG hP_SG 1 h12G) (cwV 2 hts gX11_takeChoice_X11_want rfl rfl rfl (by decide +kernel) ⟨Nat.le_of_ble_eq_true rfl, Nat.le_of_ble_eq_true rfl⟩) (r_preV (k := 65) hA hW (ci := 10) (C := RX11) (T := TX11) (N := 20) rfl rfl (g_lt hG (by decide)) (g_kd hG (by decide) rfl) rfl rfl) rfl rfl hl.1 rfl (lv_room (Nat.le_of_ble_eq_true rfl)) dX11_takeChoice_192 ⟨Nat.zero_le _, Nat.zero_le _⟩) (fun r192 S192 H locs hp192 hW => ?_)
                        obtain ⟨rfl, hs192⟩ := hp192
                        rw [hs192] at hW
                        refine lv_istore_n (lv' := [(3, .int 1), (2, .int 3), (0, .ref (gA G 65)), (1, .int 0)]) hx hb dX11_takeChoice_195 rfl hl (by decide) rfl (fun ls hl => ?_)
                        refine lv_iload_n hx hb dX11_takeChoice_196 rfl (lv_at hl 1 rfl) ?_
                        refine r_iret hx hb hr hlocks hW ?_ dX11_takeChoice_197
                        refine Or.inl ⟨3, tE T ts a, ?_, rfl, ⟨⟨hXG, hTk.2.2.1 (by have := h169.1; omega), hle.1, h12G⟩, hfr, hCg⟩⟩
                        unfold pWay; rw [if_neg h100, if_neg h122, if_neg h144, if_pos h169]
                  · skip
                    refine lv_if_eq (tgt := 179) hx hb dX11_takeChoice_172 (by decide) (fun c172 => ?_) (fun c172 => ?_)
                    · skip
                      refine lv_iconst (v := (-1)) hx hb dX11_takeChoice_179 (by decide) ?_
                      refine lv_istore_n (lv' := [(2, .int (-1)), (0, .ref (gA G 65)), (1, .int 0)]) hx hb dX11_takeChoice_180 rfl hl (by decide) rfl (fun ls hl => ?_)
                      refine lv_aload_n hx hb dX11_takeChoice_181 rfl (lv_at hl 1 rfl) ?_
                      refine lv_iload_n hx hb dX11_takeChoice_182 rfl (lv_at hl 0 rfl) ?_
                      refine lv_if_lt (tgt := 190) hx hb dX11_takeChoice_183 (by decide) (fun c183 => ?_) (fun c183 => ?_)
                      · skip
                        refine lv_iconst (v := 0) hx hb dX11_takeChoice_190 (by decide) ?_
                        refine lv_iconst (v := 1) hx hb dX11_takeChoice_191 (by decide) ?_
                        refine W.eq (g2 := F0 mM 192 ls [.int (nI 1), .int 0, .ref (gA G 65)]) rfl ?_
                        refine r_calli hW hA (va_runV (As := [.int 0, .int (nI 1)]) (rest := []) ⟨hx, hb, hml, hown, hts⟩ (t_X11_want_no l D G SG _ hG hP_SG 1 h12G (by decide)) (cwV 2 hts gX11_takeChoice_X11_want rfl rfl rfl (by decide +kernel) ⟨Nat.le_of_ble_eq_true rfl, Nat.le_of_ble_eq_true rfl⟩) (r_preV (k := 65) hA hW (ci := 10) (C := RX11) (T := TX11) (N := 20) rfl rfl (g_lt hG (by decide)) (g_kd hG (by decide) rfl) rfl rfl) rfl rfl hl.1 rfl (lv_room (Nat.le_of_ble_eq_true rfl)) dX11_takeChoice_192 ⟨Nat.zero_le _, Nat.zero_le _⟩) (fun r192 S192 H locs hp192 hW => ?_)
                        obtain ⟨rfl, hs192⟩ := hp192
                        rw [hs192] at hW
                        refine lv_istore_n (lv' := [(3, .int 0), (2, .int (-1)), (0, .ref (gA G 65)), (1, .int 0)]) hx hb dX11_takeChoice_195 rfl hl (by decide) rfl (fun ls hl => ?_)
                        refine lv_iload_n hx hb dX11_takeChoice_196 rfl (lv_at hl 1 rfl) ?_
                        refine r_iret hx hb hr hlocks hW ?_ dX11_takeChoice_197
                        refine Or.inr ⟨1, SK T ts a, ?_, ⟨congrFun (e_is _ _ _) 12, (congrFun (e_is _ _ _) 13).trans hTk.1, fun j hj => (congrFun (e_is _ _ _) j).trans ((up_n _ _ (by omega)).trans ((up_n _ _ (by omega)).trans (hfr j (by omega) (by omega) (by omega) (by omega)))), Ch.tr hCg (Ch.ri Ch.rf rfl)⟩⟩
                        unfold pWay; rw [if_neg h100, if_neg h122, if_neg h144, if_neg h169]
                      · exact absurd (by decide) c183
                    · exact absurd (by decide) c172
                · exact absurd (by decide) c147
            · exact absurd (by decide) c125
        · exact absurd (by decide) c103
    · exact absurd (by decide) c14
  · exact absurd (by decide) c4
