theorem cls_n (b : Nat) : (cls b = 1 ∧ 97 ≤ b ∧ b ≤ 122) ∨ (cls b = 2 ∧ 48 ≤ b ∧ b ≤ 57) ∨ (cls b = 3 ∧ b = 59) ∨ (cls b = 4 ∧ ¬ (97 ≤ b ∧ b ≤ 122) ∧ ¬ (48 ≤ b ∧ b ≤ 57) ∧ b ≠ 59) := by
  unfold cls
  repeat' split
  all_goals omega
/-- the reference holds the token from a -/
def TkM (S : Sg) (T : Nat → Nat) (ts a : Nat) : Prop := gi S 65 9 = nI (SK T ts a) ∧ gi S 65 10 = nI (tS T ts a) ∧ (tS T ts a ≠ 4 → gi S 65 8 = nI (tE T ts a)) ∧ (tS T ts a = 2 → gi S 65 11 = nI (tV T ts a))
def rmX11_isLetter : Jvm.Room := { frames := 1, cells := 0, slots := 0, locals := 25 }
set_option maxHeartbeats 4000000 in
set_option maxRecDepth 100000 in
theorem t_X11_isLetter (l : Launch) (D : Dc) (G : Gg) (S : Sg) (z : Nat) (a0 : Int32) : MI l yX11_isLetter wsX11_isLetter rmX11_isLetter D G S z [.int a0] (fun r S' => S' = S ∧ ((r = 1 ∧ (97 ≤ a0.toInt ∧ a0.toInt ≤ 122)) ∨ (r = 0 ∧ ¬ (97 ≤ a0.toInt ∧ a0.toInt ≤ 122)))) := by
  refine Met.ofW (cc := cX11_isLetter) (maxL := 1) (ret := (some .boolean)) (by decide +kernel) rfl ?_
  intro pP eE s mM args bl mT cD s₁ bD hml hv
  obtain ⟨rfl, hv⟩ := hv
  have hz := hv.1
  subst hz
  have hx := bD.exec
  have hb := bD.bytes
  have hr := bD.returns
  have hts := atoms_spec (ws := wsX11_isLetter) bD.pre
  have hown : s.vm.findClass RX11 = some mM.cls := findClass_of_methodNamed bD.named
  have hlocks := bD.notSynchronized
  have hW := Wd.start hv
  have hA : ∀ q, s.heap.size ≤ q → AW G s.heap.size q := fun q h => Or.inr h
  have hl := lv_entry ([.int a0]) (n := 1) (Nat.le_of_ble_eq_true rfl)
  rw [lg_entry_eq]
  generalize (lg_sl ([.int a0]) ++ List.replicate (1 - (lg_sl ([.int a0])).length) Slot.unset).toArray = ls at hl ⊢
  have hl : lv_has ls 1 [(0, .int a0)] := hl
  have q0 := hts (.constantLong RX11 83 (97)) (List.mem_of_getElem? (i := 1) rfl)
  have q1 := hts (.constantLong RX11 85 (122)) (List.mem_of_getElem? (i := 2) rfl)
  refine lv_iload_n hx hb dX11_isLetter_0 rfl (lv_at hl 0 rfl) ?_
  refine lv_i2l hx hb dX11_isLetter_1 rfl ?_
  refine lv_ldc2 (v := (97)) hx hb hown q0 dX11_isLetter_2 ?_
  refine lv_ldc2 (v := (122)) hx hb hown q1 dX11_isLetter_5 ?_
  refine r_calli hW hA (va_runS (As := [.long (Int32.toInt64 a0), .long (97), .long (122)]) (rest := []) ⟨hx, hb, hml, hown, hts⟩ (t_X11_in l D G S _ (Int32.toInt64 a0) (97) (122) (a0).toInt 97 122 (Int32.toInt_toInt64 _) (by decide) (by decide)) (va_cwS 3 hts gX11_isLetter_X11_in rfl rfl rfl (by decide +kernel) ⟨Nat.le_of_ble_eq_true rfl, Nat.le_of_ble_eq_true rfl⟩) (r_preS hA hW) rfl rfl hl.1 rfl (lv_room (Nat.le_of_ble_eq_true rfl)) dX11_isLetter_8 ⟨Nat.zero_le _, Nat.zero_le _⟩) (fun r8 S8 H locs hp8 hW => ?_)
  obtain ⟨hs8, hp8⟩ := hp8
  rw [hs8] at hW
  rcases hp8 with ⟨rfl, h8⟩ | ⟨rfl, h8⟩
  · skip
    refine r_zret hx hb hr hlocks hW (Or.inr rfl) ?_ dX11_isLetter_11
    exact ⟨rfl, Or.inl ⟨rfl, h8⟩⟩
  · skip
    refine r_zret hx hb hr hlocks hW (Or.inl rfl) ?_ dX11_isLetter_11
    exact ⟨rfl, Or.inr ⟨rfl, h8⟩⟩

def rmX11_isFigure : Jvm.Room := { frames := 1, cells := 0, slots := 0, locals := 25 }
set_option maxHeartbeats 4000000 in
set_option maxRecDepth 100000 in
theorem t_X11_isFigure (l : Launch) (D : Dc) (G : Gg) (S : Sg) (z : Nat) (a0 : Int32) : MI l yX11_isFigure wsX11_isFigure rmX11_isFigure D G S z [.int a0] (fun r S' => S' = S ∧ ((r = 1 ∧ (48 ≤ a0.toInt ∧ a0.toInt ≤ 57)) ∨ (r = 0 ∧ ¬ (48 ≤ a0.toInt ∧ a0.toInt ≤ 57)))) := by
  refine Met.ofW (cc := cX11_isFigure) (maxL := 1) (ret := (some .boolean)) (by decide +kernel) rfl ?_
  intro pP eE s mM args bl mT cD s₁ bD hml hv
  obtain ⟨rfl, hv⟩ := hv
  have hz := hv.1
  subst hz
  have hx := bD.exec
  have hb := bD.bytes
  have hr := bD.returns
  have hts := atoms_spec (ws := wsX11_isFigure) bD.pre
  have hown : s.vm.findClass RX11 = some mM.cls := findClass_of_methodNamed bD.named
  have hlocks := bD.notSynchronized
  have hW := Wd.start hv
  have hA : ∀ q, s.heap.size ≤ q → AW G s.heap.size q := fun q h => Or.inr h
  have hl := lv_entry ([.int a0]) (n := 1) (Nat.le_of_ble_eq_true rfl)
  rw [lg_entry_eq]
  generalize (lg_sl ([.int a0]) ++ List.replicate (1 - (lg_sl ([.int a0])).length) Slot.unset).toArray = ls at hl ⊢
  have hl : lv_has ls 1 [(0, .int a0)] := hl
  have q0 := hts (.constantLong RX11 87 (48)) (List.mem_of_getElem? (i := 1) rfl)
  have q1 := hts (.constantLong RX11 89 (57)) (List.mem_of_getElem? (i := 2) rfl)
  refine lv_iload_n hx hb dX11_isFigure_0 rfl (lv_at hl 0 rfl) ?_
  refine lv_i2l hx hb dX11_isFigure_1 rfl ?_
  refine lv_ldc2 (v := (48)) hx hb hown q0 dX11_isFigure_2 ?_
  refine lv_ldc2 (v := (57)) hx hb hown q1 dX11_isFigure_5 ?_
  refine r_calli hW hA (va_runS (As := [.long (Int32.toInt64 a0), .long (48), .long (57)]) (rest := []) ⟨hx, hb, hml, hown, hts⟩ (t_X11_in l D G S _ (Int32.toInt64 a0) (48) (57) (a0).toInt 48 57 (Int32.toInt_toInt64 _) (by decide) (by decide)) (va_cwS 3 hts gX11_isFigure_X11_in rfl rfl rfl (by decide +kernel) ⟨Nat.le_of_ble_eq_true rfl, Nat.le_of_ble_eq_true rfl⟩) (r_preS hA hW) rfl rfl hl.1 rfl (lv_room (Nat.le_of_ble_eq_true rfl)) dX11_isFigure_8 ⟨Nat.zero_le _, Nat.zero_le _⟩) (fun r8 S8 H locs hp8 hW => ?_)
  obtain ⟨hs8, hp8⟩ := hp8
  rw [hs8] at hW
  rcases hp8 with ⟨rfl, h8⟩ | ⟨rfl, h8⟩
  · skip
    refine r_zret hx hb hr hlocks hW (Or.inr rfl) ?_ dX11_isFigure_11
    exact ⟨rfl, Or.inl ⟨rfl, h8⟩⟩
  · skip
    refine r_zret hx hb hr hlocks hW (Or.inl rfl) ?_ dX11_isFigure_11
    exact ⟨rfl, Or.inr ⟨rfl, h8⟩⟩

def rmX11_goOn : Jvm.Room := { frames := 2, cells := 0, slots := 0, locals := 45 }
set_option maxHeartbeats 4000000 in
set_option maxRecDepth 100000 in
theorem t_X11_goOn (l : Launch) (D : Dc) (G : Gg) (S : Sg) (z : Nat) (hG : GrG G) (hP : GrP G S) (T : Nat → Nat) (ts : Nat) (ht4 : ts ≤ 400) (hTB : ∀ i, i < ts → T i ≤ 255) (hX : TpM S T ts) (a0 : Nat) (ha0 : a0 ≤ ts) (h8a : gi S 65 8 = nI a0) : MV l yX11_goOn wsX11_goOn rmX11_goOn D G S z [.ref (gA G 65)] (fun S' => TkM S' T ts a0 ∧ (∀ j, j ≠ 8 → j ≠ 9 → j ≠ 10 → j ≠ 11 → gi S' 65 j = gi S 65 j) ∧ Ch (fun k => k = 65) S S') := by
  refine Met.ofW (cc := cX11_goOn) (maxL := 1) (ret := none) (by decide +kernel) rfl ?_
  intro pP eE s mM args bl mT cD s₁ bD hml hv
  obtain ⟨rfl, hv⟩ := hv
  have hz := hv.1
  subst hz
  have hx := bD.exec
  have hb := bD.bytes
  have hr := bD.returns
  have hts := atoms_spec (ws := wsX11_goOn) bD.pre
  have hown : s.vm.findClass RX11 = some mM.cls := findClass_of_methodNamed bD.named
  have hlocks := bD.notSynchronized
  have hW := Wd.start hv
  have hA : ∀ q, s.heap.size ≤ q → AW G s.heap.size q := fun q h => Or.inr h
  have hl := lv_entry ([.ref (gA G 65)]) (n := 1) (Nat.le_of_ble_eq_true rfl)
  rw [lg_entry_eq]
  generalize (lg_sl ([.ref (gA G 65)]) ++ List.replicate (1 - (lg_sl ([.ref (gA G 65)])).length) Slot.unset).toArray = ls at hl ⊢
  have hl : lv_has ls 1 [(0, .ref (gA G 65))] := hl
  have q0 := hts (.fieldLink RX11 91 "WoodForTwoModel" "at" "I") (List.mem_of_getElem? (i := 1) rfl)
  have q1 := hts (.fieldLink RX11 76 "WoodForTwoModel" "tapeSize" "I") (List.mem_of_getElem? (i := 2) rfl)
  have q2 := hts (.fieldLink RX11 94 "WoodForTwoModel" "first" "I") (List.mem_of_getElem? (i := 4) rfl)
  have q3 := hts (.fieldLink RX11 97 "WoodForTwoModel" "value" "I") (List.mem_of_getElem? (i := 5) rfl)
  have q4 := hts (.fieldLink RX11 100 "WoodForTwoModel" "token" "I") (List.mem_of_getElem? (i := 6) rfl)
  have q5 := hts (.fieldLink RX11 26 "WoodForTwoModel" "tape" "[I") (List.mem_of_getElem? (i := 3) rfl)
  have iX11 : ∀ w ∈ wsX110, w ∈ wsX11_goOn := fun _ h => List.mem_cons_of_mem _ (List.mem_append_right _ (h))
  generalize hQ0 : MQ bl _ _ s _ _ _ = Q0
  rw [show S = (ri S 65 (gi S 65)) from (ri_id S 65).symm] at hW
  have L0 : ∀ (n : Nat) (a : Nat) (rc : Nat → Int32) (H : Heap) (locs : List Loc) (ls : Array Slot), (ts - a) < n → a ≤ ts → SK T ts a0 = SK T ts a → rc 8 = nI a → rc 7 = nI ts → (∀ j, j ≠ 8 → j ≠ 9 → j ≠ 10 → j ≠ 11 → rc j = gi S 65 j) → Wd D (AW G s.heap.size) s G (ri S 65 rc) H locs → lv_has ls 1 [(0, .ref (gA G 65))] → W pP l eE (headSpec wsX11_goOn rmX11_goOn).room s mM ([.ref (gA G 65)] : List Value).toArray bl mT cD H locs 0 0 Q0 (F0 mM 0 ls []) := by
    intro n
    induction n with
    | zero => intro a rc H locs ls hm; exact absurd hm (Nat.not_lt_zero _)
    | succ n ih0 =>
      intro a rc H locs ls hm0 ha hsk hr8 hr7 hrc hW hl
      refine lv_aload_n hx hb dX11_goOn_0 rfl (lv_at hl 0 rfl) ?_
      refine r_geti (ci := 10) (C := RX11) (T := TX11) (N := 20) hx hb hts iX11 hown hW rfl 65 8 rfl (g_lt hG (by decide)) (g_kd hG (by decide) rfl) (by decide) q0 (fun _ h9 => h9) (nI a) ((congrFun (e_is _ _ _) 8).trans hr8) rfl rfl dX11_goOn_1 ?_
      refine lv_aload_n hx hb dX11_goOn_4 rfl (lv_at hl 0 rfl) ?_
      refine r_geti (ci := 10) (C := RX11) (T := TX11) (N := 20) hx hb hts iX11 hown hW rfl 65 7 rfl (g_lt hG (by decide)) (g_kd hG (by decide) rfl) (by decide) q1 (fun _ h9 => h9) (nI ts) ((congrFun (e_is _ _ _) 7).trans hr7) rfl rfl dX11_goOn_5 ?_
      refine lv_icmp_ge (tgt := 52) hx hb dX11_goOn_8 (by decide) (fun c8 => ?_) (fun c8 => ?_)
      · skip
        have hal : ts ≤ a := (n_le (a := ts) (b := a) (by omega) (by omega)).mp c8
        have hska : SK T ts a0 = a := hsk.trans (SK_e (Or.inl hal))
        have hat : ¬ a < ts := by omega
        refine lv_aload_n hx hb dX11_goOn_52 rfl (lv_at hl 0 rfl) ?_
        refine lv_aload_n hx hb dX11_goOn_53 rfl (lv_at hl 0 rfl) ?_
        refine r_geti (ci := 10) (C := RX11) (T := TX11) (N := 20) hx hb hts iX11 hown hW rfl 65 8 rfl (g_lt hG (by decide)) (g_kd hG (by decide) rfl) (by decide) q0 (fun _ h9 => h9) (nI a) ((congrFun (e_is _ _ _) 8).trans hr8) rfl rfl dX11_goOn_54 ?_
        refine r_puti (ci := 10) (C := RX11) (T := TX11) (N := 20) hx hb hts iX11 tyX11 tyX11_ok nmX11 hown hW rfl 65 9 rfl (g_lt hG (by decide)) (g_kd hG (by decide) rfl) (by decide) q2 (fun _ h9 => h9) rfl (tyX11_ok 9 (by decide)) rfl rfl (ri S 65 (va_up rc 9 (nI a))) rc (va_up rc 9 (nI a)) (e_is _ _ _) (e_is _ _ _) rfl rfl rfl (Nat.le_of_ble_eq_true rfl) rfl c_i dX11_goOn_57 (fun H locs hW => ?_)
        refine lv_aload_n hx hb dX11_goOn_60 rfl (lv_at hl 0 rfl) ?_
        refine lv_iconst (v := 0) hx hb dX11_goOn_61 (by decide) ?_
        refine r_puti (ci := 10) (C := RX11) (T := TX11) (N := 20) hx hb hts iX11 tyX11 tyX11_ok nmX11 hown hW rfl 65 11 rfl (g_lt hG (by decide)) (g_kd hG (by decide) rfl) (by decide) q3 (fun _ h9 => h9) rfl (tyX11_ok 11 (by decide)) rfl rfl (ri S 65 (va_up (va_up rc 9 (nI a)) 11 0)) (va_up rc 9 (nI a)) (va_up (va_up rc 9 (nI a)) 11 0) (e_is _ _ _) (e_is _ _ _) rfl rfl rfl (Nat.le_of_ble_eq_true rfl) rfl c_i dX11_goOn_62 (fun H locs hW => ?_)
        refine lv_aload_n hx hb dX11_goOn_65 rfl (lv_at hl 0 rfl) ?_
        refine r_geti (ci := 10) (C := RX11) (T := TX11) (N := 20) hx hb hts iX11 hown hW rfl 65 8 rfl (g_lt hG (by decide)) (g_kd hG (by decide) rfl) (by decide) q0 (fun _ h9 => h9) (nI a) ((congrFun (e_is _ _ _) 8).trans hr8) rfl rfl dX11_goOn_66 ?_
        refine lv_aload_n hx hb dX11_goOn_69 rfl (lv_at hl 0 rfl) ?_
        refine r_geti (ci := 10) (C := RX11) (T := TX11) (N := 20) hx hb hts iX11 hown hW rfl 65 7 rfl (g_lt hG (by decide)) (g_kd hG (by decide) rfl) (by decide) q1 (fun _ h9 => h9) (nI ts) ((congrFun (e_is _ _ _) 7).trans hr7) rfl rfl dX11_goOn_70 ?_
        refine lv_icmp_ne (tgt := 84) hx hb dX11_goOn_73 (by decide) (fun c73 => ?_) (fun c73 => ?_)
        · skip
          have d73 : a ≠ ts := fun z => c73 (by rw [z])
          exfalso; omega --stop
        · skip
          have d73 : a = ts := (n_eq (by omega) (by omega)).mp c73
          refine lv_aload_n hx hb dX11_goOn_76 rfl (lv_at hl 0 rfl) ?_
          refine lv_iconst (v := 0) hx hb dX11_goOn_77 (by decide) ?_
          refine r_puti (ci := 10) (C := RX11) (T := TX11) (N := 20) hx hb hts iX11 tyX11 tyX11_ok nmX11 hown hW rfl 65 10 rfl (g_lt hG (by decide)) (g_kd hG (by decide) rfl) (by decide) q4 (fun _ h9 => h9) rfl (tyX11_ok 10 (by decide)) rfl rfl (ri S 65 (va_up (va_up (va_up rc 9 (nI a)) 11 0) 10 0)) (va_up (va_up rc 9 (nI a)) 11 0) (va_up (va_up (va_up rc 9 (nI a)) 11 0) 10 0) (e_is _ _ _) (e_is _ _ _) rfl rfl rfl (Nat.le_of_ble_eq_true rfl) rfl c_i dX11_goOn_78 (fun H locs hW => ?_)
          refine lv_goto (tgt := 296) hx hb dX11_goOn_81 (by decide) ?_
          rw [← hQ0]
          refine r_vret hx hb hr hlocks hW ?_ dX11_goOn_296
          have hsu : tS T ts a0 = 0 := by unfold tS; rw [hska, if_neg hat]
          have hte : tE T ts a0 = a := by unfold tE; rw [hska, if_neg hat]
          exact ⟨⟨by rw [hska]; exact (congrFun (e_is _ _ _) 9).trans rfl, by rw [hsu]; exact (congrFun (e_is _ _ _) 10).trans rfl, fun _ => by rw [hte]; exact (congrFun (e_is _ _ _) 8).trans ((up_n _ _ (by decide)).trans ((up_n _ _ (by decide)).trans ((up_n _ _ (by decide)).trans hr8))), fun h2 => by rw [hsu] at h2; omega⟩, fun j h8 h9 h10 h11 => (congrFun (e_is _ _ _) j).trans (by rw [up_n _ _ h10, up_n _ _ h11, up_n _ _ h9]; exact hrc j h8 h9 h10 h11), Ch.ri Ch.rf rfl⟩
      · skip
        have hal : a < ts := by
          have h9 : ¬ ts ≤ a := fun z => c8 ((n_le (a := ts) (b := a) (by omega) (by omega)).mpr z)
          omega
        have hba := hTB a hal
        refine lv_aload_n hx hb dX11_goOn_11 rfl (lv_at hl 0 rfl) ?_
        refine r_getr (ci := 10) (C := RX11) (T := TX11) (N := 20) hx hb hts iX11 hown hW rfl 65 6 rfl (g_lt hG (by decide)) (g_kd hG (by decide) rfl) (by decide) q5 (fun _ h9 => h9) (hP _ (List.mem_of_getElem? (i := 65) rfl)) rfl rfl dX11_goOn_12 ?_
        refine lv_aload_n hx hb dX11_goOn_15 rfl (lv_at hl 0 rfl) ?_
        refine r_geti (ci := 10) (C := RX11) (T := TX11) (N := 20) hx hb hts iX11 hown hW rfl 65 8 rfl (g_lt hG (by decide)) (g_kd hG (by decide) rfl) (by decide) q0 (fun _ h9 => h9) (nI a) ((congrFun (e_is _ _ _) 8).trans hr8) rfl rfl dX11_goOn_16 ?_
        refine r_iald hx hb hW 71 rfl (g_lt hG (by decide)) (g_kd hG (by decide) rfl) (g_ix hG (c := 400) (by decide) rfl (n_inI (by omega) (by decide))) (nI (T a)) ((congrFun (e_in (by decide) rfl) _).trans (by rw [n_clamp (by omega)]; exact hX.2 a (by omega))) dX11_goOn_19 ?_
        refine lv_bipush (v := 32) hx hb dX11_goOn_20 (by decide) ?_
        refine lv_icmp_eq (tgt := 39) hx hb dX11_goOn_22 (by decide) (fun c22 => ?_) (fun c22 => ?_)
        · skip
          rw [t_eq, show (32 : Int32).toInt = 32 from by decide] at c22
          have hbl : T a = 32 := by rw [n_toInt (by omega)] at c22; omega
          refine lv_aload_n hx hb dX11_goOn_39 rfl (lv_at hl 0 rfl) ?_
          refine lv_dup hx hb dX11_goOn_40 rfl ?_
          refine r_geti (ci := 10) (C := RX11) (T := TX11) (N := 20) hx hb hts iX11 hown hW rfl 65 8 rfl (g_lt hG (by decide)) (g_kd hG (by decide) rfl) (by decide) q0 (fun _ h9 => h9) (nI a) ((congrFun (e_is _ _ _) 8).trans hr8) rfl rfl dX11_goOn_41 ?_
          refine lv_iconst (v := 1) hx hb dX11_goOn_44 (by decide) ?_
          refine lv_iadd hx hb dX11_goOn_45 ?_
          rw [show (((nI a) + 1) : Int32) = (nI (a + 1)) from n_add a 1]
          refine r_puti (ci := 10) (C := RX11) (T := TX11) (N := 20) hx hb hts iX11 tyX11 tyX11_ok nmX11 hown hW rfl 65 8 rfl (g_lt hG (by decide)) (g_kd hG (by decide) rfl) (by decide) q0 (fun _ h9 => h9) rfl (tyX11_ok 8 (by decide)) rfl rfl (ri S 65 (va_up rc 8 (nI (a + 1)))) rc (va_up rc 8 (nI (a + 1))) (e_is _ _ _) (e_is _ _ _) rfl rfl rfl (Nat.le_of_ble_eq_true rfl) rfl c_i dX11_goOn_46 (fun H locs hW => ?_)
          refine lv_goto (tgt := 0) hx hb dX11_goOn_49 (by decide) ?_
          exact ih0 (a + 1) (va_up rc 8 (nI (a + 1))) _ _ ls (by omega) (by omega) (hsk.trans (SK_b hal (by unfold blk; simp [hbl]))) (up_s _ _ _) ((up_n _ _ (by decide)).trans hr7) (fun j h8 h9 h10 h11 => by rw [up_n _ _ h8]; exact hrc j h8 h9 h10 h11) hW (lv_sub hl [0] rfl)
        · skip
          rw [t_eq, show (32 : Int32).toInt = 32 from by decide] at c22
          have hb32 : T a ≠ 32 := by rw [n_toInt (by omega)] at c22; omega
          refine lv_aload_n hx hb dX11_goOn_25 rfl (lv_at hl 0 rfl) ?_
          refine r_getr (ci := 10) (C := RX11) (T := TX11) (N := 20) hx hb hts iX11 hown hW rfl 65 6 rfl (g_lt hG (by decide)) (g_kd hG (by decide) rfl) (by decide) q5 (fun _ h9 => h9) (hP _ (List.mem_of_getElem? (i := 65) rfl)) rfl rfl dX11_goOn_26 ?_
          refine lv_aload_n hx hb dX11_goOn_29 rfl (lv_at hl 0 rfl) ?_
          refine r_geti (ci := 10) (C := RX11) (T := TX11) (N := 20) hx hb hts iX11 hown hW rfl 65 8 rfl (g_lt hG (by decide)) (g_kd hG (by decide) rfl) (by decide) q0 (fun _ h9 => h9) (nI a) ((congrFun (e_is _ _ _) 8).trans hr8) rfl rfl dX11_goOn_30 ?_
          refine r_iald hx hb hW 71 rfl (g_lt hG (by decide)) (g_kd hG (by decide) rfl) (g_ix hG (c := 400) (by decide) rfl (n_inI (by omega) (by decide))) (nI (T a)) ((congrFun (e_in (by decide) rfl) _).trans (by rw [n_clamp (by omega)]; exact hX.2 a (by omega))) dX11_goOn_33 ?_
          refine lv_bipush (v := 10) hx hb dX11_goOn_34 (by decide) ?_
          refine lv_icmp_ne (tgt := 52) hx hb dX11_goOn_36 (by decide) (fun c36 => ?_) (fun c36 => ?_)
          · skip
            rw [t_eq, show (10 : Int32).toInt = 10 from by decide] at c36
            have hb10 : T a ≠ 10 := by rw [n_toInt (by omega)] at c36; omega
            have hska : SK T ts a0 = a := hsk.trans (SK_e (Or.inr (by unfold blk; simp [hb32, hb10])))
            rcases cls_n (T a) with ⟨hcl, hcn⟩ | ⟨hcl, hcn⟩ | ⟨hcl, hcn⟩ | ⟨hcl, hcn⟩
            · skip
              refine lv_aload_n hx hb dX11_goOn_52 rfl (lv_at hl 0 rfl) ?_
              refine lv_aload_n hx hb dX11_goOn_53 rfl (lv_at hl 0 rfl) ?_
              refine r_geti (ci := 10) (C := RX11) (T := TX11) (N := 20) hx hb hts iX11 hown hW rfl 65 8 rfl (g_lt hG (by decide)) (g_kd hG (by decide) rfl) (by decide) q0 (fun _ h9 => h9) (nI a) ((congrFun (e_is _ _ _) 8).trans hr8) rfl rfl dX11_goOn_54 ?_
              refine r_puti (ci := 10) (C := RX11) (T := TX11) (N := 20) hx hb hts iX11 tyX11 tyX11_ok nmX11 hown hW rfl 65 9 rfl (g_lt hG (by decide)) (g_kd hG (by decide) rfl) (by decide) q2 (fun _ h9 => h9) rfl (tyX11_ok 9 (by decide)) rfl rfl (ri S 65 (va_up rc 9 (nI a))) rc (va_up rc 9 (nI a)) (e_is _ _ _) (e_is _ _ _) rfl rfl rfl (Nat.le_of_ble_eq_true rfl) rfl c_i dX11_goOn_57 (fun H locs hW => ?_)
              refine lv_aload_n hx hb dX11_goOn_60 rfl (lv_at hl 0 rfl) ?_
              refine lv_iconst (v := 0) hx hb dX11_goOn_61 (by decide) ?_
              refine r_puti (ci := 10) (C := RX11) (T := TX11) (N := 20) hx hb hts iX11 tyX11 tyX11_ok nmX11 hown hW rfl 65 11 rfl (g_lt hG (by decide)) (g_kd hG (by decide) rfl) (by decide) q3 (fun _ h9 => h9) rfl (tyX11_ok 11 (by decide)) rfl rfl (ri S 65 (va_up (va_up rc 9 (nI a)) 11 0)) (va_up rc 9 (nI a)) (va_up (va_up rc 9 (nI a)) 11 0) (e_is _ _ _) (e_is _ _ _) rfl rfl rfl (Nat.le_of_ble_eq_true rfl) rfl c_i dX11_goOn_62 (fun H locs hW => ?_)
              refine lv_aload_n hx hb dX11_goOn_65 rfl (lv_at hl 0 rfl) ?_
              refine r_geti (ci := 10) (C := RX11) (T := TX11) (N := 20) hx hb hts iX11 hown hW rfl 65 8 rfl (g_lt hG (by decide)) (g_kd hG (by decide) rfl) (by decide) q0 (fun _ h9 => h9) (nI a) ((congrFun (e_is _ _ _) 8).trans hr8) rfl rfl dX11_goOn_66 ?_
              refine lv_aload_n hx hb dX11_goOn_69 rfl (lv_at hl 0 rfl) ?_
              refine r_geti (ci := 10) (C := RX11) (T := TX11) (N := 20) hx hb hts iX11 hown hW rfl 65 7 rfl (g_lt hG (by decide)) (g_kd hG (by decide) rfl) (by decide) q1 (fun _ h9 => h9) (nI ts) ((congrFun (e_is _ _ _) 7).trans hr7) rfl rfl dX11_goOn_70 ?_
              refine lv_icmp_ne (tgt := 84) hx hb dX11_goOn_73 (by decide) (fun c73 => ?_) (fun c73 => ?_)
              · skip
                have d73 : a ≠ ts := fun z => c73 (by rw [z])
                refine lv_aload_n hx hb dX11_goOn_84 rfl (lv_at hl 0 rfl) ?_
                refine r_getr (ci := 10) (C := RX11) (T := TX11) (N := 20) hx hb hts iX11 hown hW rfl 65 6 rfl (g_lt hG (by decide)) (g_kd hG (by decide) rfl) (by decide) q5 (fun _ h9 => h9) (hP _ (List.mem_of_getElem? (i := 65) rfl)) rfl rfl dX11_goOn_85 ?_
                refine lv_aload_n hx hb dX11_goOn_88 rfl (lv_at hl 0 rfl) ?_
                refine r_geti (ci := 10) (C := RX11) (T := TX11) (N := 20) hx hb hts iX11 hown hW rfl 65 8 rfl (g_lt hG (by decide)) (g_kd hG (by decide) rfl) (by decide) q0 (fun _ h9 => h9) (nI a) ((congrFun (e_is _ _ _) 8).trans hr8) rfl rfl dX11_goOn_89 ?_
                refine r_iald hx hb hW 71 rfl (g_lt hG (by decide)) (g_kd hG (by decide) rfl) (g_ix hG (c := 400) (by decide) rfl (n_inI (by omega) (by decide))) (nI (T a)) ((congrFun (e_in (by decide) rfl) _).trans (by rw [n_clamp (by omega)]; exact hX.2 a (by omega))) dX11_goOn_92 ?_
                refine r_calli hW hA (va_runS (As := [.int (nI (T a))]) (rest := []) ⟨hx, hb, hml, hown, hts⟩ (t_X11_isLetter l D G (ri S 65 (va_up (va_up rc 9 (nI a)) 11 0)) _ (nI (T a))) (va_cwS 1 hts gX11_goOn_X11_isLetter rfl rfl rfl (by decide +kernel) ⟨Nat.le_of_ble_eq_true rfl, Nat.le_of_ble_eq_true rfl⟩) (r_preS hA hW) rfl rfl hl.1 rfl (lv_room (Nat.le_of_ble_eq_true rfl)) dX11_goOn_93 ⟨Nat.zero_le _, Nat.zero_le _⟩) (fun r93 S93 H locs hp93 hW => ?_)
                obtain ⟨hs93, hp93⟩ := hp93
                rw [hs93] at hW
                rw [n_toInt (by omega)] at hp93
                rcases hp93 with ⟨rfl, h93⟩ | ⟨rfl, h93⟩
                · skip
                  refine lv_if_eq (tgt := 143) hx hb dX11_goOn_96 (by decide) (fun c96 => ?_) (fun c96 => ?_)
                  · exact absurd c96 (by decide)
                  · skip
                    refine lv_aload_n hx hb dX11_goOn_99 rfl (lv_at hl 0 rfl) ?_
                    refine lv_iconst (v := 1) hx hb dX11_goOn_100 (by decide) ?_
                    refine r_puti (ci := 10) (C := RX11) (T := TX11) (N := 20) hx hb hts iX11 tyX11 tyX11_ok nmX11 hown hW rfl 65 10 rfl (g_lt hG (by decide)) (g_kd hG (by decide) rfl) (by decide) q4 (fun _ h9 => h9) rfl (tyX11_ok 10 (by decide)) rfl rfl (ri S 65 (va_up (va_up (va_up rc 9 (nI a)) 11 0) 10 1)) (va_up (va_up rc 9 (nI a)) 11 0) (va_up (va_up (va_up rc 9 (nI a)) 11 0) 10 1) (e_is _ _ _) (e_is _ _ _) rfl rfl rfl (Nat.le_of_ble_eq_true rfl) rfl c_i dX11_goOn_101 (fun H locs hW => ?_)
                    have L104 : ∀ (n : Nat) (e : Nat) (rd : Nat → Int32) (H : Heap) (locs : List Loc) (ls : Array Slot), (ts - e) < n → a ≤ e → e ≤ ts → RN T ts 1 a = RN T ts 1 e → (∀ i, a ≤ i → i < e → cls (T i) = 1) → rd 7 = nI ts → rd 9 = nI a → rd 8 = nI e → rd 10 = 1 → (∀ j, j ≠ 8 → j ≠ 9 → j ≠ 10 → j ≠ 11 → rd j = gi S 65 j) → Wd D (AW G s.heap.size) s G (ri S 65 rd) H locs → lv_has ls 1 [(0, .ref (gA G 65))] → W pP l eE (headSpec wsX11_goOn rmX11_goOn).room s mM ([.ref (gA G 65)] : List Value).toArray bl mT cD H locs 0 0 Q0 (F0 mM 104 ls []) := by
                      intro n
                      induction n with
                      | zero => intro e rd H locs ls hm; exact absurd hm (Nat.not_lt_zero _)
                      | succ n ih104 =>
                        intro e rd H locs ls hm104 hae het hrn hdg hq7 hq9 hq8 hq10 hqr hW hl
                        refine lv_aload_n hx hb dX11_goOn_104 rfl (lv_at hl 0 rfl) ?_
                        refine r_geti (ci := 10) (C := RX11) (T := TX11) (N := 20) hx hb hts iX11 hown hW rfl 65 8 rfl (g_lt hG (by decide)) (g_kd hG (by decide) rfl) (by decide) q0 (fun _ h9 => h9) (nI e) ((congrFun (e_is _ _ _) 8).trans hq8) rfl rfl dX11_goOn_105 ?_
                        refine lv_aload_n hx hb dX11_goOn_108 rfl (lv_at hl 0 rfl) ?_
                        refine r_geti (ci := 10) (C := RX11) (T := TX11) (N := 20) hx hb hts iX11 hown hW rfl 65 7 rfl (g_lt hG (by decide)) (g_kd hG (by decide) rfl) (by decide) q1 (fun _ h9 => h9) (nI ts) ((congrFun (e_is _ _ _) 7).trans hq7) rfl rfl dX11_goOn_109 ?_
                        refine lv_icmp_ge (tgt := 296) hx hb dX11_goOn_112 (by decide) (fun c112 => ?_) (fun c112 => ?_)
                        · skip
                          have h112g := (n_le (a := ts) (b := e) (by omega) (by omega)).mp c112
                          rw [← hQ0]
                          refine r_vret hx hb hr hlocks hW ?_ dX11_goOn_296
                          have hrn2 : RN T ts 1 a = e := hrn.trans (RN_e (Or.inl (by omega)))
                          have hte : tE T ts a0 = e := by unfold tE; rw [hska, if_pos hal, if_pos hcl]; exact hrn2
                          have hsu : tS T ts a0 = 1 := by unfold tS; rw [hska, if_pos hal, hcl]; simp
                          exact ⟨⟨by rw [hska]; exact (congrFun (e_is _ _ _) 9).trans hq9, by rw [hsu]; exact (congrFun (e_is _ _ _) 10).trans hq10, fun _ => by rw [hte]; exact (congrFun (e_is _ _ _) 8).trans hq8, fun h2 => by rw [hsu] at h2; omega⟩, fun j h8 h9 h10 h11 => (congrFun (e_is _ _ _) j).trans (by exact hqr j h8 h9 h10 h11), Ch.ri Ch.rf rfl⟩
                        · skip
                          have hel : e < ts := by
                            have h9 : ¬ ts ≤ e := fun z => c112 ((n_le (a := ts) (b := e) (by omega) (by omega)).mpr z)
                            omega
                          have hbe := hTB e hel
                          refine lv_aload_n hx hb dX11_goOn_115 rfl (lv_at hl 0 rfl) ?_
                          refine r_getr (ci := 10) (C := RX11) (T := TX11) (N := 20) hx hb hts iX11 hown hW rfl 65 6 rfl (g_lt hG (by decide)) (g_kd hG (by decide) rfl) (by decide) q5 (fun _ h9 => h9) (hP _ (List.mem_of_getElem? (i := 65) rfl)) rfl rfl dX11_goOn_116 ?_
                          refine lv_aload_n hx hb dX11_goOn_119 rfl (lv_at hl 0 rfl) ?_
                          refine r_geti (ci := 10) (C := RX11) (T := TX11) (N := 20) hx hb hts iX11 hown hW rfl 65 8 rfl (g_lt hG (by decide)) (g_kd hG (by decide) rfl) (by decide) q0 (fun _ h9 => h9) (nI e) ((congrFun (e_is _ _ _) 8).trans hq8) rfl rfl dX11_goOn_120 ?_
                          refine r_iald hx hb hW 71 rfl (g_lt hG (by decide)) (g_kd hG (by decide) rfl) (g_ix hG (c := 400) (by decide) rfl (n_inI (by omega) (by decide))) (nI (T e)) ((congrFun (e_in (by decide) rfl) _).trans (by rw [n_clamp (by omega)]; exact hX.2 e (by omega))) dX11_goOn_123 ?_
                          refine r_calli hW hA (va_runS (As := [.int (nI (T e))]) (rest := []) ⟨hx, hb, hml, hown, hts⟩ (t_X11_isLetter l D G (ri S 65 rd) _ (nI (T e))) (va_cwS 1 hts gX11_goOn_X11_isLetter rfl rfl rfl (by decide +kernel) ⟨Nat.le_of_ble_eq_true rfl, Nat.le_of_ble_eq_true rfl⟩) (r_preS hA hW) rfl rfl hl.1 rfl (lv_room (Nat.le_of_ble_eq_true rfl)) dX11_goOn_124 ⟨Nat.zero_le _, Nat.zero_le _⟩) (fun r124 S124 H locs hp124 hW => ?_)
                          obtain ⟨hs124, hp124⟩ := hp124
                          rw [hs124] at hW
                          rw [n_toInt (by omega)] at hp124
                          rcases hp124 with ⟨rfl, h124⟩ | ⟨rfl, h124⟩
                          · skip
                            refine lv_if_eq (tgt := 296) hx hb dX11_goOn_127 (by decide) (fun c127 => ?_) (fun c127 => ?_)
                            · exact absurd c127 (by decide)
                            · skip
                              have hce : cls (T e) = 1 := by unfold cls; rw [if_pos (by omega)]
                              refine lv_aload_n hx hb dX11_goOn_130 rfl (lv_at hl 0 rfl) ?_
                              refine lv_dup hx hb dX11_goOn_131 rfl ?_
                              refine r_geti (ci := 10) (C := RX11) (T := TX11) (N := 20) hx hb hts iX11 hown hW rfl 65 8 rfl (g_lt hG (by decide)) (g_kd hG (by decide) rfl) (by decide) q0 (fun _ h9 => h9) (nI e) ((congrFun (e_is _ _ _) 8).trans hq8) rfl rfl dX11_goOn_132 ?_
                              refine lv_iconst (v := 1) hx hb dX11_goOn_135 (by decide) ?_
                              refine lv_iadd hx hb dX11_goOn_136 ?_
                              rw [show (((nI e) + 1) : Int32) = (nI (e + 1)) from n_add e 1]
                              refine r_puti (ci := 10) (C := RX11) (T := TX11) (N := 20) hx hb hts iX11 tyX11 tyX11_ok nmX11 hown hW rfl 65 8 rfl (g_lt hG (by decide)) (g_kd hG (by decide) rfl) (by decide) q0 (fun _ h9 => h9) rfl (tyX11_ok 8 (by decide)) rfl rfl (ri S 65 (va_up rd 8 (nI (e + 1)))) rd (va_up rd 8 (nI (e + 1))) (e_is _ _ _) (e_is _ _ _) rfl rfl rfl (Nat.le_of_ble_eq_true rfl) rfl c_i dX11_goOn_137 (fun H locs hW => ?_)
                              refine lv_goto (tgt := 104) hx hb dX11_goOn_140 (by decide) ?_
                              exact ih104 (e + 1) (va_up rd 8 (nI (e + 1))) _ _ ls (by omega) (by omega) (by omega) (hrn.trans (RN_b hel hce)) (fun i h1 h2 => by rcases Nat.lt_or_eq_of_le (Nat.lt_succ_iff.mp h2) with z | z; exact hdg i h1 z; rw [z]; exact hce) ((up_n _ _ (by decide)).trans hq7) ((up_n _ _ (by decide)).trans hq9) (up_s _ _ _) ((up_n _ _ (by decide)).trans hq10) (fun j h8 h9 h10 h11 => by rw [up_n _ _ h8]; exact hqr j h8 h9 h10 h11) hW (lv_sub hl [0] rfl)
                          · skip
                            refine lv_if_eq (tgt := 296) hx hb dX11_goOn_127 (by decide) (fun c127 => ?_) (fun c127 => ?_)
                            · skip
                              rw [← hQ0]
                              refine r_vret hx hb hr hlocks hW ?_ dX11_goOn_296
                              have hrn2 : RN T ts 1 a = e := hrn.trans (RN_e (Or.inr (by unfold cls; (repeat' split) <;> omega)))
                              have hte : tE T ts a0 = e := by unfold tE; rw [hska, if_pos hal, if_pos hcl]; exact hrn2
                              have hsu : tS T ts a0 = 1 := by unfold tS; rw [hska, if_pos hal, hcl]; simp
                              exact ⟨⟨by rw [hska]; exact (congrFun (e_is _ _ _) 9).trans hq9, by rw [hsu]; exact (congrFun (e_is _ _ _) 10).trans hq10, fun _ => by rw [hte]; exact (congrFun (e_is _ _ _) 8).trans hq8, fun h2 => by rw [hsu] at h2; omega⟩, fun j h8 h9 h10 h11 => (congrFun (e_is _ _ _) j).trans (by exact hqr j h8 h9 h10 h11), Ch.ri Ch.rf rfl⟩
                            · exact absurd (by decide) c127
                    exact L104 _ a (va_up (va_up (va_up rc 9 (nI a)) 11 0) 10 1) _ _ ls (Nat.lt_succ_self _) (Nat.le_refl _) ha rfl (fun i h1 h2 => absurd h2 (by omega)) hr7 rfl hr8 rfl (fun j h8 h9 h10 h11 => by rw [up_n _ _ h10, up_n _ _ h11, up_n _ _ h9]; exact hrc j h8 h9 h10 h11) hW (lv_sub hl [0] rfl)
                · exfalso; omega
              · skip
                have d73 : a = ts := (n_eq (by omega) (by omega)).mp c73
                exfalso; omega --stop
            · skip
              refine lv_aload_n hx hb dX11_goOn_52 rfl (lv_at hl 0 rfl) ?_
              refine lv_aload_n hx hb dX11_goOn_53 rfl (lv_at hl 0 rfl) ?_
              refine r_geti (ci := 10) (C := RX11) (T := TX11) (N := 20) hx hb hts iX11 hown hW rfl 65 8 rfl (g_lt hG (by decide)) (g_kd hG (by decide) rfl) (by decide) q0 (fun _ h9 => h9) (nI a) ((congrFun (e_is _ _ _) 8).trans hr8) rfl rfl dX11_goOn_54 ?_
              refine r_puti (ci := 10) (C := RX11) (T := TX11) (N := 20) hx hb hts iX11 tyX11 tyX11_ok nmX11 hown hW rfl 65 9 rfl (g_lt hG (by decide)) (g_kd hG (by decide) rfl) (by decide) q2 (fun _ h9 => h9) rfl (tyX11_ok 9 (by decide)) rfl rfl (ri S 65 (va_up rc 9 (nI a))) rc (va_up rc 9 (nI a)) (e_is _ _ _) (e_is _ _ _) rfl rfl rfl (Nat.le_of_ble_eq_true rfl) rfl c_i dX11_goOn_57 (fun H locs hW => ?_)
              refine lv_aload_n hx hb dX11_goOn_60 rfl (lv_at hl 0 rfl) ?_
              refine lv_iconst (v := 0) hx hb dX11_goOn_61 (by decide) ?_
              refine r_puti (ci := 10) (C := RX11) (T := TX11) (N := 20) hx hb hts iX11 tyX11 tyX11_ok nmX11 hown hW rfl 65 11 rfl (g_lt hG (by decide)) (g_kd hG (by decide) rfl) (by decide) q3 (fun _ h9 => h9) rfl (tyX11_ok 11 (by decide)) rfl rfl (ri S 65 (va_up (va_up rc 9 (nI a)) 11 0)) (va_up rc 9 (nI a)) (va_up (va_up rc 9 (nI a)) 11 0) (e_is _ _ _) (e_is _ _ _) rfl rfl rfl (Nat.le_of_ble_eq_true rfl) rfl c_i dX11_goOn_62 (fun H locs hW => ?_)
              refine lv_aload_n hx hb dX11_goOn_65 rfl (lv_at hl 0 rfl) ?_
              refine r_geti (ci := 10) (C := RX11) (T := TX11) (N := 20) hx hb hts iX11 hown hW rfl 65 8 rfl (g_lt hG (by decide)) (g_kd hG (by decide) rfl) (by decide) q0 (fun _ h9 => h9) (nI a) ((congrFun (e_is _ _ _) 8).trans hr8) rfl rfl dX11_goOn_66 ?_
              refine lv_aload_n hx hb dX11_goOn_69 rfl (lv_at hl 0 rfl) ?_
              refine r_geti (ci := 10) (C := RX11) (T := TX11) (N := 20) hx hb hts iX11 hown hW rfl 65 7 rfl (g_lt hG (by decide)) (g_kd hG (by decide) rfl) (by decide) q1 (fun _ h9 => h9) (nI ts) ((congrFun (e_is _ _ _) 7).trans hr7) rfl rfl dX11_goOn_70 ?_
              refine lv_icmp_ne (tgt := 84) hx hb dX11_goOn_73 (by decide) (fun c73 => ?_) (fun c73 => ?_)
              · skip
                have d73 : a ≠ ts := fun z => c73 (by rw [z])
                refine lv_aload_n hx hb dX11_goOn_84 rfl (lv_at hl 0 rfl) ?_
                refine r_getr (ci := 10) (C := RX11) (T := TX11) (N := 20) hx hb hts iX11 hown hW rfl 65 6 rfl (g_lt hG (by decide)) (g_kd hG (by decide) rfl) (by decide) q5 (fun _ h9 => h9) (hP _ (List.mem_of_getElem? (i := 65) rfl)) rfl rfl dX11_goOn_85 ?_
                refine lv_aload_n hx hb dX11_goOn_88 rfl (lv_at hl 0 rfl) ?_
                refine r_geti (ci := 10) (C := RX11) (T := TX11) (N := 20) hx hb hts iX11 hown hW rfl 65 8 rfl (g_lt hG (by decide)) (g_kd hG (by decide) rfl) (by decide) q0 (fun _ h9 => h9) (nI a) ((congrFun (e_is _ _ _) 8).trans hr8) rfl rfl dX11_goOn_89 ?_
                refine r_iald hx hb hW 71 rfl (g_lt hG (by decide)) (g_kd hG (by decide) rfl) (g_ix hG (c := 400) (by decide) rfl (n_inI (by omega) (by decide))) (nI (T a)) ((congrFun (e_in (by decide) rfl) _).trans (by rw [n_clamp (by omega)]; exact hX.2 a (by omega))) dX11_goOn_92 ?_
                refine r_calli hW hA (va_runS (As := [.int (nI (T a))]) (rest := []) ⟨hx, hb, hml, hown, hts⟩ (t_X11_isLetter l D G (ri S 65 (va_up (va_up rc 9 (nI a)) 11 0)) _ (nI (T a))) (va_cwS 1 hts gX11_goOn_X11_isLetter rfl rfl rfl (by decide +kernel) ⟨Nat.le_of_ble_eq_true rfl, Nat.le_of_ble_eq_true rfl⟩) (r_preS hA hW) rfl rfl hl.1 rfl (lv_room (Nat.le_of_ble_eq_true rfl)) dX11_goOn_93 ⟨Nat.zero_le _, Nat.zero_le _⟩) (fun r93 S93 H locs hp93 hW => ?_)
                obtain ⟨hs93, hp93⟩ := hp93
                rw [hs93] at hW
                rw [n_toInt (by omega)] at hp93
                rcases hp93 with ⟨rfl, h93⟩ | ⟨rfl, h93⟩
                · exfalso; omega
                · skip
                  refine lv_if_eq (tgt := 143) hx hb dX11_goOn_96 (by decide) (fun c96 => ?_) (fun c96 => ?_)
                  · skip
                    refine lv_aload_n hx hb dX11_goOn_143 rfl (lv_at hl 0 rfl) ?_
                    refine r_getr (ci := 10) (C := RX11) (T := TX11) (N := 20) hx hb hts iX11 hown hW rfl 65 6 rfl (g_lt hG (by decide)) (g_kd hG (by decide) rfl) (by decide) q5 (fun _ h9 => h9) (hP _ (List.mem_of_getElem? (i := 65) rfl)) rfl rfl dX11_goOn_144 ?_
                    refine lv_aload_n hx hb dX11_goOn_147 rfl (lv_at hl 0 rfl) ?_
                    refine r_geti (ci := 10) (C := RX11) (T := TX11) (N := 20) hx hb hts iX11 hown hW rfl 65 8 rfl (g_lt hG (by decide)) (g_kd hG (by decide) rfl) (by decide) q0 (fun _ h9 => h9) (nI a) ((congrFun (e_is _ _ _) 8).trans hr8) rfl rfl dX11_goOn_148 ?_
                    refine r_iald hx hb hW 71 rfl (g_lt hG (by decide)) (g_kd hG (by decide) rfl) (g_ix hG (c := 400) (by decide) rfl (n_inI (by omega) (by decide))) (nI (T a)) ((congrFun (e_in (by decide) rfl) _).trans (by rw [n_clamp (by omega)]; exact hX.2 a (by omega))) dX11_goOn_151 ?_
                    refine r_calli hW hA (va_runS (As := [.int (nI (T a))]) (rest := []) ⟨hx, hb, hml, hown, hts⟩ (t_X11_isFigure l D G (ri S 65 (va_up (va_up rc 9 (nI a)) 11 0)) _ (nI (T a))) (va_cwS 1 hts gX11_goOn_X11_isFigure rfl rfl rfl (by decide +kernel) ⟨Nat.le_of_ble_eq_true rfl, Nat.le_of_ble_eq_true rfl⟩) (r_preS hA hW) rfl rfl hl.1 rfl (lv_room (Nat.le_of_ble_eq_true rfl)) dX11_goOn_152 ⟨Nat.zero_le _, Nat.zero_le _⟩) (fun r152 S152 H locs hp152 hW => ?_)
                    obtain ⟨hs152, hp152⟩ := hp152
                    rw [hs152] at hW
                    rw [n_toInt (by omega)] at hp152
                    rcases hp152 with ⟨rfl, h152⟩ | ⟨rfl, h152⟩
                    · skip
                      refine lv_if_eq (tgt := 263) hx hb dX11_goOn_155 (by decide) (fun c155 => ?_) (fun c155 => ?_)
                      · exact absurd c155 (by decide)
                      · skip
                        have L158 : ∀ (n : Nat) (e : Nat) (rd : Nat → Int32) (H : Heap) (locs : List Loc) (ls : Array Slot), (ts - e) < n → a ≤ e → e ≤ ts → RN T ts 2 a = RN T ts 2 e → (∀ i, a ≤ i → i < e → cls (T i) = 2) → rd 7 = nI ts → rd 9 = nI a → rd 8 = nI e → (∀ j, j ≠ 8 → j ≠ 9 → j ≠ 10 → j ≠ 11 → rd j = gi S 65 j) → (∃ w, rd 11 = nI w ∧ w ≤ 200000 ∧ (e - a ≤ 3 → w = nv T a (e - a))) → Wd D (AW G s.heap.size) s G (ri S 65 rd) H locs → lv_has ls 1 [(0, .ref (gA G 65))] → W pP l eE (headSpec wsX11_goOn rmX11_goOn).room s mM ([.ref (gA G 65)] : List Value).toArray bl mT cD H locs 0 0 Q0 (F0 mM 158 ls []) := by
                          intro n
                          induction n with
                          | zero => intro e rd H locs ls hm; exact absurd hm (Nat.not_lt_zero _)
                          | succ n ih158 =>
                            intro e rd H locs ls hm158 hae het hrn hdg hq7 hq9 hq8 hqr hqv hW hl
                            refine lv_aload_n hx hb dX11_goOn_158 rfl (lv_at hl 0 rfl) ?_
                            refine r_geti (ci := 10) (C := RX11) (T := TX11) (N := 20) hx hb hts iX11 hown hW rfl 65 8 rfl (g_lt hG (by decide)) (g_kd hG (by decide) rfl) (by decide) q0 (fun _ h9 => h9) (nI e) ((congrFun (e_is _ _ _) 8).trans hq8) rfl rfl dX11_goOn_159 ?_
                            refine lv_aload_n hx hb dX11_goOn_162 rfl (lv_at hl 0 rfl) ?_
                            refine r_geti (ci := 10) (C := RX11) (T := TX11) (N := 20) hx hb hts iX11 hown hW rfl 65 7 rfl (g_lt hG (by decide)) (g_kd hG (by decide) rfl) (by decide) q1 (fun _ h9 => h9) (nI ts) ((congrFun (e_is _ _ _) 7).trans hq7) rfl rfl dX11_goOn_163 ?_
                            refine lv_icmp_ge (tgt := 238) hx hb dX11_goOn_166 (by decide) (fun c166 => ?_) (fun c166 => ?_)
                            · skip
                              have h166g := (n_le (a := ts) (b := e) (by omega) (by omega)).mp c166
                              refine lv_aload_n hx hb dX11_goOn_238 rfl (lv_at hl 0 rfl) ?_
                              refine lv_aload_n hx hb dX11_goOn_239 rfl (lv_at hl 0 rfl) ?_
                              refine r_geti (ci := 10) (C := RX11) (T := TX11) (N := 20) hx hb hts iX11 hown hW rfl 65 8 rfl (g_lt hG (by decide)) (g_kd hG (by decide) rfl) (by decide) q0 (fun _ h9 => h9) (nI e) ((congrFun (e_is _ _ _) 8).trans hq8) rfl rfl dX11_goOn_240 ?_
                              refine lv_aload_n hx hb dX11_goOn_243 rfl (lv_at hl 0 rfl) ?_
                              refine r_geti (ci := 10) (C := RX11) (T := TX11) (N := 20) hx hb hts iX11 hown hW rfl 65 9 rfl (g_lt hG (by decide)) (g_kd hG (by decide) rfl) (by decide) q2 (fun _ h9 => h9) (nI a) ((congrFun (e_is _ _ _) 9).trans hq9) rfl rfl dX11_goOn_244 ?_
                              refine lv_isub hx hb dX11_goOn_247 ?_
                              rw [show (((nI e) - (nI a)) : Int32) = (nI (e - a)) from n_sub hae]
                              refine lv_iconst (v := 3) hx hb dX11_goOn_248 (by decide) ?_
                              refine lv_icmp_le (tgt := 256) hx hb dX11_goOn_249 (by decide) (fun c249 => ?_) (fun c249 => ?_)
                              · skip
                                rw [t_le, show (3 : Int32).toInt = 3 from by decide] at c249
                                have d249 : e - a ≤ 3 := by rw [n_toInt (by omega)] at c249; omega
                                refine lv_iconst (v := 2) hx hb dX11_goOn_256 (by decide) ?_
                                refine r_puti (ci := 10) (C := RX11) (T := TX11) (N := 20) hx hb hts iX11 tyX11 tyX11_ok nmX11 hown hW rfl 65 10 rfl (g_lt hG (by decide)) (g_kd hG (by decide) rfl) (by decide) q4 (fun _ h9 => h9) rfl (tyX11_ok 10 (by decide)) rfl rfl (ri S 65 (va_up rd 10 2)) rd (va_up rd 10 2) (e_is _ _ _) (e_is _ _ _) rfl rfl rfl (Nat.le_of_ble_eq_true rfl) rfl c_i dX11_goOn_257 (fun H locs hW => ?_)
                                refine lv_goto (tgt := 296) hx hb dX11_goOn_260 (by decide) ?_
                                rw [← hQ0]
                                refine r_vret hx hb hr hlocks hW ?_ dX11_goOn_296
                                have hrn2 : RN T ts 2 a = e := hrn.trans (RN_e (Or.inl (by omega)))
                                have hte : tE T ts a0 = e := by unfold tE; rw [hska, if_pos hal, if_neg (by omega), if_pos hcl]; exact hrn2
                                obtain ⟨w0, hw11, hwb, hwn⟩ := hqv
                                have hsu : tS T ts a0 = 2 := by unfold tS; rw [hska, if_pos hal, hrn2, hcl]; rw [if_neg (fun z => by omega)]
                                exact ⟨⟨by rw [hska]; exact (congrFun (e_is _ _ _) 9).trans ((up_n _ _ (by decide)).trans hq9), by rw [hsu]; exact (congrFun (e_is _ _ _) 10).trans rfl, fun _ => by rw [hte]; exact (congrFun (e_is _ _ _) 8).trans ((up_n _ _ (by decide)).trans hq8), fun h2 => by unfold tV; rw [hska, hte, ← hwn (by omega)]; exact (congrFun (e_is _ _ _) 11).trans ((up_n _ _ (by decide)).trans hw11)⟩, fun j h8 h9 h10 h11 => (congrFun (e_is _ _ _) j).trans (by rw [up_n _ _ h10]; exact hqr j h8 h9 h10 h11), Ch.ri Ch.rf rfl⟩
                              · skip
                                rw [t_le, show (3 : Int32).toInt = 3 from by decide] at c249
                                have d249 : ¬ e - a ≤ 3 := by rw [n_toInt (by omega)] at c249; omega
                                refine lv_iconst (v := 4) hx hb dX11_goOn_252 (by decide) ?_
                                refine lv_goto (tgt := 257) hx hb dX11_goOn_253 (by decide) ?_
                                refine r_puti (ci := 10) (C := RX11) (T := TX11) (N := 20) hx hb hts iX11 tyX11 tyX11_ok nmX11 hown hW rfl 65 10 rfl (g_lt hG (by decide)) (g_kd hG (by decide) rfl) (by decide) q4 (fun _ h9 => h9) rfl (tyX11_ok 10 (by decide)) rfl rfl (ri S 65 (va_up rd 10 4)) rd (va_up rd 10 4) (e_is _ _ _) (e_is _ _ _) rfl rfl rfl (Nat.le_of_ble_eq_true rfl) rfl c_i dX11_goOn_257 (fun H locs hW => ?_)
                                refine lv_goto (tgt := 296) hx hb dX11_goOn_260 (by decide) ?_
                                rw [← hQ0]
                                refine r_vret hx hb hr hlocks hW ?_ dX11_goOn_296
                                have hrn2 : RN T ts 2 a = e := hrn.trans (RN_e (Or.inl (by omega)))
                                have hte : tE T ts a0 = e := by unfold tE; rw [hska, if_pos hal, if_neg (by omega), if_pos hcl]; exact hrn2
                                obtain ⟨w0, hw11, hwb, hwn⟩ := hqv
                                have hsu : tS T ts a0 = 4 := by unfold tS; rw [hska, if_pos hal, hrn2, hcl]; rw [if_pos ⟨rfl, by omega⟩]
                                exact ⟨⟨by rw [hska]; exact (congrFun (e_is _ _ _) 9).trans ((up_n _ _ (by decide)).trans hq9), by rw [hsu]; exact (congrFun (e_is _ _ _) 10).trans rfl, fun _ => by rw [hte]; exact (congrFun (e_is _ _ _) 8).trans ((up_n _ _ (by decide)).trans hq8), fun h2 => by rw [hsu] at h2; omega⟩, fun j h8 h9 h10 h11 => (congrFun (e_is _ _ _) j).trans (by rw [up_n _ _ h10]; exact hqr j h8 h9 h10 h11), Ch.ri Ch.rf rfl⟩
                            · skip
                              have hel : e < ts := by
                                have h9 : ¬ ts ≤ e := fun z => c166 ((n_le (a := ts) (b := e) (by omega) (by omega)).mpr z)
                                omega
                              have hbe := hTB e hel
                              refine lv_aload_n hx hb dX11_goOn_169 rfl (lv_at hl 0 rfl) ?_
                              refine r_getr (ci := 10) (C := RX11) (T := TX11) (N := 20) hx hb hts iX11 hown hW rfl 65 6 rfl (g_lt hG (by decide)) (g_kd hG (by decide) rfl) (by decide) q5 (fun _ h9 => h9) (hP _ (List.mem_of_getElem? (i := 65) rfl)) rfl rfl dX11_goOn_170 ?_
                              refine lv_aload_n hx hb dX11_goOn_173 rfl (lv_at hl 0 rfl) ?_
                              refine r_geti (ci := 10) (C := RX11) (T := TX11) (N := 20) hx hb hts iX11 hown hW rfl 65 8 rfl (g_lt hG (by decide)) (g_kd hG (by decide) rfl) (by decide) q0 (fun _ h9 => h9) (nI e) ((congrFun (e_is _ _ _) 8).trans hq8) rfl rfl dX11_goOn_174 ?_
                              refine r_iald hx hb hW 71 rfl (g_lt hG (by decide)) (g_kd hG (by decide) rfl) (g_ix hG (c := 400) (by decide) rfl (n_inI (by omega) (by decide))) (nI (T e)) ((congrFun (e_in (by decide) rfl) _).trans (by rw [n_clamp (by omega)]; exact hX.2 e (by omega))) dX11_goOn_177 ?_
                              refine r_calli hW hA (va_runS (As := [.int (nI (T e))]) (rest := []) ⟨hx, hb, hml, hown, hts⟩ (t_X11_isFigure l D G (ri S 65 rd) _ (nI (T e))) (va_cwS 1 hts gX11_goOn_X11_isFigure rfl rfl rfl (by decide +kernel) ⟨Nat.le_of_ble_eq_true rfl, Nat.le_of_ble_eq_true rfl⟩) (r_preS hA hW) rfl rfl hl.1 rfl (lv_room (Nat.le_of_ble_eq_true rfl)) dX11_goOn_178 ⟨Nat.zero_le _, Nat.zero_le _⟩) (fun r178 S178 H locs hp178 hW => ?_)
                              obtain ⟨hs178, hp178⟩ := hp178
                              rw [hs178] at hW
                              rw [n_toInt (by omega)] at hp178
                              rcases hp178 with ⟨rfl, h178⟩ | ⟨rfl, h178⟩
                              · skip
                                refine lv_if_eq (tgt := 238) hx hb dX11_goOn_181 (by decide) (fun c181 => ?_) (fun c181 => ?_)
                                · exact absurd c181 (by decide)
                                · skip
                                  obtain ⟨w0, hw11, hwb, hwn⟩ := hqv
                                  refine lv_aload_n hx hb dX11_goOn_184 rfl (lv_at hl 0 rfl) ?_
                                  refine lv_aload_n hx hb dX11_goOn_185 rfl (lv_at hl 0 rfl) ?_
                                  refine r_geti (ci := 10) (C := RX11) (T := TX11) (N := 20) hx hb hts iX11 hown hW rfl 65 11 rfl (g_lt hG (by decide)) (g_kd hG (by decide) rfl) (by decide) q3 (fun _ h9 => h9) (nI w0) ((congrFun (e_is _ _ _) 11).trans hw11) rfl rfl dX11_goOn_186 ?_
                                  refine lv_sipush (v := 9999) hx hb dX11_goOn_189 (by decide) ?_
                                  refine lv_icmp_le (tgt := 202) hx hb dX11_goOn_192 (by decide) (fun c192 => ?_) (fun c192 => ?_)
                                  · skip
                                    rw [t_le, show (9999 : Int32).toInt = 9999 from by decide] at c192
                                    refine lv_bipush (v := 10) hx hb dX11_goOn_202 (by decide) ?_
                                    refine lv_aload_n hx hb dX11_goOn_204 rfl (lv_at hl 0 rfl) ?_
                                    refine r_geti (ci := 10) (C := RX11) (T := TX11) (N := 20) hx hb hts iX11 hown hW rfl 65 11 rfl (g_lt hG (by decide)) (g_kd hG (by decide) rfl) (by decide) q3 (fun _ h9 => h9) (nI w0) ((congrFun (e_is _ _ _) 11).trans hw11) rfl rfl dX11_goOn_205 ?_
                                    refine lv_imul hx hb dX11_goOn_208 ?_
                                    rw [show ((10 * (nI w0)) : Int32) = (nI (10 * w0)) from n_mul 10 w0]
                                    refine lv_aload_n hx hb dX11_goOn_209 rfl (lv_at hl 0 rfl) ?_
                                    refine r_getr (ci := 10) (C := RX11) (T := TX11) (N := 20) hx hb hts iX11 hown hW rfl 65 6 rfl (g_lt hG (by decide)) (g_kd hG (by decide) rfl) (by decide) q5 (fun _ h9 => h9) (hP _ (List.mem_of_getElem? (i := 65) rfl)) rfl rfl dX11_goOn_210 ?_
                                    refine lv_aload_n hx hb dX11_goOn_213 rfl (lv_at hl 0 rfl) ?_
                                    refine r_geti (ci := 10) (C := RX11) (T := TX11) (N := 20) hx hb hts iX11 hown hW rfl 65 8 rfl (g_lt hG (by decide)) (g_kd hG (by decide) rfl) (by decide) q0 (fun _ h9 => h9) (nI e) ((congrFun (e_is _ _ _) 8).trans hq8) rfl rfl dX11_goOn_214 ?_
                                    refine r_iald hx hb hW 71 rfl (g_lt hG (by decide)) (g_kd hG (by decide) rfl) (g_ix hG (c := 400) (by decide) rfl (n_inI (by omega) (by decide))) (nI (T e)) ((congrFun (e_in (by decide) rfl) _).trans (by rw [n_clamp (by omega)]; exact hX.2 e (by omega))) dX11_goOn_217 ?_
                                    refine lv_iadd hx hb dX11_goOn_218 ?_
                                    rw [show (((nI (10 * w0)) + (nI (T e))) : Int32) = (nI ((10 * w0) + (T e))) from n_add (10 * w0) (T e)]
                                    refine lv_bipush (v := 48) hx hb dX11_goOn_219 (by decide) ?_
                                    refine lv_isub hx hb dX11_goOn_221 ?_
                                    have hce : cls (T e) = 2 := by unfold cls; rw [if_neg (by omega), if_pos (by omega)]
                                    have d192 : w0 ≤ 9999 := by rw [n_toInt (by omega)] at c192; omega
                                    obtain ⟨w2, hw2e, hw2, hwn2⟩ : ∃ w2, 10 * w0 + T e - 48 = w2 ∧ w2 ≤ 200000 ∧ (e + 1 - a ≤ 3 → w2 = nv T a (e + 1 - a)) := ⟨_, rfl, by omega, fun h3 => by rw [hwn (by omega), show e + 1 - a = (e - a) + 1 by omega]; show _ = 10 * nv T a (e - a) + (T (a + (e - a)) - 48); rw [show a + (e - a) = e by omega]; omega⟩
                                    rw [show (((nI ((10 * w0) + (T e))) - 48) : Int32) = nI w2 from by rw [← hw2e]; exact n_sub (b := 48) (by omega)]
                                    refine r_puti (ci := 10) (C := RX11) (T := TX11) (N := 20) hx hb hts iX11 tyX11 tyX11_ok nmX11 hown hW rfl 65 11 rfl (g_lt hG (by decide)) (g_kd hG (by decide) rfl) (by decide) q3 (fun _ h9 => h9) rfl (tyX11_ok 11 (by decide)) rfl rfl (ri S 65 (va_up rd 11 (nI w2))) rd (va_up rd 11 (nI w2)) (e_is _ _ _) (e_is _ _ _) rfl rfl rfl (Nat.le_of_ble_eq_true rfl) rfl c_i dX11_goOn_222 (fun H locs hW => ?_)
                                    refine lv_aload_n hx hb dX11_goOn_225 rfl (lv_at hl 0 rfl) ?_
                                    refine lv_dup hx hb dX11_goOn_226 rfl ?_
                                    refine r_geti (ci := 10) (C := RX11) (T := TX11) (N := 20) hx hb hts iX11 hown hW rfl 65 8 rfl (g_lt hG (by decide)) (g_kd hG (by decide) rfl) (by decide) q0 (fun _ h9 => h9) (nI e) ((congrFun (e_is _ _ _) 8).trans hq8) rfl rfl dX11_goOn_227 ?_
                                    refine lv_iconst (v := 1) hx hb dX11_goOn_230 (by decide) ?_
                                    refine lv_iadd hx hb dX11_goOn_231 ?_
                                    rw [show (((nI e) + 1) : Int32) = (nI (e + 1)) from n_add e 1]
                                    refine r_puti (ci := 10) (C := RX11) (T := TX11) (N := 20) hx hb hts iX11 tyX11 tyX11_ok nmX11 hown hW rfl 65 8 rfl (g_lt hG (by decide)) (g_kd hG (by decide) rfl) (by decide) q0 (fun _ h9 => h9) rfl (tyX11_ok 8 (by decide)) rfl rfl (ri S 65 (va_up (va_up rd 11 (nI w2)) 8 (nI (e + 1)))) (va_up rd 11 (nI w2)) (va_up (va_up rd 11 (nI w2)) 8 (nI (e + 1))) (e_is _ _ _) (e_is _ _ _) rfl rfl rfl (Nat.le_of_ble_eq_true rfl) rfl c_i dX11_goOn_232 (fun H locs hW => ?_)
                                    refine lv_goto (tgt := 158) hx hb dX11_goOn_235 (by decide) ?_
                                    exact ih158 (e + 1) (va_up (va_up rd 11 (nI w2)) 8 (nI (e + 1))) _ _ ls (by omega) (by omega) (by omega) (hrn.trans (RN_b hel hce)) (fun i h1 h2 => by rcases Nat.lt_or_eq_of_le (Nat.lt_succ_iff.mp h2) with z | z; exact hdg i h1 z; rw [z]; exact hce) ((up_n _ _ (by decide)).trans ((up_n _ _ (by decide)).trans hq7)) ((up_n _ _ (by decide)).trans ((up_n _ _ (by decide)).trans hq9)) (up_s _ _ _) (fun j h8 h9 h10 h11 => by rw [up_n _ _ h8, up_n _ _ h11]; exact hqr j h8 h9 h10 h11) ⟨w2, (up_n _ _ (by decide)).trans (up_s _ _ _), hw2, hwn2⟩ hW (lv_sub hl [0] rfl)
                                  · skip
                                    rw [t_le, show (9999 : Int32).toInt = 9999 from by decide] at c192
                                    refine lv_aload_n hx hb dX11_goOn_195 rfl (lv_at hl 0 rfl) ?_
                                    refine r_geti (ci := 10) (C := RX11) (T := TX11) (N := 20) hx hb hts iX11 hown hW rfl 65 11 rfl (g_lt hG (by decide)) (g_kd hG (by decide) rfl) (by decide) q3 (fun _ h9 => h9) (nI w0) ((congrFun (e_is _ _ _) 11).trans hw11) rfl rfl dX11_goOn_196 ?_
                                    refine lv_goto (tgt := 222) hx hb dX11_goOn_199 (by decide) ?_
                                    have hce : cls (T e) = 2 := by unfold cls; rw [if_neg (by omega), if_pos (by omega)]
                                    have c192 : 9999 < w0 := by rw [n_toInt (by omega)] at c192; omega
                                    obtain ⟨w2, hw2e, hw2, hwn2⟩ : ∃ w2, w0 = w2 ∧ w2 ≤ 200000 ∧ (e + 1 - a ≤ 3 → w2 = nv T a (e + 1 - a)) := ⟨w0, rfl, hwb, fun h3 => by exfalso; have z := hwn (by omega); have z2 := nv_le (T := T) (s := a) (e - a) (fun i hi => (cls_2 (hdg (a + i) (by omega) (by omega))).2) (by omega); omega⟩
                                    rw [hw2e]
                                    refine r_puti (ci := 10) (C := RX11) (T := TX11) (N := 20) hx hb hts iX11 tyX11 tyX11_ok nmX11 hown hW rfl 65 11 rfl (g_lt hG (by decide)) (g_kd hG (by decide) rfl) (by decide) q3 (fun _ h9 => h9) rfl (tyX11_ok 11 (by decide)) rfl rfl (ri S 65 (va_up rd 11 (nI w2))) rd (va_up rd 11 (nI w2)) (e_is _ _ _) (e_is _ _ _) rfl rfl rfl (Nat.le_of_ble_eq_true rfl) rfl c_i dX11_goOn_222 (fun H locs hW => ?_)
                                    refine lv_aload_n hx hb dX11_goOn_225 rfl (lv_at hl 0 rfl) ?_
                                    refine lv_dup hx hb dX11_goOn_226 rfl ?_
                                    refine r_geti (ci := 10) (C := RX11) (T := TX11) (N := 20) hx hb hts iX11 hown hW rfl 65 8 rfl (g_lt hG (by decide)) (g_kd hG (by decide) rfl) (by decide) q0 (fun _ h9 => h9) (nI e) ((congrFun (e_is _ _ _) 8).trans hq8) rfl rfl dX11_goOn_227 ?_
                                    refine lv_iconst (v := 1) hx hb dX11_goOn_230 (by decide) ?_
                                    refine lv_iadd hx hb dX11_goOn_231 ?_
                                    rw [show (((nI e) + 1) : Int32) = (nI (e + 1)) from n_add e 1]
                                    refine r_puti (ci := 10) (C := RX11) (T := TX11) (N := 20) hx hb hts iX11 tyX11 tyX11_ok nmX11 hown hW rfl 65 8 rfl (g_lt hG (by decide)) (g_kd hG (by decide) rfl) (by decide) q0 (fun _ h9 => h9) rfl (tyX11_ok 8 (by decide)) rfl rfl (ri S 65 (va_up (va_up rd 11 (nI w2)) 8 (nI (e + 1)))) (va_up rd 11 (nI w2)) (va_up (va_up rd 11 (nI w2)) 8 (nI (e + 1))) (e_is _ _ _) (e_is _ _ _) rfl rfl rfl (Nat.le_of_ble_eq_true rfl) rfl c_i dX11_goOn_232 (fun H locs hW => ?_)
                                    refine lv_goto (tgt := 158) hx hb dX11_goOn_235 (by decide) ?_
                                    exact ih158 (e + 1) (va_up (va_up rd 11 (nI w2)) 8 (nI (e + 1))) _ _ ls (by omega) (by omega) (by omega) (hrn.trans (RN_b hel hce)) (fun i h1 h2 => by rcases Nat.lt_or_eq_of_le (Nat.lt_succ_iff.mp h2) with z | z; exact hdg i h1 z; rw [z]; exact hce) ((up_n _ _ (by decide)).trans ((up_n _ _ (by decide)).trans hq7)) ((up_n _ _ (by decide)).trans ((up_n _ _ (by decide)).trans hq9)) (up_s _ _ _) (fun j h8 h9 h10 h11 => by rw [up_n _ _ h8, up_n _ _ h11]; exact hqr j h8 h9 h10 h11) ⟨w2, (up_n _ _ (by decide)).trans (up_s _ _ _), hw2, hwn2⟩ hW (lv_sub hl [0] rfl)
                              · skip
                                refine lv_if_eq (tgt := 238) hx hb dX11_goOn_181 (by decide) (fun c181 => ?_) (fun c181 => ?_)
                                · skip
                                  refine lv_aload_n hx hb dX11_goOn_238 rfl (lv_at hl 0 rfl) ?_
                                  refine lv_aload_n hx hb dX11_goOn_239 rfl (lv_at hl 0 rfl) ?_
                                  refine r_geti (ci := 10) (C := RX11) (T := TX11) (N := 20) hx hb hts iX11 hown hW rfl 65 8 rfl (g_lt hG (by decide)) (g_kd hG (by decide) rfl) (by decide) q0 (fun _ h9 => h9) (nI e) ((congrFun (e_is _ _ _) 8).trans hq8) rfl rfl dX11_goOn_240 ?_
                                  refine lv_aload_n hx hb dX11_goOn_243 rfl (lv_at hl 0 rfl) ?_
                                  refine r_geti (ci := 10) (C := RX11) (T := TX11) (N := 20) hx hb hts iX11 hown hW rfl 65 9 rfl (g_lt hG (by decide)) (g_kd hG (by decide) rfl) (by decide) q2 (fun _ h9 => h9) (nI a) ((congrFun (e_is _ _ _) 9).trans hq9) rfl rfl dX11_goOn_244 ?_
                                  refine lv_isub hx hb dX11_goOn_247 ?_
                                  rw [show (((nI e) - (nI a)) : Int32) = (nI (e - a)) from n_sub hae]
                                  refine lv_iconst (v := 3) hx hb dX11_goOn_248 (by decide) ?_
                                  refine lv_icmp_le (tgt := 256) hx hb dX11_goOn_249 (by decide) (fun c249 => ?_) (fun c249 => ?_)
                                  · skip
                                    rw [t_le, show (3 : Int32).toInt = 3 from by decide] at c249
                                    have d249 : e - a ≤ 3 := by rw [n_toInt (by omega)] at c249; omega
                                    refine lv_iconst (v := 2) hx hb dX11_goOn_256 (by decide) ?_
                                    refine r_puti (ci := 10) (C := RX11) (T := TX11) (N := 20) hx hb hts iX11 tyX11 tyX11_ok nmX11 hown hW rfl 65 10 rfl (g_lt hG (by decide)) (g_kd hG (by decide) rfl) (by decide) q4 (fun _ h9 => h9) rfl (tyX11_ok 10 (by decide)) rfl rfl (ri S 65 (va_up rd 10 2)) rd (va_up rd 10 2) (e_is _ _ _) (e_is _ _ _) rfl rfl rfl (Nat.le_of_ble_eq_true rfl) rfl c_i dX11_goOn_257 (fun H locs hW => ?_)
                                    refine lv_goto (tgt := 296) hx hb dX11_goOn_260 (by decide) ?_
                                    rw [← hQ0]
                                    refine r_vret hx hb hr hlocks hW ?_ dX11_goOn_296
                                    have hrn2 : RN T ts 2 a = e := hrn.trans (RN_e (Or.inr (by unfold cls; (repeat' split) <;> omega)))
                                    have hte : tE T ts a0 = e := by unfold tE; rw [hska, if_pos hal, if_neg (by omega), if_pos hcl]; exact hrn2
                                    obtain ⟨w0, hw11, hwb, hwn⟩ := hqv
                                    have hsu : tS T ts a0 = 2 := by unfold tS; rw [hska, if_pos hal, hrn2, hcl]; rw [if_neg (fun z => by omega)]
                                    exact ⟨⟨by rw [hska]; exact (congrFun (e_is _ _ _) 9).trans ((up_n _ _ (by decide)).trans hq9), by rw [hsu]; exact (congrFun (e_is _ _ _) 10).trans rfl, fun _ => by rw [hte]; exact (congrFun (e_is _ _ _) 8).trans ((up_n _ _ (by decide)).trans hq8), fun h2 => by unfold tV; rw [hska, hte, ← hwn (by omega)]; exact (congrFun (e_is _ _ _) 11).trans ((up_n _ _ (by decide)).trans hw11)⟩, fun j h8 h9 h10 h11 => (congrFun (e_is _ _ _) j).trans (by rw [up_n _ _ h10]; exact hqr j h8 h9 h10 h11), Ch.ri Ch.rf rfl⟩
                                  · skip
                                    rw [t_le, show (3 : Int32).toInt = 3 from by decide] at c249
                                    have d249 : ¬ e - a ≤ 3 := by rw [n_toInt (by omega)] at c249; omega
                                    refine lv_iconst (v := 4) hx hb dX11_goOn_252 (by decide) ?_
                                    refine lv_goto (tgt := 257) hx hb dX11_goOn_253 (by decide) ?_
                                    refine r_puti (ci := 10) (C := RX11) (T := TX11) (N := 20) hx hb hts iX11 tyX11 tyX11_ok nmX11 hown hW rfl 65 10 rfl (g_lt hG (by decide)) (g_kd hG (by decide) rfl) (by decide) q4 (fun _ h9 => h9) rfl (tyX11_ok 10 (by decide)) rfl rfl (ri S 65 (va_up rd 10 4)) rd (va_up rd 10 4) (e_is _ _ _) (e_is _ _ _) rfl rfl rfl (Nat.le_of_ble_eq_true rfl) rfl c_i dX11_goOn_257 (fun H locs hW => ?_)
                                    refine lv_goto (tgt := 296) hx hb dX11_goOn_260 (by decide) ?_
                                    rw [← hQ0]
                                    refine r_vret hx hb hr hlocks hW ?_ dX11_goOn_296
                                    have hrn2 : RN T ts 2 a = e := hrn.trans (RN_e (Or.inr (by unfold cls; (repeat' split) <;> omega)))
                                    have hte : tE T ts a0 = e := by unfold tE; rw [hska, if_pos hal, if_neg (by omega), if_pos hcl]; exact hrn2
                                    obtain ⟨w0, hw11, hwb, hwn⟩ := hqv
                                    have hsu : tS T ts a0 = 4 := by unfold tS; rw [hska, if_pos hal, hrn2, hcl]; rw [if_pos ⟨rfl, by omega⟩]
                                    exact ⟨⟨by rw [hska]; exact (congrFun (e_is _ _ _) 9).trans ((up_n _ _ (by decide)).trans hq9), by rw [hsu]; exact (congrFun (e_is _ _ _) 10).trans rfl, fun _ => by rw [hte]; exact (congrFun (e_is _ _ _) 8).trans ((up_n _ _ (by decide)).trans hq8), fun h2 => by rw [hsu] at h2; omega⟩, fun j h8 h9 h10 h11 => (congrFun (e_is _ _ _) j).trans (by rw [up_n _ _ h10]; exact hqr j h8 h9 h10 h11), Ch.ri Ch.rf rfl⟩
                                · exact absurd (by decide) c181
                        exact L158 _ a (va_up (va_up rc 9 (nI a)) 11 0) _ _ ls (Nat.lt_succ_self _) (Nat.le_refl _) ha rfl (fun i h1 h2 => absurd h2 (by omega)) hr7 rfl hr8 (fun j h8 h9 h10 h11 => by rw [up_n _ _ h11, up_n _ _ h9]; exact hrc j h8 h9 h10 h11) ⟨0, rfl, by omega, fun _ => by rw [Nat.sub_self]; rfl⟩ hW (lv_sub hl [0] rfl)
                    · exfalso; omega
                  · exact absurd (by decide) c96
              · skip
                have d73 : a = ts := (n_eq (by omega) (by omega)).mp c73
                exfalso; omega --stop
            · skip
              refine lv_aload_n hx hb dX11_goOn_52 rfl (lv_at hl 0 rfl) ?_
              refine lv_aload_n hx hb dX11_goOn_53 rfl (lv_at hl 0 rfl) ?_
              refine r_geti (ci := 10) (C := RX11) (T := TX11) (N := 20) hx hb hts iX11 hown hW rfl 65 8 rfl (g_lt hG (by decide)) (g_kd hG (by decide) rfl) (by decide) q0 (fun _ h9 => h9) (nI a) ((congrFun (e_is _ _ _) 8).trans hr8) rfl rfl dX11_goOn_54 ?_
              refine r_puti (ci := 10) (C := RX11) (T := TX11) (N := 20) hx hb hts iX11 tyX11 tyX11_ok nmX11 hown hW rfl 65 9 rfl (g_lt hG (by decide)) (g_kd hG (by decide) rfl) (by decide) q2 (fun _ h9 => h9) rfl (tyX11_ok 9 (by decide)) rfl rfl (ri S 65 (va_up rc 9 (nI a))) rc (va_up rc 9 (nI a)) (e_is _ _ _) (e_is _ _ _) rfl rfl rfl (Nat.le_of_ble_eq_true rfl) rfl c_i dX11_goOn_57 (fun H locs hW => ?_)
              refine lv_aload_n hx hb dX11_goOn_60 rfl (lv_at hl 0 rfl) ?_
              refine lv_iconst (v := 0) hx hb dX11_goOn_61 (by decide) ?_
              refine r_puti (ci := 10) (C := RX11) (T := TX11) (N := 20) hx hb hts iX11 tyX11 tyX11_ok nmX11 hown hW rfl 65 11 rfl (g_lt hG (by decide)) (g_kd hG (by decide) rfl) (by decide) q3 (fun _ h9 => h9) rfl (tyX11_ok 11 (by decide)) rfl rfl (ri S 65 (va_up (va_up rc 9 (nI a)) 11 0)) (va_up rc 9 (nI a)) (va_up (va_up rc 9 (nI a)) 11 0) (e_is _ _ _) (e_is _ _ _) rfl rfl rfl (Nat.le_of_ble_eq_true rfl) rfl c_i dX11_goOn_62 (fun H locs hW => ?_)
              refine lv_aload_n hx hb dX11_goOn_65 rfl (lv_at hl 0 rfl) ?_
              refine r_geti (ci := 10) (C := RX11) (T := TX11) (N := 20) hx hb hts iX11 hown hW rfl 65 8 rfl (g_lt hG (by decide)) (g_kd hG (by decide) rfl) (by decide) q0 (fun _ h9 => h9) (nI a) ((congrFun (e_is _ _ _) 8).trans hr8) rfl rfl dX11_goOn_66 ?_
              refine lv_aload_n hx hb dX11_goOn_69 rfl (lv_at hl 0 rfl) ?_
              refine r_geti (ci := 10) (C := RX11) (T := TX11) (N := 20) hx hb hts iX11 hown hW rfl 65 7 rfl (g_lt hG (by decide)) (g_kd hG (by decide) rfl) (by decide) q1 (fun _ h9 => h9) (nI ts) ((congrFun (e_is _ _ _) 7).trans hr7) rfl rfl dX11_goOn_70 ?_
              refine lv_icmp_ne (tgt := 84) hx hb dX11_goOn_73 (by decide) (fun c73 => ?_) (fun c73 => ?_)
              · skip
                have d73 : a ≠ ts := fun z => c73 (by rw [z])
                refine lv_aload_n hx hb dX11_goOn_84 rfl (lv_at hl 0 rfl) ?_
                refine r_getr (ci := 10) (C := RX11) (T := TX11) (N := 20) hx hb hts iX11 hown hW rfl 65 6 rfl (g_lt hG (by decide)) (g_kd hG (by decide) rfl) (by decide) q5 (fun _ h9 => h9) (hP _ (List.mem_of_getElem? (i := 65) rfl)) rfl rfl dX11_goOn_85 ?_
                refine lv_aload_n hx hb dX11_goOn_88 rfl (lv_at hl 0 rfl) ?_
                refine r_geti (ci := 10) (C := RX11) (T := TX11) (N := 20) hx hb hts iX11 hown hW rfl 65 8 rfl (g_lt hG (by decide)) (g_kd hG (by decide) rfl) (by decide) q0 (fun _ h9 => h9) (nI a) ((congrFun (e_is _ _ _) 8).trans hr8) rfl rfl dX11_goOn_89 ?_
                refine r_iald hx hb hW 71 rfl (g_lt hG (by decide)) (g_kd hG (by decide) rfl) (g_ix hG (c := 400) (by decide) rfl (n_inI (by omega) (by decide))) (nI (T a)) ((congrFun (e_in (by decide) rfl) _).trans (by rw [n_clamp (by omega)]; exact hX.2 a (by omega))) dX11_goOn_92 ?_
                refine r_calli hW hA (va_runS (As := [.int (nI (T a))]) (rest := []) ⟨hx, hb, hml, hown, hts⟩ (t_X11_isLetter l D G (ri S 65 (va_up (va_up rc 9 (nI a)) 11 0)) _ (nI (T a))) (va_cwS 1 hts gX11_goOn_X11_isLetter rfl rfl rfl (by decide +kernel) ⟨Nat.le_of_ble_eq_true rfl, Nat.le_of_ble_eq_true rfl⟩) (r_preS hA hW) rfl rfl hl.1 rfl (lv_room (Nat.le_of_ble_eq_true rfl)) dX11_goOn_93 ⟨Nat.zero_le _, Nat.zero_le _⟩) (fun r93 S93 H locs hp93 hW => ?_)
                obtain ⟨hs93, hp93⟩ := hp93
                rw [hs93] at hW
                rw [n_toInt (by omega)] at hp93
                rcases hp93 with ⟨rfl, h93⟩ | ⟨rfl, h93⟩
                · exfalso; omega
                · skip
                  refine lv_if_eq (tgt := 143) hx hb dX11_goOn_96 (by decide) (fun c96 => ?_) (fun c96 => ?_)
                  · skip
                    refine lv_aload_n hx hb dX11_goOn_143 rfl (lv_at hl 0 rfl) ?_
                    refine r_getr (ci := 10) (C := RX11) (T := TX11) (N := 20) hx hb hts iX11 hown hW rfl 65 6 rfl (g_lt hG (by decide)) (g_kd hG (by decide) rfl) (by decide) q5 (fun _ h9 => h9) (hP _ (List.mem_of_getElem? (i := 65) rfl)) rfl rfl dX11_goOn_144 ?_
                    refine lv_aload_n hx hb dX11_goOn_147 rfl (lv_at hl 0 rfl) ?_
                    refine r_geti (ci := 10) (C := RX11) (T := TX11) (N := 20) hx hb hts iX11 hown hW rfl 65 8 rfl (g_lt hG (by decide)) (g_kd hG (by decide) rfl) (by decide) q0 (fun _ h9 => h9) (nI a) ((congrFun (e_is _ _ _) 8).trans hr8) rfl rfl dX11_goOn_148 ?_
                    refine r_iald hx hb hW 71 rfl (g_lt hG (by decide)) (g_kd hG (by decide) rfl) (g_ix hG (c := 400) (by decide) rfl (n_inI (by omega) (by decide))) (nI (T a)) ((congrFun (e_in (by decide) rfl) _).trans (by rw [n_clamp (by omega)]; exact hX.2 a (by omega))) dX11_goOn_151 ?_
                    refine r_calli hW hA (va_runS (As := [.int (nI (T a))]) (rest := []) ⟨hx, hb, hml, hown, hts⟩ (t_X11_isFigure l D G (ri S 65 (va_up (va_up rc 9 (nI a)) 11 0)) _ (nI (T a))) (va_cwS 1 hts gX11_goOn_X11_isFigure rfl rfl rfl (by decide +kernel) ⟨Nat.le_of_ble_eq_true rfl, Nat.le_of_ble_eq_true rfl⟩) (r_preS hA hW) rfl rfl hl.1 rfl (lv_room (Nat.le_of_ble_eq_true rfl)) dX11_goOn_152 ⟨Nat.zero_le _, Nat.zero_le _⟩) (fun r152 S152 H locs hp152 hW => ?_)
                    obtain ⟨hs152, hp152⟩ := hp152
                    rw [hs152] at hW
                    rw [n_toInt (by omega)] at hp152
                    rcases hp152 with ⟨rfl, h152⟩ | ⟨rfl, h152⟩
                    · exfalso; omega
                    · skip
                      refine lv_if_eq (tgt := 263) hx hb dX11_goOn_155 (by decide) (fun c155 => ?_) (fun c155 => ?_)
                      · skip
                        refine lv_aload_n hx hb dX11_goOn_263 rfl (lv_at hl 0 rfl) ?_
                        refine lv_aload_n hx hb dX11_goOn_264 rfl (lv_at hl 0 rfl) ?_
                        refine r_getr (ci := 10) (C := RX11) (T := TX11) (N := 20) hx hb hts iX11 hown hW rfl 65 6 rfl (g_lt hG (by decide)) (g_kd hG (by decide) rfl) (by decide) q5 (fun _ h9 => h9) (hP _ (List.mem_of_getElem? (i := 65) rfl)) rfl rfl dX11_goOn_265 ?_
                        refine lv_aload_n hx hb dX11_goOn_268 rfl (lv_at hl 0 rfl) ?_
                        refine r_geti (ci := 10) (C := RX11) (T := TX11) (N := 20) hx hb hts iX11 hown hW rfl 65 8 rfl (g_lt hG (by decide)) (g_kd hG (by decide) rfl) (by decide) q0 (fun _ h9 => h9) (nI a) ((congrFun (e_is _ _ _) 8).trans hr8) rfl rfl dX11_goOn_269 ?_
                        refine r_iald hx hb hW 71 rfl (g_lt hG (by decide)) (g_kd hG (by decide) rfl) (g_ix hG (c := 400) (by decide) rfl (n_inI (by omega) (by decide))) (nI (T a)) ((congrFun (e_in (by decide) rfl) _).trans (by rw [n_clamp (by omega)]; exact hX.2 a (by omega))) dX11_goOn_272 ?_
                        refine lv_bipush (v := 59) hx hb dX11_goOn_273 (by decide) ?_
                        refine lv_icmp_ne (tgt := 282) hx hb dX11_goOn_275 (by decide) (fun c275 => ?_) (fun c275 => ?_)
                        · skip
                          rw [t_eq, show (59 : Int32).toInt = 59 from by decide] at c275
                          rw [n_toInt (by omega)] at c275
                          exfalso; omega --stop
                        · skip
                          rw [t_eq, show (59 : Int32).toInt = 59 from by decide] at c275
                          rw [n_toInt (by omega)] at c275
                          refine lv_iconst (v := 3) hx hb dX11_goOn_278 (by decide) ?_
                          refine lv_goto (tgt := 283) hx hb dX11_goOn_279 (by decide) ?_
                          refine r_puti (ci := 10) (C := RX11) (T := TX11) (N := 20) hx hb hts iX11 tyX11 tyX11_ok nmX11 hown hW rfl 65 10 rfl (g_lt hG (by decide)) (g_kd hG (by decide) rfl) (by decide) q4 (fun _ h9 => h9) rfl (tyX11_ok 10 (by decide)) rfl rfl (ri S 65 (va_up (va_up (va_up rc 9 (nI a)) 11 0) 10 3)) (va_up (va_up rc 9 (nI a)) 11 0) (va_up (va_up (va_up rc 9 (nI a)) 11 0) 10 3) (e_is _ _ _) (e_is _ _ _) rfl rfl rfl (Nat.le_of_ble_eq_true rfl) rfl c_i dX11_goOn_283 (fun H locs hW => ?_)
                          refine lv_aload_n hx hb dX11_goOn_286 rfl (lv_at hl 0 rfl) ?_
                          refine lv_dup hx hb dX11_goOn_287 rfl ?_
                          refine r_geti (ci := 10) (C := RX11) (T := TX11) (N := 20) hx hb hts iX11 hown hW rfl 65 8 rfl (g_lt hG (by decide)) (g_kd hG (by decide) rfl) (by decide) q0 (fun _ h9 => h9) (nI a) ((congrFun (e_is _ _ _) 8).trans hr8) rfl rfl dX11_goOn_288 ?_
                          refine lv_iconst (v := 1) hx hb dX11_goOn_291 (by decide) ?_
                          refine lv_iadd hx hb dX11_goOn_292 ?_
                          rw [show (((nI a) + 1) : Int32) = (nI (a + 1)) from n_add a 1]
                          refine r_puti (ci := 10) (C := RX11) (T := TX11) (N := 20) hx hb hts iX11 tyX11 tyX11_ok nmX11 hown hW rfl 65 8 rfl (g_lt hG (by decide)) (g_kd hG (by decide) rfl) (by decide) q0 (fun _ h9 => h9) rfl (tyX11_ok 8 (by decide)) rfl rfl (ri S 65 (va_up (va_up (va_up (va_up rc 9 (nI a)) 11 0) 10 3) 8 (nI (a + 1)))) (va_up (va_up (va_up rc 9 (nI a)) 11 0) 10 3) (va_up (va_up (va_up (va_up rc 9 (nI a)) 11 0) 10 3) 8 (nI (a + 1))) (e_is _ _ _) (e_is _ _ _) rfl rfl rfl (Nat.le_of_ble_eq_true rfl) rfl c_i dX11_goOn_293 (fun H locs hW => ?_)
                          rw [← hQ0]
                          refine r_vret hx hb hr hlocks hW ?_ dX11_goOn_296
                          have hsu : tS T ts a0 = 3 := by unfold tS; rw [hska, if_pos hal, hcl]; simp
                          have hte : tE T ts a0 = (a + 1) := by unfold tE; rw [hska, if_pos hal, if_neg (by omega), if_neg (by omega), if_pos hcl]
                          exact ⟨⟨by rw [hska]; exact (congrFun (e_is _ _ _) 9).trans rfl, by rw [hsu]; exact (congrFun (e_is _ _ _) 10).trans rfl, fun _ => by rw [hte]; exact (congrFun (e_is _ _ _) 8).trans rfl, fun h2 => by rw [hsu] at h2; omega⟩, fun j h8 h9 h10 h11 => (congrFun (e_is _ _ _) j).trans (by rw [up_n _ _ h8, up_n _ _ h10, up_n _ _ h11, up_n _ _ h9]; exact hrc j h8 h9 h10 h11), Ch.ri Ch.rf rfl⟩
                      · exact absurd (by decide) c155
                  · exact absurd (by decide) c96
              · skip
                have d73 : a = ts := (n_eq (by omega) (by omega)).mp c73
                exfalso; omega --stop
            · skip
              refine lv_aload_n hx hb dX11_goOn_52 rfl (lv_at hl 0 rfl) ?_
              refine lv_aload_n hx hb dX11_goOn_53 rfl (lv_at hl 0 rfl) ?_
              refine r_geti (ci := 10) (C := RX11) (T := TX11) (N := 20) hx hb hts iX11 hown hW rfl 65 8 rfl (g_lt hG (by decide)) (g_kd hG (by decide) rfl) (by decide) q0 (fun _ h9 => h9) (nI a) ((congrFun (e_is _ _ _) 8).trans hr8) rfl rfl dX11_goOn_54 ?_
              refine r_puti (ci := 10) (C := RX11) (T := TX11) (N := 20) hx hb hts iX11 tyX11 tyX11_ok nmX11 hown hW rfl 65 9 rfl (g_lt hG (by decide)) (g_kd hG (by decide) rfl) (by decide) q2 (fun _ h9 => h9) rfl (tyX11_ok 9 (by decide)) rfl rfl (ri S 65 (va_up rc 9 (nI a))) rc (va_up rc 9 (nI a)) (e_is _ _ _) (e_is _ _ _) rfl rfl rfl (Nat.le_of_ble_eq_true rfl) rfl c_i dX11_goOn_57 (fun H locs hW => ?_)
              refine lv_aload_n hx hb dX11_goOn_60 rfl (lv_at hl 0 rfl) ?_
              refine lv_iconst (v := 0) hx hb dX11_goOn_61 (by decide) ?_
              refine r_puti (ci := 10) (C := RX11) (T := TX11) (N := 20) hx hb hts iX11 tyX11 tyX11_ok nmX11 hown hW rfl 65 11 rfl (g_lt hG (by decide)) (g_kd hG (by decide) rfl) (by decide) q3 (fun _ h9 => h9) rfl (tyX11_ok 11 (by decide)) rfl rfl (ri S 65 (va_up (va_up rc 9 (nI a)) 11 0)) (va_up rc 9 (nI a)) (va_up (va_up rc 9 (nI a)) 11 0) (e_is _ _ _) (e_is _ _ _) rfl rfl rfl (Nat.le_of_ble_eq_true rfl) rfl c_i dX11_goOn_62 (fun H locs hW => ?_)
              refine lv_aload_n hx hb dX11_goOn_65 rfl (lv_at hl 0 rfl) ?_
              refine r_geti (ci := 10) (C := RX11) (T := TX11) (N := 20) hx hb hts iX11 hown hW rfl 65 8 rfl (g_lt hG (by decide)) (g_kd hG (by decide) rfl) (by decide) q0 (fun _ h9 => h9) (nI a) ((congrFun (e_is _ _ _) 8).trans hr8) rfl rfl dX11_goOn_66 ?_
              refine lv_aload_n hx hb dX11_goOn_69 rfl (lv_at hl 0 rfl) ?_
              refine r_geti (ci := 10) (C := RX11) (T := TX11) (N := 20) hx hb hts iX11 hown hW rfl 65 7 rfl (g_lt hG (by decide)) (g_kd hG (by decide) rfl) (by decide) q1 (fun _ h9 => h9) (nI ts) ((congrFun (e_is _ _ _) 7).trans hr7) rfl rfl dX11_goOn_70 ?_
              refine lv_icmp_ne (tgt := 84) hx hb dX11_goOn_73 (by decide) (fun c73 => ?_) (fun c73 => ?_)
              · skip
                have d73 : a ≠ ts := fun z => c73 (by rw [z])
                refine lv_aload_n hx hb dX11_goOn_84 rfl (lv_at hl 0 rfl) ?_
                refine r_getr (ci := 10) (C := RX11) (T := TX11) (N := 20) hx hb hts iX11 hown hW rfl 65 6 rfl (g_lt hG (by decide)) (g_kd hG (by decide) rfl) (by decide) q5 (fun _ h9 => h9) (hP _ (List.mem_of_getElem? (i := 65) rfl)) rfl rfl dX11_goOn_85 ?_
                refine lv_aload_n hx hb dX11_goOn_88 rfl (lv_at hl 0 rfl) ?_
                refine r_geti (ci := 10) (C := RX11) (T := TX11) (N := 20) hx hb hts iX11 hown hW rfl 65 8 rfl (g_lt hG (by decide)) (g_kd hG (by decide) rfl) (by decide) q0 (fun _ h9 => h9) (nI a) ((congrFun (e_is _ _ _) 8).trans hr8) rfl rfl dX11_goOn_89 ?_
                refine r_iald hx hb hW 71 rfl (g_lt hG (by decide)) (g_kd hG (by decide) rfl) (g_ix hG (c := 400) (by decide) rfl (n_inI (by omega) (by decide))) (nI (T a)) ((congrFun (e_in (by decide) rfl) _).trans (by rw [n_clamp (by omega)]; exact hX.2 a (by omega))) dX11_goOn_92 ?_
                refine r_calli hW hA (va_runS (As := [.int (nI (T a))]) (rest := []) ⟨hx, hb, hml, hown, hts⟩ (t_X11_isLetter l D G (ri S 65 (va_up (va_up rc 9 (nI a)) 11 0)) _ (nI (T a))) (va_cwS 1 hts gX11_goOn_X11_isLetter rfl rfl rfl (by decide +kernel) ⟨Nat.le_of_ble_eq_true rfl, Nat.le_of_ble_eq_true rfl⟩) (r_preS hA hW) rfl rfl hl.1 rfl (lv_room (Nat.le_of_ble_eq_true rfl)) dX11_goOn_93 ⟨Nat.zero_le _, Nat.zero_le _⟩) (fun r93 S93 H locs hp93 hW => ?_)
                obtain ⟨hs93, hp93⟩ := hp93
                rw [hs93] at hW
                rw [n_toInt (by omega)] at hp93
                rcases hp93 with ⟨rfl, h93⟩ | ⟨rfl, h93⟩
                · exfalso; omega
                · skip
                  refine lv_if_eq (tgt := 143) hx hb dX11_goOn_96 (by decide) (fun c96 => ?_) (fun c96 => ?_)
                  · skip
                    refine lv_aload_n hx hb dX11_goOn_143 rfl (lv_at hl 0 rfl) ?_
                    refine r_getr (ci := 10) (C := RX11) (T := TX11) (N := 20) hx hb hts iX11 hown hW rfl 65 6 rfl (g_lt hG (by decide)) (g_kd hG (by decide) rfl) (by decide) q5 (fun _ h9 => h9) (hP _ (List.mem_of_getElem? (i := 65) rfl)) rfl rfl dX11_goOn_144 ?_
                    refine lv_aload_n hx hb dX11_goOn_147 rfl (lv_at hl 0 rfl) ?_
                    refine r_geti (ci := 10) (C := RX11) (T := TX11) (N := 20) hx hb hts iX11 hown hW rfl 65 8 rfl (g_lt hG (by decide)) (g_kd hG (by decide) rfl) (by decide) q0 (fun _ h9 => h9) (nI a) ((congrFun (e_is _ _ _) 8).trans hr8) rfl rfl dX11_goOn_148 ?_
                    refine r_iald hx hb hW 71 rfl (g_lt hG (by decide)) (g_kd hG (by decide) rfl) (g_ix hG (c := 400) (by decide) rfl (n_inI (by omega) (by decide))) (nI (T a)) ((congrFun (e_in (by decide) rfl) _).trans (by rw [n_clamp (by omega)]; exact hX.2 a (by omega))) dX11_goOn_151 ?_
                    refine r_calli hW hA (va_runS (As := [.int (nI (T a))]) (rest := []) ⟨hx, hb, hml, hown, hts⟩ (t_X11_isFigure l D G (ri S 65 (va_up (va_up rc 9 (nI a)) 11 0)) _ (nI (T a))) (va_cwS 1 hts gX11_goOn_X11_isFigure rfl rfl rfl (by decide +kernel) ⟨Nat.le_of_ble_eq_true rfl, Nat.le_of_ble_eq_true rfl⟩) (r_preS hA hW) rfl rfl hl.1 rfl (lv_room (Nat.le_of_ble_eq_true rfl)) dX11_goOn_152 ⟨Nat.zero_le _, Nat.zero_le _⟩) (fun r152 S152 H locs hp152 hW => ?_)
                    obtain ⟨hs152, hp152⟩ := hp152
                    rw [hs152] at hW
                    rw [n_toInt (by omega)] at hp152
                    rcases hp152 with ⟨rfl, h152⟩ | ⟨rfl, h152⟩
                    · exfalso; omega
                    · skip
                      refine lv_if_eq (tgt := 263) hx hb dX11_goOn_155 (by decide) (fun c155 => ?_) (fun c155 => ?_)
                      · skip
                        refine lv_aload_n hx hb dX11_goOn_263 rfl (lv_at hl 0 rfl) ?_
                        refine lv_aload_n hx hb dX11_goOn_264 rfl (lv_at hl 0 rfl) ?_
                        refine r_getr (ci := 10) (C := RX11) (T := TX11) (N := 20) hx hb hts iX11 hown hW rfl 65 6 rfl (g_lt hG (by decide)) (g_kd hG (by decide) rfl) (by decide) q5 (fun _ h9 => h9) (hP _ (List.mem_of_getElem? (i := 65) rfl)) rfl rfl dX11_goOn_265 ?_
                        refine lv_aload_n hx hb dX11_goOn_268 rfl (lv_at hl 0 rfl) ?_
                        refine r_geti (ci := 10) (C := RX11) (T := TX11) (N := 20) hx hb hts iX11 hown hW rfl 65 8 rfl (g_lt hG (by decide)) (g_kd hG (by decide) rfl) (by decide) q0 (fun _ h9 => h9) (nI a) ((congrFun (e_is _ _ _) 8).trans hr8) rfl rfl dX11_goOn_269 ?_
                        refine r_iald hx hb hW 71 rfl (g_lt hG (by decide)) (g_kd hG (by decide) rfl) (g_ix hG (c := 400) (by decide) rfl (n_inI (by omega) (by decide))) (nI (T a)) ((congrFun (e_in (by decide) rfl) _).trans (by rw [n_clamp (by omega)]; exact hX.2 a (by omega))) dX11_goOn_272 ?_
                        refine lv_bipush (v := 59) hx hb dX11_goOn_273 (by decide) ?_
                        refine lv_icmp_ne (tgt := 282) hx hb dX11_goOn_275 (by decide) (fun c275 => ?_) (fun c275 => ?_)
                        · skip
                          rw [t_eq, show (59 : Int32).toInt = 59 from by decide] at c275
                          rw [n_toInt (by omega)] at c275
                          refine lv_iconst (v := 4) hx hb dX11_goOn_282 (by decide) ?_
                          refine r_puti (ci := 10) (C := RX11) (T := TX11) (N := 20) hx hb hts iX11 tyX11 tyX11_ok nmX11 hown hW rfl 65 10 rfl (g_lt hG (by decide)) (g_kd hG (by decide) rfl) (by decide) q4 (fun _ h9 => h9) rfl (tyX11_ok 10 (by decide)) rfl rfl (ri S 65 (va_up (va_up (va_up rc 9 (nI a)) 11 0) 10 4)) (va_up (va_up rc 9 (nI a)) 11 0) (va_up (va_up (va_up rc 9 (nI a)) 11 0) 10 4) (e_is _ _ _) (e_is _ _ _) rfl rfl rfl (Nat.le_of_ble_eq_true rfl) rfl c_i dX11_goOn_283 (fun H locs hW => ?_)
                          refine lv_aload_n hx hb dX11_goOn_286 rfl (lv_at hl 0 rfl) ?_
                          refine lv_dup hx hb dX11_goOn_287 rfl ?_
                          refine r_geti (ci := 10) (C := RX11) (T := TX11) (N := 20) hx hb hts iX11 hown hW rfl 65 8 rfl (g_lt hG (by decide)) (g_kd hG (by decide) rfl) (by decide) q0 (fun _ h9 => h9) (nI a) ((congrFun (e_is _ _ _) 8).trans hr8) rfl rfl dX11_goOn_288 ?_
                          refine lv_iconst (v := 1) hx hb dX11_goOn_291 (by decide) ?_
                          refine lv_iadd hx hb dX11_goOn_292 ?_
                          rw [show (((nI a) + 1) : Int32) = (nI (a + 1)) from n_add a 1]
                          refine r_puti (ci := 10) (C := RX11) (T := TX11) (N := 20) hx hb hts iX11 tyX11 tyX11_ok nmX11 hown hW rfl 65 8 rfl (g_lt hG (by decide)) (g_kd hG (by decide) rfl) (by decide) q0 (fun _ h9 => h9) rfl (tyX11_ok 8 (by decide)) rfl rfl (ri S 65 (va_up (va_up (va_up (va_up rc 9 (nI a)) 11 0) 10 4) 8 (nI (a + 1)))) (va_up (va_up (va_up rc 9 (nI a)) 11 0) 10 4) (va_up (va_up (va_up (va_up rc 9 (nI a)) 11 0) 10 4) 8 (nI (a + 1))) (e_is _ _ _) (e_is _ _ _) rfl rfl rfl (Nat.le_of_ble_eq_true rfl) rfl c_i dX11_goOn_293 (fun H locs hW => ?_)
                          rw [← hQ0]
                          refine r_vret hx hb hr hlocks hW ?_ dX11_goOn_296
                          have hsu : tS T ts a0 = 4 := by unfold tS; rw [hska, if_pos hal, hcl]; simp
                          exact ⟨⟨by rw [hska]; exact (congrFun (e_is _ _ _) 9).trans rfl, by rw [hsu]; exact (congrFun (e_is _ _ _) 10).trans rfl, fun h4 => absurd hsu h4, fun h2 => by rw [hsu] at h2; omega⟩, fun j h8 h9 h10 h11 => (congrFun (e_is _ _ _) j).trans (by rw [up_n _ _ h8, up_n _ _ h10, up_n _ _ h11, up_n _ _ h9]; exact hrc j h8 h9 h10 h11), Ch.ri Ch.rf rfl⟩
                        · skip
                          rw [t_eq, show (59 : Int32).toInt = 59 from by decide] at c275
                          rw [n_toInt (by omega)] at c275
                          exfalso; omega --stop
                      · exact absurd (by decide) c155
                  · exact absurd (by decide) c96
              · skip
                have d73 : a = ts := (n_eq (by omega) (by omega)).mp c73
                exfalso; omega --stop
          · skip
            rw [t_eq, show (10 : Int32).toInt = 10 from by decide] at c36
            have hbl : T a = 10 := by rw [n_toInt (by omega)] at c36; omega
            refine lv_aload_n hx hb dX11_goOn_39 rfl (lv_at hl 0 rfl) ?_
            refine lv_dup hx hb dX11_goOn_40 rfl ?_
            refine r_geti (ci := 10) (C := RX11) (T := TX11) (N := 20) hx hb hts iX11 hown hW rfl 65 8 rfl (g_lt hG (by decide)) (g_kd hG (by decide) rfl) (by decide) q0 (fun _ h9 => h9) (nI a) ((congrFun (e_is _ _ _) 8).trans hr8) rfl rfl dX11_goOn_41 ?_
            refine lv_iconst (v := 1) hx hb dX11_goOn_44 (by decide) ?_
            refine lv_iadd hx hb dX11_goOn_45 ?_
            rw [show (((nI a) + 1) : Int32) = (nI (a + 1)) from n_add a 1]
            refine r_puti (ci := 10) (C := RX11) (T := TX11) (N := 20) hx hb hts iX11 tyX11 tyX11_ok nmX11 hown hW rfl 65 8 rfl (g_lt hG (by decide)) (g_kd hG (by decide) rfl) (by decide) q0 (fun _ h9 => h9) rfl (tyX11_ok 8 (by decide)) rfl rfl (ri S 65 (va_up rc 8 (nI (a + 1)))) rc (va_up rc 8 (nI (a + 1))) (e_is _ _ _) (e_is _ _ _) rfl rfl rfl (Nat.le_of_ble_eq_true rfl) rfl c_i dX11_goOn_46 (fun H locs hW => ?_)
            refine lv_goto (tgt := 0) hx hb dX11_goOn_49 (by decide) ?_
            exact ih0 (a + 1) (va_up rc 8 (nI (a + 1))) _ _ ls (by omega) (by omega) (hsk.trans (SK_b hal (by unfold blk; simp [hbl]))) (up_s _ _ _) ((up_n _ _ (by decide)).trans hr7) (fun j h8 h9 h10 h11 => by rw [up_n _ _ h8]; exact hrc j h8 h9 h10 h11) hW (lv_sub hl [0] rfl)
  exact L0 _ a0 (gi S 65) _ _ ls (Nat.lt_succ_self _) ha0 rfl h8a hX.1 (fun _ _ _ _ _ => rfl) hW (lv_sub hl [0] rfl)
