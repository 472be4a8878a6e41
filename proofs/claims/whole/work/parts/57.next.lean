def rmX6_nextToken : Jvm.Room := { frames := 1, cells := 0, slots := 0, locals := 22 }
set_option maxHeartbeats 4000000 in
set_option maxRecDepth 100000 in
theorem t_X6_nextToken (l : Launch) (D : Dc) (G : Gg) (S : Sg) (z : Nat) (hG : GrG G) (hP : GrP G S) (T : Nat → Nat) (ts : Nat) (ht4 : ts ≤ 400) (hTB : ∀ i, i < ts → T i ≤ 255) (h1 : gi S 12 1 = nI ts) (h13 : ∀ i, i < ts → gi S 13 i = sb (T i)) (a0 : Nat) (ha0 : a0 ≤ ts) (h3a : gi S 12 3 = nI a0) : MV l yX6_nextToken wsX6_nextToken rmX6_nextToken D G S z [.ref (gA G 12)] (fun S' => TkX S' T ts a0 ∧ (∀ j, j = 0 ∨ j = 1 ∨ 6 ≤ j → gi S' 12 j = gi S 12 j) ∧ Ch (fun k => k = 12) S S') := by
  refine Met.ofW (cc := cX6_nextToken) (maxL := 1) (ret := none) (by decide +kernel) rfl ?_
  intro pP eE s mM args bl mT cD s₁ bD hml hv
  obtain ⟨rfl, hv⟩ := hv
  have hz := hv.1
  subst hz
  have hx := bD.exec
  have hb := bD.bytes
  have hr := bD.returns
  have hts := atoms_spec (ws := wsX6_nextToken) bD.pre
  have hown : s.vm.findClass RX6 = some mM.cls := findClass_of_methodNamed bD.named
  have hlocks := bD.notSynchronized
  have hW := Wd.start hv
  have hA : ∀ q, s.heap.size ≤ q → AW G s.heap.size q := fun q h => Or.inr h
  have hl := lv_entry ([.ref (gA G 12)]) (n := 1) (Nat.le_of_ble_eq_true rfl)
  rw [lg_entry_eq]
  generalize (lg_sl ([.ref (gA G 12)]) ++ List.replicate (1 - (lg_sl ([.ref (gA G 12)])).length) Slot.unset).toArray = ls at hl ⊢
  have hl : lv_has ls 1 [(0, .ref (gA G 12))] := hl
  have q0 := hts (.fieldLink RX6 19 "WoodForTwo$Reader" "behind" "I") (List.mem_of_getElem? (i := 1) rfl)
  have q1 := hts (.fieldLink RX6 15 "WoodForTwo$Reader" "length" "I") (List.mem_of_getElem? (i := 2) rfl)
  have q2 := hts (.fieldLink RX6 144 "WoodForTwo$Reader" "start" "I") (List.mem_of_getElem? (i := 4) rfl)
  have q3 := hts (.fieldLink RX6 76 "WoodForTwo$Reader" "sort" "I") (List.mem_of_getElem? (i := 5) rfl)
  have q4 := hts (.fieldLink RX6 9 "WoodForTwo$Reader" "tape" "[B") (List.mem_of_getElem? (i := 3) rfl)
  have iX6 : ∀ w ∈ wsX60, w ∈ wsX6_nextToken := fun _ h => List.mem_cons_of_mem _ (List.mem_append_right _ (h))
  generalize hQ0 : MQ bl _ _ s _ _ _ = Q0
  rw [show S = (ri S 12 (gi S 12)) from (ri_id S 12).symm] at hW
  have L0 : ∀ (n : Nat) (a : Nat) (rc : Nat → Int32) (H : Heap) (locs : List Loc) (ls : Array Slot), (ts - a) < n → a ≤ ts → SK T ts a0 = SK T ts a → rc 3 = nI a → (∀ j, j ≠ 3 → rc j = gi S 12 j) → Wd D (AW G s.heap.size) s G (ri S 12 rc) H locs → lv_has ls 1 [(0, .ref (gA G 12))] → W pP l eE (headSpec wsX6_nextToken rmX6_nextToken).room s mM ([.ref (gA G 12)] : List Value).toArray bl mT cD H locs 0 0 Q0 (F0 mM 0 ls []) := by
    intro n
    induction n with
    | zero => intro a rc H locs ls hm; exact absurd hm (Nat.not_lt_zero _)
    | succ n ih0 =>
      intro a rc H locs ls hm0 ha hsk hr3 hrc hW hl
      refine lv_aload_n hx hb dX6_nextToken_0 rfl (lv_at hl 0 rfl) ?_
      refine r_geti (ci := 5) (C := RX6) (T := TX6) (N := 8) hx hb hts iX6 hown hW rfl 12 3 rfl (g_lt hG (by decide)) (g_kd hG (by decide) rfl) (by decide) q0 (fun _ h9 => h9) (nI a) ((congrFun (e_is _ _ _) 3).trans hr3) rfl rfl dX6_nextToken_1 ?_
      refine lv_aload_n hx hb dX6_nextToken_4 rfl (lv_at hl 0 rfl) ?_
      refine r_geti (ci := 5) (C := RX6) (T := TX6) (N := 8) hx hb hts iX6 hown hW rfl 12 1 rfl (g_lt hG (by decide)) (g_kd hG (by decide) rfl) (by decide) q1 (fun _ h9 => h9) (nI ts) ((congrFun (e_is _ _ _) 1).trans ((hrc 1 (by decide)).trans h1)) rfl rfl dX6_nextToken_5 ?_
      refine lv_icmp_ge (tgt := 52) hx hb dX6_nextToken_8 (by decide) (fun c8 => ?_) (fun c8 => ?_)
      · skip
        have hal : ts ≤ a := (n_le (a := ts) (b := a) (by omega) (by omega)).mp c8
        have hska : SK T ts a0 = a := hsk.trans (SK_e (Or.inl hal))
        have hat : ¬ a < ts := by omega
        refine lv_aload_n hx hb dX6_nextToken_52 rfl (lv_at hl 0 rfl) ?_
        refine lv_aload_n hx hb dX6_nextToken_53 rfl (lv_at hl 0 rfl) ?_
        refine r_geti (ci := 5) (C := RX6) (T := TX6) (N := 8) hx hb hts iX6 hown hW rfl 12 3 rfl (g_lt hG (by decide)) (g_kd hG (by decide) rfl) (by decide) q0 (fun _ h9 => h9) (nI a) ((congrFun (e_is _ _ _) 3).trans hr3) rfl rfl dX6_nextToken_54 ?_
        refine r_puti (ci := 5) (C := RX6) (T := TX6) (N := 8) hx hb hts iX6 tyX6 tyX6_ok nmX6 hown hW rfl 12 2 rfl (g_lt hG (by decide)) (g_kd hG (by decide) rfl) (by decide) q2 (fun _ h9 => h9) rfl (tyX6_ok 2 (by decide)) rfl rfl (ri S 12 (va_up rc 2 (nI a))) rc (va_up rc 2 (nI a)) (e_is _ _ _) (e_is _ _ _) rfl rfl rfl (Nat.le_of_ble_eq_true rfl) rfl c_i dX6_nextToken_57 (fun H locs hW => ?_)
        refine lv_aload_n hx hb dX6_nextToken_60 rfl (lv_at hl 0 rfl) ?_
        refine lv_aload_n hx hb dX6_nextToken_61 rfl (lv_at hl 0 rfl) ?_
        refine lv_aload_n hx hb dX6_nextToken_62 rfl (lv_at hl 0 rfl) ?_
        refine r_geti (ci := 5) (C := RX6) (T := TX6) (N := 8) hx hb hts iX6 hown hW rfl 12 2 rfl (g_lt hG (by decide)) (g_kd hG (by decide) rfl) (by decide) q2 (fun _ h9 => h9) (nI a) (congrFun (e_is _ _ _) 2) rfl rfl dX6_nextToken_63 ?_
        refine r_calli hW hA (va_runV (As := [.int (nI a)]) (rest := [.ref (gA G 12)]) ⟨hx, hb, hml, hown, hts⟩ (t_X6_sortAt l D G (ri S 12 (va_up rc 2 (nI a))) _ hG hP T ts ht4 hTB ((congrFun (e_is _ _ _) 1).trans ((hrc 1 (by decide)).trans h1)) h13 a (by omega)) (cwV 1 hts gX6_nextToken_X6_sortAt rfl rfl rfl (by decide +kernel) ⟨Nat.le_of_ble_eq_true rfl, Nat.le_of_ble_eq_true rfl⟩) (r_preV (k := 12) hA hW (ci := 5) (C := RX6) (T := TX6) (N := 8) rfl rfl (g_lt hG (by decide)) (g_kd hG (by decide) rfl) rfl rfl) rfl rfl hl.1 rfl (lv_room (Nat.le_of_ble_eq_true rfl)) dX6_nextToken_66 ⟨Nat.zero_le _, Nat.zero_le _⟩) (fun r66 S66 H locs hp66 hW => ?_)
        obtain ⟨rfl, hs66⟩ := hp66
        rw [hs66] at hW
        rw [show nI (if a < ts then cls (T a) else 0) = (0 : Int32) from by rw [if_neg hat]; rfl]
        refine r_puti (ci := 5) (C := RX6) (T := TX6) (N := 8) hx hb hts iX6 tyX6 tyX6_ok nmX6 hown hW rfl 12 4 rfl (g_lt hG (by decide)) (g_kd hG (by decide) rfl) (by decide) q3 (fun _ h9 => h9) rfl (tyX6_ok 4 (by decide)) rfl rfl (ri S 12 (va_up (va_up rc 2 (nI a)) 4 0)) (va_up rc 2 (nI a)) (va_up (va_up rc 2 (nI a)) 4 0) (e_is _ _ _) (e_is _ _ _) rfl rfl rfl (Nat.le_of_ble_eq_true rfl) rfl c_i dX6_nextToken_69 (fun H locs hW => ?_)
        refine lv_aload_n hx hb dX6_nextToken_72 rfl (lv_at hl 0 rfl) ?_
        refine r_geti (ci := 5) (C := RX6) (T := TX6) (N := 8) hx hb hts iX6 hown hW rfl 12 4 rfl (g_lt hG (by decide)) (g_kd hG (by decide) rfl) (by decide) q3 (fun _ h9 => h9) 0 (congrFun (e_is _ _ _) 4) rfl rfl dX6_nextToken_73 ?_
        refine lv_iconst (v := 3) hx hb dX6_nextToken_76 (by decide) ?_
        refine lv_icmp_ne (tgt := 93) hx hb dX6_nextToken_77 (by decide) (fun c77 => ?_) (fun c77 => ?_)
        · skip
          refine lv_aload_n hx hb dX6_nextToken_93 rfl (lv_at hl 0 rfl) ?_
          refine r_geti (ci := 5) (C := RX6) (T := TX6) (N := 8) hx hb hts iX6 hown hW rfl 12 4 rfl (g_lt hG (by decide)) (g_kd hG (by decide) rfl) (by decide) q3 (fun _ h9 => h9) 0 (congrFun (e_is _ _ _) 4) rfl rfl dX6_nextToken_94 ?_
          refine lv_iconst (v := 1) hx hb dX6_nextToken_97 (by decide) ?_
          refine lv_icmp_eq (tgt := 109) hx hb dX6_nextToken_98 (by decide) (fun c98 => ?_) (fun c98 => ?_)
          · exact absurd c98 (by decide)
          · skip
            refine lv_aload_n hx hb dX6_nextToken_101 rfl (lv_at hl 0 rfl) ?_
            refine r_geti (ci := 5) (C := RX6) (T := TX6) (N := 8) hx hb hts iX6 hown hW rfl 12 4 rfl (g_lt hG (by decide)) (g_kd hG (by decide) rfl) (by decide) q3 (fun _ h9 => h9) 0 (congrFun (e_is _ _ _) 4) rfl rfl dX6_nextToken_102 ?_
            refine lv_iconst (v := 2) hx hb dX6_nextToken_105 (by decide) ?_
            refine lv_icmp_ne (tgt := 148) hx hb dX6_nextToken_106 (by decide) (fun c106 => ?_) (fun c106 => ?_)
            · skip
              refine lv_aload_n hx hb dX6_nextToken_148 rfl (lv_at hl 0 rfl) ?_
              refine r_geti (ci := 5) (C := RX6) (T := TX6) (N := 8) hx hb hts iX6 hown hW rfl 12 4 rfl (g_lt hG (by decide)) (g_kd hG (by decide) rfl) (by decide) q3 (fun _ h9 => h9) 0 (congrFun (e_is _ _ _) 4) rfl rfl dX6_nextToken_149 ?_
              refine lv_iconst (v := 2) hx hb dX6_nextToken_152 (by decide) ?_
              refine lv_icmp_ne (tgt := 160) hx hb dX6_nextToken_153 (by decide) (fun c153 => ?_) (fun c153 => ?_)
              · skip
                rw [← hQ0]
                refine r_vret hx hb hr hlocks hW ?_ dX6_nextToken_160
                have hte : tE T ts a0 = a := by unfold tE; rw [hska, if_neg hat]
                have hsu : tS T ts a0 = 0 := by unfold tS; rw [hska, if_neg hat]
                refine ⟨⟨by rw [hska]; exact (congrFun (e_is _ _ _) 2).trans rfl, by rw [hte]; exact (congrFun (e_is _ _ _) 3).trans hr3, by rw [hsu]; exact (congrFun (e_is _ _ _) 4).trans rfl, fun h2 => by rw [hsu] at h2; omega⟩, fun j hj => (congrFun (e_is _ _ _) j).trans ?_, Ch.ri Ch.rf rfl⟩
                have hj2 : j ≠ 2 ∧ j ≠ 3 ∧ j ≠ 4 := by omega
                rw [up_n _ _ hj2.2.2, up_n _ _ hj2.1]
                exact hrc j hj2.2.1
              · exact absurd c153 (by decide)
            · exact absurd c106 (by decide)
        · exact absurd c77 (by decide)
      · skip
        have hal : a < ts := by
          have h9 : ¬ ts ≤ a := fun z => c8 ((n_le (a := ts) (b := a) (by omega) (by omega)).mpr z)
          omega
        have hbv := sb_int (hTB a hal)
        have hba := hTB a hal
        refine lv_aload_n hx hb dX6_nextToken_11 rfl (lv_at hl 0 rfl) ?_
        refine r_getr (ci := 5) (C := RX6) (T := TX6) (N := 8) hx hb hts iX6 hown hW rfl 12 0 rfl (g_lt hG (by decide)) (g_kd hG (by decide) rfl) (by decide) q4 (fun _ h9 => h9) (hP _ (List.mem_of_getElem? (i := 15) rfl)) rfl rfl dX6_nextToken_12 ?_
        refine lv_aload_n hx hb dX6_nextToken_15 rfl (lv_at hl 0 rfl) ?_
        refine r_geti (ci := 5) (C := RX6) (T := TX6) (N := 8) hx hb hts iX6 hown hW rfl 12 3 rfl (g_lt hG (by decide)) (g_kd hG (by decide) rfl) (by decide) q0 (fun _ h9 => h9) (nI a) ((congrFun (e_is _ _ _) 3).trans hr3) rfl rfl dX6_nextToken_16 ?_
        refine r_bald hx hb hW 13 rfl (g_lt hG (by decide)) (g_kd hG (by decide) rfl) (g_ix hG (c := 400) (by decide) rfl (n_inI (by omega) (by decide))) (sb (T a)) ((congrFun (e_in (by decide) rfl) _).trans (by rw [n_clamp (by omega)]; exact h13 a hal)) dX6_nextToken_19 ?_
        refine lv_bipush (v := 32) hx hb dX6_nextToken_20 (by decide) ?_
        refine lv_icmp_eq (tgt := 39) hx hb dX6_nextToken_22 (by decide) (fun c22 => ?_) (fun c22 => ?_)
        · skip
          rw [t_eq, show (32 : Int32).toInt = 32 from by decide] at c22
          have hbl : T a = 32 := by omega
          refine lv_aload_n hx hb dX6_nextToken_39 rfl (lv_at hl 0 rfl) ?_
          refine lv_dup hx hb dX6_nextToken_40 rfl ?_
          refine r_geti (ci := 5) (C := RX6) (T := TX6) (N := 8) hx hb hts iX6 hown hW rfl 12 3 rfl (g_lt hG (by decide)) (g_kd hG (by decide) rfl) (by decide) q0 (fun _ h9 => h9) (nI a) ((congrFun (e_is _ _ _) 3).trans hr3) rfl rfl dX6_nextToken_41 ?_
          refine lv_iconst (v := 1) hx hb dX6_nextToken_44 (by decide) ?_
          refine lv_iadd hx hb dX6_nextToken_45 ?_
          rw [show (((nI a) + 1) : Int32) = (nI (a + 1)) from n_add a 1]
          refine r_puti (ci := 5) (C := RX6) (T := TX6) (N := 8) hx hb hts iX6 tyX6 tyX6_ok nmX6 hown hW rfl 12 3 rfl (g_lt hG (by decide)) (g_kd hG (by decide) rfl) (by decide) q0 (fun _ h9 => h9) rfl (tyX6_ok 3 (by decide)) rfl rfl (ri S 12 (va_up rc 3 (nI (a + 1)))) rc (va_up rc 3 (nI (a + 1))) (e_is _ _ _) (e_is _ _ _) rfl rfl rfl (Nat.le_of_ble_eq_true rfl) rfl c_i dX6_nextToken_46 (fun H locs hW => ?_)
          refine lv_goto (tgt := 0) hx hb dX6_nextToken_49 (by decide) ?_
          exact ih0 (a + 1) (va_up rc 3 (nI (a + 1))) _ _ ls (by omega) (by omega) (hsk.trans (SK_b hal (by unfold blk; simp [hbl]))) (up_s _ _ _) (fun j hj => by rw [up_n _ _ hj]; exact hrc j hj) hW (lv_sub hl [0] rfl)
        · skip
          rw [t_eq, show (32 : Int32).toInt = 32 from by decide] at c22
          have hb32 : T a ≠ 32 := by omega
          refine lv_aload_n hx hb dX6_nextToken_25 rfl (lv_at hl 0 rfl) ?_
          refine r_getr (ci := 5) (C := RX6) (T := TX6) (N := 8) hx hb hts iX6 hown hW rfl 12 0 rfl (g_lt hG (by decide)) (g_kd hG (by decide) rfl) (by decide) q4 (fun _ h9 => h9) (hP _ (List.mem_of_getElem? (i := 15) rfl)) rfl rfl dX6_nextToken_26 ?_
          refine lv_aload_n hx hb dX6_nextToken_29 rfl (lv_at hl 0 rfl) ?_
          refine r_geti (ci := 5) (C := RX6) (T := TX6) (N := 8) hx hb hts iX6 hown hW rfl 12 3 rfl (g_lt hG (by decide)) (g_kd hG (by decide) rfl) (by decide) q0 (fun _ h9 => h9) (nI a) ((congrFun (e_is _ _ _) 3).trans hr3) rfl rfl dX6_nextToken_30 ?_
          refine r_bald hx hb hW 13 rfl (g_lt hG (by decide)) (g_kd hG (by decide) rfl) (g_ix hG (c := 400) (by decide) rfl (n_inI (by omega) (by decide))) (sb (T a)) ((congrFun (e_in (by decide) rfl) _).trans (by rw [n_clamp (by omega)]; exact h13 a hal)) dX6_nextToken_33 ?_
          refine lv_bipush (v := 10) hx hb dX6_nextToken_34 (by decide) ?_
          refine lv_icmp_ne (tgt := 52) hx hb dX6_nextToken_36 (by decide) (fun c36 => ?_) (fun c36 => ?_)
          · skip
            rw [t_eq, show (10 : Int32).toInt = 10 from by decide] at c36
            have hb10 : T a ≠ 10 := by omega
            have hska : SK T ts a0 = a := hsk.trans (SK_e (Or.inr (by unfold blk; simp [hb32, hb10])))
            rcases cls_v (T a) with hcl | hcl | hcl | hcl
            · skip
              refine lv_aload_n hx hb dX6_nextToken_52 rfl (lv_at hl 0 rfl) ?_
              refine lv_aload_n hx hb dX6_nextToken_53 rfl (lv_at hl 0 rfl) ?_
              refine r_geti (ci := 5) (C := RX6) (T := TX6) (N := 8) hx hb hts iX6 hown hW rfl 12 3 rfl (g_lt hG (by decide)) (g_kd hG (by decide) rfl) (by decide) q0 (fun _ h9 => h9) (nI a) ((congrFun (e_is _ _ _) 3).trans hr3) rfl rfl dX6_nextToken_54 ?_
              refine r_puti (ci := 5) (C := RX6) (T := TX6) (N := 8) hx hb hts iX6 tyX6 tyX6_ok nmX6 hown hW rfl 12 2 rfl (g_lt hG (by decide)) (g_kd hG (by decide) rfl) (by decide) q2 (fun _ h9 => h9) rfl (tyX6_ok 2 (by decide)) rfl rfl (ri S 12 (va_up rc 2 (nI a))) rc (va_up rc 2 (nI a)) (e_is _ _ _) (e_is _ _ _) rfl rfl rfl (Nat.le_of_ble_eq_true rfl) rfl c_i dX6_nextToken_57 (fun H locs hW => ?_)
              refine lv_aload_n hx hb dX6_nextToken_60 rfl (lv_at hl 0 rfl) ?_
              refine lv_aload_n hx hb dX6_nextToken_61 rfl (lv_at hl 0 rfl) ?_
              refine lv_aload_n hx hb dX6_nextToken_62 rfl (lv_at hl 0 rfl) ?_
              refine r_geti (ci := 5) (C := RX6) (T := TX6) (N := 8) hx hb hts iX6 hown hW rfl 12 2 rfl (g_lt hG (by decide)) (g_kd hG (by decide) rfl) (by decide) q2 (fun _ h9 => h9) (nI a) (congrFun (e_is _ _ _) 2) rfl rfl dX6_nextToken_63 ?_
              refine r_calli hW hA (va_runV (As := [.int (nI a)]) (rest := [.ref (gA G 12)]) ⟨hx, hb, hml, hown, hts⟩ (t_X6_sortAt l D G (ri S 12 (va_up rc 2 (nI a))) _ hG hP T ts ht4 hTB ((congrFun (e_is _ _ _) 1).trans ((hrc 1 (by decide)).trans h1)) h13 a (by omega)) (cwV 1 hts gX6_nextToken_X6_sortAt rfl rfl rfl (by decide +kernel) ⟨Nat.le_of_ble_eq_true rfl, Nat.le_of_ble_eq_true rfl⟩) (r_preV (k := 12) hA hW (ci := 5) (C := RX6) (T := TX6) (N := 8) rfl rfl (g_lt hG (by decide)) (g_kd hG (by decide) rfl) rfl rfl) rfl rfl hl.1 rfl (lv_room (Nat.le_of_ble_eq_true rfl)) dX6_nextToken_66 ⟨Nat.zero_le _, Nat.zero_le _⟩) (fun r66 S66 H locs hp66 hW => ?_)
              obtain ⟨rfl, hs66⟩ := hp66
              rw [hs66] at hW
              rw [show nI (if a < ts then cls (T a) else 0) = (1 : Int32) from by rw [if_pos hal, hcl]; rfl]
              refine r_puti (ci := 5) (C := RX6) (T := TX6) (N := 8) hx hb hts iX6 tyX6 tyX6_ok nmX6 hown hW rfl 12 4 rfl (g_lt hG (by decide)) (g_kd hG (by decide) rfl) (by decide) q3 (fun _ h9 => h9) rfl (tyX6_ok 4 (by decide)) rfl rfl (ri S 12 (va_up (va_up rc 2 (nI a)) 4 1)) (va_up rc 2 (nI a)) (va_up (va_up rc 2 (nI a)) 4 1) (e_is _ _ _) (e_is _ _ _) rfl rfl rfl (Nat.le_of_ble_eq_true rfl) rfl c_i dX6_nextToken_69 (fun H locs hW => ?_)
              refine lv_aload_n hx hb dX6_nextToken_72 rfl (lv_at hl 0 rfl) ?_
              refine r_geti (ci := 5) (C := RX6) (T := TX6) (N := 8) hx hb hts iX6 hown hW rfl 12 4 rfl (g_lt hG (by decide)) (g_kd hG (by decide) rfl) (by decide) q3 (fun _ h9 => h9) 1 (congrFun (e_is _ _ _) 4) rfl rfl dX6_nextToken_73 ?_
              refine lv_iconst (v := 3) hx hb dX6_nextToken_76 (by decide) ?_
              refine lv_icmp_ne (tgt := 93) hx hb dX6_nextToken_77 (by decide) (fun c77 => ?_) (fun c77 => ?_)
              · skip
                refine lv_aload_n hx hb dX6_nextToken_93 rfl (lv_at hl 0 rfl) ?_
                refine r_geti (ci := 5) (C := RX6) (T := TX6) (N := 8) hx hb hts iX6 hown hW rfl 12 4 rfl (g_lt hG (by decide)) (g_kd hG (by decide) rfl) (by decide) q3 (fun _ h9 => h9) 1 (congrFun (e_is _ _ _) 4) rfl rfl dX6_nextToken_94 ?_
                refine lv_iconst (v := 1) hx hb dX6_nextToken_97 (by decide) ?_
                refine lv_icmp_eq (tgt := 109) hx hb dX6_nextToken_98 (by decide) (fun c98 => ?_) (fun c98 => ?_)
                · skip
                  have L109 : ∀ (n : Nat) (e : Nat) (rd : Nat → Int32) (H : Heap) (locs : List Loc) (ls : Array Slot), (ts - e) < n → a ≤ e → e ≤ ts → RN T ts 1 a = RN T ts 1 e → (∀ i, a ≤ i → i < e → cls (T i) = 1) → rd 1 = nI ts → rd 2 = nI a → rd 3 = nI e → rd 4 = 1 → (∀ j, j ≠ 2 → j ≠ 3 → j ≠ 4 → rd j = gi S 12 j) → Wd D (AW G s.heap.size) s G (ri S 12 rd) H locs → lv_has ls 1 [(0, .ref (gA G 12))] → W pP l eE (headSpec wsX6_nextToken rmX6_nextToken).room s mM ([.ref (gA G 12)] : List Value).toArray bl mT cD H locs 0 0 Q0 (F0 mM 109 ls []) := by
                    intro n
                    induction n with
                    | zero => intro e rd H locs ls hm; exact absurd hm (Nat.not_lt_zero _)
                    | succ n ih109 =>
                      intro e rd H locs ls hm109 hae het hrn hdg hq1 hq2 hq3 hq4 hqr hW hl
                      refine lv_aload_n hx hb dX6_nextToken_109 rfl (lv_at hl 0 rfl) ?_
                      refine r_geti (ci := 5) (C := RX6) (T := TX6) (N := 8) hx hb hts iX6 hown hW rfl 12 3 rfl (g_lt hG (by decide)) (g_kd hG (by decide) rfl) (by decide) q0 (fun _ h9 => h9) (nI e) ((congrFun (e_is _ _ _) 3).trans hq3) rfl rfl dX6_nextToken_110 ?_
                      refine lv_aload_n hx hb dX6_nextToken_113 rfl (lv_at hl 0 rfl) ?_
                      refine r_geti (ci := 5) (C := RX6) (T := TX6) (N := 8) hx hb hts iX6 hown hW rfl 12 1 rfl (g_lt hG (by decide)) (g_kd hG (by decide) rfl) (by decide) q1 (fun _ h9 => h9) (nI ts) ((congrFun (e_is _ _ _) 1).trans hq1) rfl rfl dX6_nextToken_114 ?_
                      refine lv_icmp_ge (tgt := 148) hx hb dX6_nextToken_117 (by decide) (fun c117 => ?_) (fun c117 => ?_)
                      · skip
                        have hge := (n_le (a := ts) (b := e) (by omega) (by omega)).mp c117
                        refine lv_aload_n hx hb dX6_nextToken_148 rfl (lv_at hl 0 rfl) ?_
                        refine r_geti (ci := 5) (C := RX6) (T := TX6) (N := 8) hx hb hts iX6 hown hW rfl 12 4 rfl (g_lt hG (by decide)) (g_kd hG (by decide) rfl) (by decide) q3 (fun _ h9 => h9) 1 ((congrFun (e_is _ _ _) 4).trans hq4) rfl rfl dX6_nextToken_149 ?_
                        refine lv_iconst (v := 2) hx hb dX6_nextToken_152 (by decide) ?_
                        refine lv_icmp_ne (tgt := 160) hx hb dX6_nextToken_153 (by decide) (fun c153 => ?_) (fun c153 => ?_)
                        · skip
                          rw [← hQ0]
                          refine r_vret hx hb hr hlocks hW ?_ dX6_nextToken_160
                          have hrn2 : RN T ts 1 a = e := hrn.trans (RN_e (Or.inl (by omega)))
                          have hte : tE T ts a0 = e := by unfold tE; rw [hska, if_pos hal, if_pos hcl]; exact hrn2
                          have hsu : tS T ts a0 = 1 := by unfold tS; rw [hska, if_pos hal, hcl]; simp
                          refine ⟨⟨by rw [hska]; exact (congrFun (e_is _ _ _) 2).trans hq2, by rw [hte]; exact (congrFun (e_is _ _ _) 3).trans hq3, by rw [hsu]; exact (congrFun (e_is _ _ _) 4).trans hq4, fun h2 => by rw [hsu] at h2; omega⟩, fun j hj => (congrFun (e_is _ _ _) j).trans (hqr j (by omega) (by omega) (by omega)), Ch.ri Ch.rf rfl⟩
                        · exact absurd c153 (by decide)
                      · skip
                        have hel : e < ts := by
                          have h9 : ¬ ts ≤ e := fun z => c117 ((n_le (a := ts) (b := e) (by omega) (by omega)).mpr z)
                          omega
                        have hcv := cls_v (T e)
                        refine lv_aload_n hx hb dX6_nextToken_120 rfl (lv_at hl 0 rfl) ?_
                        refine lv_aload_n hx hb dX6_nextToken_121 rfl (lv_at hl 0 rfl) ?_
                        refine r_geti (ci := 5) (C := RX6) (T := TX6) (N := 8) hx hb hts iX6 hown hW rfl 12 3 rfl (g_lt hG (by decide)) (g_kd hG (by decide) rfl) (by decide) q0 (fun _ h9 => h9) (nI e) ((congrFun (e_is _ _ _) 3).trans hq3) rfl rfl dX6_nextToken_122 ?_
                        refine r_calli hW hA (va_runV (As := [.int (nI e)]) (rest := []) ⟨hx, hb, hml, hown, hts⟩ (t_X6_sortAt l D G (ri S 12 rd) _ hG hP T ts ht4 hTB ((congrFun (e_is _ _ _) 1).trans hq1) h13 e (by omega)) (cwV 1 hts gX6_nextToken_X6_sortAt rfl rfl rfl (by decide +kernel) ⟨Nat.le_of_ble_eq_true rfl, Nat.le_of_ble_eq_true rfl⟩) (r_preV (k := 12) hA hW (ci := 5) (C := RX6) (T := TX6) (N := 8) rfl rfl (g_lt hG (by decide)) (g_kd hG (by decide) rfl) rfl rfl) rfl rfl hl.1 rfl (lv_room (Nat.le_of_ble_eq_true rfl)) dX6_nextToken_125 ⟨Nat.zero_le _, Nat.zero_le _⟩) (fun r125 S125 H locs hp125 hW => ?_)
                        obtain ⟨rfl, hs125⟩ := hp125
                        rw [hs125] at hW
                        rw [if_pos hel]
                        refine lv_aload_n hx hb dX6_nextToken_128 rfl (lv_at hl 0 rfl) ?_
                        refine r_geti (ci := 5) (C := RX6) (T := TX6) (N := 8) hx hb hts iX6 hown hW rfl 12 4 rfl (g_lt hG (by decide)) (g_kd hG (by decide) rfl) (by decide) q3 (fun _ h9 => h9) 1 ((congrFun (e_is _ _ _) 4).trans hq4) rfl rfl dX6_nextToken_129 ?_
                        refine lv_icmp_ne (tgt := 148) hx hb dX6_nextToken_132 (by decide) (fun c132 => ?_) (fun c132 => ?_)
                        · skip
                          have hce : cls (T e) ≠ 1 := fun z => c132 (by rw [z]; rfl)
                          refine lv_aload_n hx hb dX6_nextToken_148 rfl (lv_at hl 0 rfl) ?_
                          refine r_geti (ci := 5) (C := RX6) (T := TX6) (N := 8) hx hb hts iX6 hown hW rfl 12 4 rfl (g_lt hG (by decide)) (g_kd hG (by decide) rfl) (by decide) q3 (fun _ h9 => h9) 1 ((congrFun (e_is _ _ _) 4).trans hq4) rfl rfl dX6_nextToken_149 ?_
                          refine lv_iconst (v := 2) hx hb dX6_nextToken_152 (by decide) ?_
                          refine lv_icmp_ne (tgt := 160) hx hb dX6_nextToken_153 (by decide) (fun c153 => ?_) (fun c153 => ?_)
                          · skip
                            rw [← hQ0]
                            refine r_vret hx hb hr hlocks hW ?_ dX6_nextToken_160
                            have hrn2 : RN T ts 1 a = e := hrn.trans (RN_e (Or.inr hce))
                            have hte : tE T ts a0 = e := by unfold tE; rw [hska, if_pos hal, if_pos hcl]; exact hrn2
                            have hsu : tS T ts a0 = 1 := by unfold tS; rw [hska, if_pos hal, hcl]; simp
                            refine ⟨⟨by rw [hska]; exact (congrFun (e_is _ _ _) 2).trans hq2, by rw [hte]; exact (congrFun (e_is _ _ _) 3).trans hq3, by rw [hsu]; exact (congrFun (e_is _ _ _) 4).trans hq4, fun h2 => by rw [hsu] at h2; omega⟩, fun j hj => (congrFun (e_is _ _ _) j).trans (hqr j (by omega) (by omega) (by omega)), Ch.ri Ch.rf rfl⟩
                          · exact absurd c153 (by decide)
                        · skip
                          have hce : cls (T e) = 1 := (n_eq (a := cls (T e)) (b := 1) (by omega) (by decide)).mp c132
                          refine lv_aload_n hx hb dX6_nextToken_135 rfl (lv_at hl 0 rfl) ?_
                          refine lv_dup hx hb dX6_nextToken_136 rfl ?_
                          refine r_geti (ci := 5) (C := RX6) (T := TX6) (N := 8) hx hb hts iX6 hown hW rfl 12 3 rfl (g_lt hG (by decide)) (g_kd hG (by decide) rfl) (by decide) q0 (fun _ h9 => h9) (nI e) ((congrFun (e_is _ _ _) 3).trans hq3) rfl rfl dX6_nextToken_137 ?_
                          refine lv_iconst (v := 1) hx hb dX6_nextToken_140 (by decide) ?_
                          refine lv_iadd hx hb dX6_nextToken_141 ?_
                          rw [show (((nI e) + 1) : Int32) = (nI (e + 1)) from n_add e 1]
                          refine r_puti (ci := 5) (C := RX6) (T := TX6) (N := 8) hx hb hts iX6 tyX6 tyX6_ok nmX6 hown hW rfl 12 3 rfl (g_lt hG (by decide)) (g_kd hG (by decide) rfl) (by decide) q0 (fun _ h9 => h9) rfl (tyX6_ok 3 (by decide)) rfl rfl (ri S 12 (va_up rd 3 (nI (e + 1)))) rd (va_up rd 3 (nI (e + 1))) (e_is _ _ _) (e_is _ _ _) rfl rfl rfl (Nat.le_of_ble_eq_true rfl) rfl c_i dX6_nextToken_142 (fun H locs hW => ?_)
                          refine lv_goto (tgt := 109) hx hb dX6_nextToken_145 (by decide) ?_
                          exact ih109 (e + 1) (va_up rd 3 (nI (e + 1))) _ _ ls (by omega) (by omega) (by omega) (hrn.trans (RN_b hel hce)) (fun i h1 h2 => by rcases Nat.lt_or_eq_of_le (Nat.lt_succ_iff.mp h2) with z | z; exact hdg i h1 z; rw [z]; exact hce) ((up_n _ _ (by decide)).trans hq1) ((up_n _ _ (by decide)).trans hq2) (up_s _ _ _) ((up_n _ _ (by decide)).trans hq4) (fun j h2 h3 h4 => (up_n _ _ h3).trans (hqr j h2 h3 h4)) hW (lv_sub hl [0] rfl)
                  exact L109 _ a (va_up (va_up rc 2 (nI a)) 4 1) _ _ ls (Nat.lt_succ_self _) (Nat.le_refl _) ha rfl (fun i h1 h2 => absurd h2 (by omega)) ((hrc 1 (by decide)).trans h1) rfl hr3 rfl (fun j h2 h3 h4 => (up_n _ _ h4).trans ((up_n _ _ h2).trans (hrc j h3))) hW (lv_sub hl [0] rfl)
                · exact absurd (by decide) c98
              · exact absurd c77 (by decide)
            · skip
              refine lv_aload_n hx hb dX6_nextToken_52 rfl (lv_at hl 0 rfl) ?_
              refine lv_aload_n hx hb dX6_nextToken_53 rfl (lv_at hl 0 rfl) ?_
              refine r_geti (ci := 5) (C := RX6) (T := TX6) (N := 8) hx hb hts iX6 hown hW rfl 12 3 rfl (g_lt hG (by decide)) (g_kd hG (by decide) rfl) (by decide) q0 (fun _ h9 => h9) (nI a) ((congrFun (e_is _ _ _) 3).trans hr3) rfl rfl dX6_nextToken_54 ?_
              refine r_puti (ci := 5) (C := RX6) (T := TX6) (N := 8) hx hb hts iX6 tyX6 tyX6_ok nmX6 hown hW rfl 12 2 rfl (g_lt hG (by decide)) (g_kd hG (by decide) rfl) (by decide) q2 (fun _ h9 => h9) rfl (tyX6_ok 2 (by decide)) rfl rfl (ri S 12 (va_up rc 2 (nI a))) rc (va_up rc 2 (nI a)) (e_is _ _ _) (e_is _ _ _) rfl rfl rfl (Nat.le_of_ble_eq_true rfl) rfl c_i dX6_nextToken_57 (fun H locs hW => ?_)
              refine lv_aload_n hx hb dX6_nextToken_60 rfl (lv_at hl 0 rfl) ?_
              refine lv_aload_n hx hb dX6_nextToken_61 rfl (lv_at hl 0 rfl) ?_
              refine lv_aload_n hx hb dX6_nextToken_62 rfl (lv_at hl 0 rfl) ?_
              refine r_geti (ci := 5) (C := RX6) (T := TX6) (N := 8) hx hb hts iX6 hown hW rfl 12 2 rfl (g_lt hG (by decide)) (g_kd hG (by decide) rfl) (by decide) q2 (fun _ h9 => h9) (nI a) (congrFun (e_is _ _ _) 2) rfl rfl dX6_nextToken_63 ?_
              refine r_calli hW hA (va_runV (As := [.int (nI a)]) (rest := [.ref (gA G 12)]) ⟨hx, hb, hml, hown, hts⟩ (t_X6_sortAt l D G (ri S 12 (va_up rc 2 (nI a))) _ hG hP T ts ht4 hTB ((congrFun (e_is _ _ _) 1).trans ((hrc 1 (by decide)).trans h1)) h13 a (by omega)) (cwV 1 hts gX6_nextToken_X6_sortAt rfl rfl rfl (by decide +kernel) ⟨Nat.le_of_ble_eq_true rfl, Nat.le_of_ble_eq_true rfl⟩) (r_preV (k := 12) hA hW (ci := 5) (C := RX6) (T := TX6) (N := 8) rfl rfl (g_lt hG (by decide)) (g_kd hG (by decide) rfl) rfl rfl) rfl rfl hl.1 rfl (lv_room (Nat.le_of_ble_eq_true rfl)) dX6_nextToken_66 ⟨Nat.zero_le _, Nat.zero_le _⟩) (fun r66 S66 H locs hp66 hW => ?_)
              obtain ⟨rfl, hs66⟩ := hp66
              rw [hs66] at hW
              rw [show nI (if a < ts then cls (T a) else 0) = (2 : Int32) from by rw [if_pos hal, hcl]; rfl]
              refine r_puti (ci := 5) (C := RX6) (T := TX6) (N := 8) hx hb hts iX6 tyX6 tyX6_ok nmX6 hown hW rfl 12 4 rfl (g_lt hG (by decide)) (g_kd hG (by decide) rfl) (by decide) q3 (fun _ h9 => h9) rfl (tyX6_ok 4 (by decide)) rfl rfl (ri S 12 (va_up (va_up rc 2 (nI a)) 4 2)) (va_up rc 2 (nI a)) (va_up (va_up rc 2 (nI a)) 4 2) (e_is _ _ _) (e_is _ _ _) rfl rfl rfl (Nat.le_of_ble_eq_true rfl) rfl c_i dX6_nextToken_69 (fun H locs hW => ?_)
              refine lv_aload_n hx hb dX6_nextToken_72 rfl (lv_at hl 0 rfl) ?_
              refine r_geti (ci := 5) (C := RX6) (T := TX6) (N := 8) hx hb hts iX6 hown hW rfl 12 4 rfl (g_lt hG (by decide)) (g_kd hG (by decide) rfl) (by decide) q3 (fun _ h9 => h9) 2 (congrFun (e_is _ _ _) 4) rfl rfl dX6_nextToken_73 ?_
              refine lv_iconst (v := 3) hx hb dX6_nextToken_76 (by decide) ?_
              refine lv_icmp_ne (tgt := 93) hx hb dX6_nextToken_77 (by decide) (fun c77 => ?_) (fun c77 => ?_)
              · skip
                refine lv_aload_n hx hb dX6_nextToken_93 rfl (lv_at hl 0 rfl) ?_
                refine r_geti (ci := 5) (C := RX6) (T := TX6) (N := 8) hx hb hts iX6 hown hW rfl 12 4 rfl (g_lt hG (by decide)) (g_kd hG (by decide) rfl) (by decide) q3 (fun _ h9 => h9) 2 (congrFun (e_is _ _ _) 4) rfl rfl dX6_nextToken_94 ?_
                refine lv_iconst (v := 1) hx hb dX6_nextToken_97 (by decide) ?_
                refine lv_icmp_eq (tgt := 109) hx hb dX6_nextToken_98 (by decide) (fun c98 => ?_) (fun c98 => ?_)
                · exact absurd c98 (by decide)
                · skip
                  refine lv_aload_n hx hb dX6_nextToken_101 rfl (lv_at hl 0 rfl) ?_
                  refine r_geti (ci := 5) (C := RX6) (T := TX6) (N := 8) hx hb hts iX6 hown hW rfl 12 4 rfl (g_lt hG (by decide)) (g_kd hG (by decide) rfl) (by decide) q3 (fun _ h9 => h9) 2 (congrFun (e_is _ _ _) 4) rfl rfl dX6_nextToken_102 ?_
                  refine lv_iconst (v := 2) hx hb dX6_nextToken_105 (by decide) ?_
                  refine lv_icmp_ne (tgt := 148) hx hb dX6_nextToken_106 (by decide) (fun c106 => ?_) (fun c106 => ?_)
                  · exact absurd (by decide) c106
                  · skip
                    have L109 : ∀ (n : Nat) (e : Nat) (rd : Nat → Int32) (H : Heap) (locs : List Loc) (ls : Array Slot), (ts - e) < n → a ≤ e → e ≤ ts → RN T ts 2 a = RN T ts 2 e → (∀ i, a ≤ i → i < e → cls (T i) = 2) → rd 1 = nI ts → rd 2 = nI a → rd 3 = nI e → rd 4 = 2 → (∀ j, j ≠ 2 → j ≠ 3 → j ≠ 4 → rd j = gi S 12 j) → Wd D (AW G s.heap.size) s G (ri S 12 rd) H locs → lv_has ls 1 [(0, .ref (gA G 12))] → W pP l eE (headSpec wsX6_nextToken rmX6_nextToken).room s mM ([.ref (gA G 12)] : List Value).toArray bl mT cD H locs 0 0 Q0 (F0 mM 109 ls []) := by
                      intro n
                      induction n with
                      | zero => intro e rd H locs ls hm; exact absurd hm (Nat.not_lt_zero _)
                      | succ n ih109 =>
                        intro e rd H locs ls hm109 hae het hrn hdg hq1 hq2 hq3 hq4 hqr hW hl
                        refine lv_aload_n hx hb dX6_nextToken_109 rfl (lv_at hl 0 rfl) ?_
                        refine r_geti (ci := 5) (C := RX6) (T := TX6) (N := 8) hx hb hts iX6 hown hW rfl 12 3 rfl (g_lt hG (by decide)) (g_kd hG (by decide) rfl) (by decide) q0 (fun _ h9 => h9) (nI e) ((congrFun (e_is _ _ _) 3).trans hq3) rfl rfl dX6_nextToken_110 ?_
                        refine lv_aload_n hx hb dX6_nextToken_113 rfl (lv_at hl 0 rfl) ?_
                        refine r_geti (ci := 5) (C := RX6) (T := TX6) (N := 8) hx hb hts iX6 hown hW rfl 12 1 rfl (g_lt hG (by decide)) (g_kd hG (by decide) rfl) (by decide) q1 (fun _ h9 => h9) (nI ts) ((congrFun (e_is _ _ _) 1).trans hq1) rfl rfl dX6_nextToken_114 ?_
                        refine lv_icmp_ge (tgt := 148) hx hb dX6_nextToken_117 (by decide) (fun c117 => ?_) (fun c117 => ?_)
                        · skip
                          have hge := (n_le (a := ts) (b := e) (by omega) (by omega)).mp c117
                          refine lv_aload_n hx hb dX6_nextToken_148 rfl (lv_at hl 0 rfl) ?_
                          refine r_geti (ci := 5) (C := RX6) (T := TX6) (N := 8) hx hb hts iX6 hown hW rfl 12 4 rfl (g_lt hG (by decide)) (g_kd hG (by decide) rfl) (by decide) q3 (fun _ h9 => h9) 2 ((congrFun (e_is _ _ _) 4).trans hq4) rfl rfl dX6_nextToken_149 ?_
                          refine lv_iconst (v := 2) hx hb dX6_nextToken_152 (by decide) ?_
                          refine lv_icmp_ne (tgt := 160) hx hb dX6_nextToken_153 (by decide) (fun c153 => ?_) (fun c153 => ?_)
                          · exact absurd (by decide) c153
                          · skip
                            refine lv_aload_n hx hb dX6_nextToken_156 rfl (lv_at hl 0 rfl) ?_
                            refine r_callv hW hA (va_runV (As := []) (rest := []) ⟨hx, hb, hml, hown, hts⟩ (t_X6_takeFigures l D G (ri S 12 rd) _ hG hP T ts ht4 hTB (by rw [gi_ri, up_s]; exact hq1) h13 a e hae het (by rw [gi_ri, up_s]; exact hq2) (by rw [gi_ri, up_s]; exact hq3) (fun i h1 h2 => cls_2 (hdg i h1 h2))) (cwV 0 hts gX6_nextToken_X6_takeFigures rfl rfl rfl (by decide +kernel) ⟨Nat.le_of_ble_eq_true rfl, Nat.le_of_ble_eq_true rfl⟩) (r_preV (k := 12) hA hW (ci := 5) (C := RX6) (T := TX6) (N := 8) rfl rfl (g_lt hG (by decide)) (g_kd hG (by decide) rfl) rfl rfl) rfl rfl hl.1 rfl (lv_room (Nat.le_of_ble_eq_true rfl)) dX6_nextToken_157 ⟨Nat.zero_le _, Nat.zero_le _⟩) (fun S157 H locs hp157 hW => ?_)
                            obtain ⟨hF1, hF2, hF3, hF4⟩ := hp157
                            rw [← hQ0]
                            refine r_vret hx hb hr hlocks hW ?_ dX6_nextToken_160
                            have hrn2 : RN T ts 2 a = e := hrn.trans (RN_e (Or.inl (by omega)))
                            have es : gi (ri S 12 rd) 12 = rd := e_is _ _ _
                            rw [es] at hF2 hF3
                            have hte : tE T ts a0 = e := by unfold tE; rw [hska, if_pos hal, if_neg (by omega), if_pos hcl]; exact hrn2
                            have hsu : tS T ts a0 = if 3 < e - a then 4 else 2 := by unfold tS; rw [hska, if_pos hal, hrn2, hcl]; simp
                            refine ⟨⟨by rw [hska]; exact (hF2 2 (by decide) (by decide)).trans hq2, by rw [hte]; exact (hF2 3 (by decide) (by decide)).trans hq3, ?_, fun h2 => ?_⟩, fun j hj => (hF2 j (by omega) (by omega)).trans (hqr j (by omega) (by omega) (by omega)), Ch.tr (Ch.ri Ch.rf rfl) hF4⟩
                            · rcases hF3 with z | z
                              · rw [hsu, if_pos z.1]; exact z.2
                              · rw [hsu, if_neg (by omega)]; exact z.2.1.trans hq4
                            · rcases hF3 with z | z
                              · rw [hsu, if_pos z.1] at h2; omega
                              · unfold tV; rw [hska, hte]; exact z.2.2
                        · skip
                          have hel : e < ts := by
                            have h9 : ¬ ts ≤ e := fun z => c117 ((n_le (a := ts) (b := e) (by omega) (by omega)).mpr z)
                            omega
                          have hcv := cls_v (T e)
                          refine lv_aload_n hx hb dX6_nextToken_120 rfl (lv_at hl 0 rfl) ?_
                          refine lv_aload_n hx hb dX6_nextToken_121 rfl (lv_at hl 0 rfl) ?_
                          refine r_geti (ci := 5) (C := RX6) (T := TX6) (N := 8) hx hb hts iX6 hown hW rfl 12 3 rfl (g_lt hG (by decide)) (g_kd hG (by decide) rfl) (by decide) q0 (fun _ h9 => h9) (nI e) ((congrFun (e_is _ _ _) 3).trans hq3) rfl rfl dX6_nextToken_122 ?_
                          refine r_calli hW hA (va_runV (As := [.int (nI e)]) (rest := []) ⟨hx, hb, hml, hown, hts⟩ (t_X6_sortAt l D G (ri S 12 rd) _ hG hP T ts ht4 hTB ((congrFun (e_is _ _ _) 1).trans hq1) h13 e (by omega)) (cwV 1 hts gX6_nextToken_X6_sortAt rfl rfl rfl (by decide +kernel) ⟨Nat.le_of_ble_eq_true rfl, Nat.le_of_ble_eq_true rfl⟩) (r_preV (k := 12) hA hW (ci := 5) (C := RX6) (T := TX6) (N := 8) rfl rfl (g_lt hG (by decide)) (g_kd hG (by decide) rfl) rfl rfl) rfl rfl hl.1 rfl (lv_room (Nat.le_of_ble_eq_true rfl)) dX6_nextToken_125 ⟨Nat.zero_le _, Nat.zero_le _⟩) (fun r125 S125 H locs hp125 hW => ?_)
                          obtain ⟨rfl, hs125⟩ := hp125
                          rw [hs125] at hW
                          rw [if_pos hel]
                          refine lv_aload_n hx hb dX6_nextToken_128 rfl (lv_at hl 0 rfl) ?_
                          refine r_geti (ci := 5) (C := RX6) (T := TX6) (N := 8) hx hb hts iX6 hown hW rfl 12 4 rfl (g_lt hG (by decide)) (g_kd hG (by decide) rfl) (by decide) q3 (fun _ h9 => h9) 2 ((congrFun (e_is _ _ _) 4).trans hq4) rfl rfl dX6_nextToken_129 ?_
                          refine lv_icmp_ne (tgt := 148) hx hb dX6_nextToken_132 (by decide) (fun c132 => ?_) (fun c132 => ?_)
                          · skip
                            have hce : cls (T e) ≠ 2 := fun z => c132 (by rw [z]; rfl)
                            refine lv_aload_n hx hb dX6_nextToken_148 rfl (lv_at hl 0 rfl) ?_
                            refine r_geti (ci := 5) (C := RX6) (T := TX6) (N := 8) hx hb hts iX6 hown hW rfl 12 4 rfl (g_lt hG (by decide)) (g_kd hG (by decide) rfl) (by decide) q3 (fun _ h9 => h9) 2 ((congrFun (e_is _ _ _) 4).trans hq4) rfl rfl dX6_nextToken_149 ?_
                            refine lv_iconst (v := 2) hx hb dX6_nextToken_152 (by decide) ?_
                            refine lv_icmp_ne (tgt := 160) hx hb dX6_nextToken_153 (by decide) (fun c153 => ?_) (fun c153 => ?_)
                            · exact absurd (by decide) c153
                            · skip
                              refine lv_aload_n hx hb dX6_nextToken_156 rfl (lv_at hl 0 rfl) ?_
                              refine r_callv hW hA (va_runV (As := []) (rest := []) ⟨hx, hb, hml, hown, hts⟩ (t_X6_takeFigures l D G (ri S 12 rd) _ hG hP T ts ht4 hTB (by rw [gi_ri, up_s]; exact hq1) h13 a e hae het (by rw [gi_ri, up_s]; exact hq2) (by rw [gi_ri, up_s]; exact hq3) (fun i h1 h2 => cls_2 (hdg i h1 h2))) (cwV 0 hts gX6_nextToken_X6_takeFigures rfl rfl rfl (by decide +kernel) ⟨Nat.le_of_ble_eq_true rfl, Nat.le_of_ble_eq_true rfl⟩) (r_preV (k := 12) hA hW (ci := 5) (C := RX6) (T := TX6) (N := 8) rfl rfl (g_lt hG (by decide)) (g_kd hG (by decide) rfl) rfl rfl) rfl rfl hl.1 rfl (lv_room (Nat.le_of_ble_eq_true rfl)) dX6_nextToken_157 ⟨Nat.zero_le _, Nat.zero_le _⟩) (fun S157 H locs hp157 hW => ?_)
                              obtain ⟨hF1, hF2, hF3, hF4⟩ := hp157
                              rw [← hQ0]
                              refine r_vret hx hb hr hlocks hW ?_ dX6_nextToken_160
                              have hrn2 : RN T ts 2 a = e := hrn.trans (RN_e (Or.inr hce))
                              have es : gi (ri S 12 rd) 12 = rd := e_is _ _ _
                              rw [es] at hF2 hF3
                              have hte : tE T ts a0 = e := by unfold tE; rw [hska, if_pos hal, if_neg (by omega), if_pos hcl]; exact hrn2
                              have hsu : tS T ts a0 = if 3 < e - a then 4 else 2 := by unfold tS; rw [hska, if_pos hal, hrn2, hcl]; simp
                              refine ⟨⟨by rw [hska]; exact (hF2 2 (by decide) (by decide)).trans hq2, by rw [hte]; exact (hF2 3 (by decide) (by decide)).trans hq3, ?_, fun h2 => ?_⟩, fun j hj => (hF2 j (by omega) (by omega)).trans (hqr j (by omega) (by omega) (by omega)), Ch.tr (Ch.ri Ch.rf rfl) hF4⟩
                              · rcases hF3 with z | z
                                · rw [hsu, if_pos z.1]; exact z.2
                                · rw [hsu, if_neg (by omega)]; exact z.2.1.trans hq4
                              · rcases hF3 with z | z
                                · rw [hsu, if_pos z.1] at h2; omega
                                · unfold tV; rw [hska, hte]; exact z.2.2
                          · skip
                            have hce : cls (T e) = 2 := (n_eq (a := cls (T e)) (b := 2) (by omega) (by decide)).mp c132
                            refine lv_aload_n hx hb dX6_nextToken_135 rfl (lv_at hl 0 rfl) ?_
                            refine lv_dup hx hb dX6_nextToken_136 rfl ?_
                            refine r_geti (ci := 5) (C := RX6) (T := TX6) (N := 8) hx hb hts iX6 hown hW rfl 12 3 rfl (g_lt hG (by decide)) (g_kd hG (by decide) rfl) (by decide) q0 (fun _ h9 => h9) (nI e) ((congrFun (e_is _ _ _) 3).trans hq3) rfl rfl dX6_nextToken_137 ?_
                            refine lv_iconst (v := 1) hx hb dX6_nextToken_140 (by decide) ?_
                            refine lv_iadd hx hb dX6_nextToken_141 ?_
                            rw [show (((nI e) + 1) : Int32) = (nI (e + 1)) from n_add e 1]
                            refine r_puti (ci := 5) (C := RX6) (T := TX6) (N := 8) hx hb hts iX6 tyX6 tyX6_ok nmX6 hown hW rfl 12 3 rfl (g_lt hG (by decide)) (g_kd hG (by decide) rfl) (by decide) q0 (fun _ h9 => h9) rfl (tyX6_ok 3 (by decide)) rfl rfl (ri S 12 (va_up rd 3 (nI (e + 1)))) rd (va_up rd 3 (nI (e + 1))) (e_is _ _ _) (e_is _ _ _) rfl rfl rfl (Nat.le_of_ble_eq_true rfl) rfl c_i dX6_nextToken_142 (fun H locs hW => ?_)
                            refine lv_goto (tgt := 109) hx hb dX6_nextToken_145 (by decide) ?_
                            exact ih109 (e + 1) (va_up rd 3 (nI (e + 1))) _ _ ls (by omega) (by omega) (by omega) (hrn.trans (RN_b hel hce)) (fun i h1 h2 => by rcases Nat.lt_or_eq_of_le (Nat.lt_succ_iff.mp h2) with z | z; exact hdg i h1 z; rw [z]; exact hce) ((up_n _ _ (by decide)).trans hq1) ((up_n _ _ (by decide)).trans hq2) (up_s _ _ _) ((up_n _ _ (by decide)).trans hq4) (fun j h2 h3 h4 => (up_n _ _ h3).trans (hqr j h2 h3 h4)) hW (lv_sub hl [0] rfl)
                    exact L109 _ a (va_up (va_up rc 2 (nI a)) 4 2) _ _ ls (Nat.lt_succ_self _) (Nat.le_refl _) ha rfl (fun i h1 h2 => absurd h2 (by omega)) ((hrc 1 (by decide)).trans h1) rfl hr3 rfl (fun j h2 h3 h4 => (up_n _ _ h4).trans ((up_n _ _ h2).trans (hrc j h3))) hW (lv_sub hl [0] rfl)
              · exact absurd c77 (by decide)
            · skip
              refine lv_aload_n hx hb dX6_nextToken_52 rfl (lv_at hl 0 rfl) ?_
              refine lv_aload_n hx hb dX6_nextToken_53 rfl (lv_at hl 0 rfl) ?_
              refine r_geti (ci := 5) (C := RX6) (T := TX6) (N := 8) hx hb hts iX6 hown hW rfl 12 3 rfl (g_lt hG (by decide)) (g_kd hG (by decide) rfl) (by decide) q0 (fun _ h9 => h9) (nI a) ((congrFun (e_is _ _ _) 3).trans hr3) rfl rfl dX6_nextToken_54 ?_
              refine r_puti (ci := 5) (C := RX6) (T := TX6) (N := 8) hx hb hts iX6 tyX6 tyX6_ok nmX6 hown hW rfl 12 2 rfl (g_lt hG (by decide)) (g_kd hG (by decide) rfl) (by decide) q2 (fun _ h9 => h9) rfl (tyX6_ok 2 (by decide)) rfl rfl (ri S 12 (va_up rc 2 (nI a))) rc (va_up rc 2 (nI a)) (e_is _ _ _) (e_is _ _ _) rfl rfl rfl (Nat.le_of_ble_eq_true rfl) rfl c_i dX6_nextToken_57 (fun H locs hW => ?_)
              refine lv_aload_n hx hb dX6_nextToken_60 rfl (lv_at hl 0 rfl) ?_
              refine lv_aload_n hx hb dX6_nextToken_61 rfl (lv_at hl 0 rfl) ?_
              refine lv_aload_n hx hb dX6_nextToken_62 rfl (lv_at hl 0 rfl) ?_
              refine r_geti (ci := 5) (C := RX6) (T := TX6) (N := 8) hx hb hts iX6 hown hW rfl 12 2 rfl (g_lt hG (by decide)) (g_kd hG (by decide) rfl) (by decide) q2 (fun _ h9 => h9) (nI a) (congrFun (e_is _ _ _) 2) rfl rfl dX6_nextToken_63 ?_
              refine r_calli hW hA (va_runV (As := [.int (nI a)]) (rest := [.ref (gA G 12)]) ⟨hx, hb, hml, hown, hts⟩ (t_X6_sortAt l D G (ri S 12 (va_up rc 2 (nI a))) _ hG hP T ts ht4 hTB ((congrFun (e_is _ _ _) 1).trans ((hrc 1 (by decide)).trans h1)) h13 a (by omega)) (cwV 1 hts gX6_nextToken_X6_sortAt rfl rfl rfl (by decide +kernel) ⟨Nat.le_of_ble_eq_true rfl, Nat.le_of_ble_eq_true rfl⟩) (r_preV (k := 12) hA hW (ci := 5) (C := RX6) (T := TX6) (N := 8) rfl rfl (g_lt hG (by decide)) (g_kd hG (by decide) rfl) rfl rfl) rfl rfl hl.1 rfl (lv_room (Nat.le_of_ble_eq_true rfl)) dX6_nextToken_66 ⟨Nat.zero_le _, Nat.zero_le _⟩) (fun r66 S66 H locs hp66 hW => ?_)
              obtain ⟨rfl, hs66⟩ := hp66
              rw [hs66] at hW
              rw [show nI (if a < ts then cls (T a) else 0) = (3 : Int32) from by rw [if_pos hal, hcl]; rfl]
              refine r_puti (ci := 5) (C := RX6) (T := TX6) (N := 8) hx hb hts iX6 tyX6 tyX6_ok nmX6 hown hW rfl 12 4 rfl (g_lt hG (by decide)) (g_kd hG (by decide) rfl) (by decide) q3 (fun _ h9 => h9) rfl (tyX6_ok 4 (by decide)) rfl rfl (ri S 12 (va_up (va_up rc 2 (nI a)) 4 3)) (va_up rc 2 (nI a)) (va_up (va_up rc 2 (nI a)) 4 3) (e_is _ _ _) (e_is _ _ _) rfl rfl rfl (Nat.le_of_ble_eq_true rfl) rfl c_i dX6_nextToken_69 (fun H locs hW => ?_)
              refine lv_aload_n hx hb dX6_nextToken_72 rfl (lv_at hl 0 rfl) ?_
              refine r_geti (ci := 5) (C := RX6) (T := TX6) (N := 8) hx hb hts iX6 hown hW rfl 12 4 rfl (g_lt hG (by decide)) (g_kd hG (by decide) rfl) (by decide) q3 (fun _ h9 => h9) 3 (congrFun (e_is _ _ _) 4) rfl rfl dX6_nextToken_73 ?_
              refine lv_iconst (v := 3) hx hb dX6_nextToken_76 (by decide) ?_
              refine lv_icmp_ne (tgt := 93) hx hb dX6_nextToken_77 (by decide) (fun c77 => ?_) (fun c77 => ?_)
              · exact absurd (by decide) c77
              · skip
                refine lv_aload_n hx hb dX6_nextToken_80 rfl (lv_at hl 0 rfl) ?_
                refine lv_dup hx hb dX6_nextToken_81 rfl ?_
                refine r_geti (ci := 5) (C := RX6) (T := TX6) (N := 8) hx hb hts iX6 hown hW rfl 12 3 rfl (g_lt hG (by decide)) (g_kd hG (by decide) rfl) (by decide) q0 (fun _ h9 => h9) (nI a) ((congrFun (e_is _ _ _) 3).trans hr3) rfl rfl dX6_nextToken_82 ?_
                refine lv_iconst (v := 1) hx hb dX6_nextToken_85 (by decide) ?_
                refine lv_iadd hx hb dX6_nextToken_86 ?_
                rw [show (((nI a) + 1) : Int32) = (nI (a + 1)) from n_add a 1]
                refine r_puti (ci := 5) (C := RX6) (T := TX6) (N := 8) hx hb hts iX6 tyX6 tyX6_ok nmX6 hown hW rfl 12 3 rfl (g_lt hG (by decide)) (g_kd hG (by decide) rfl) (by decide) q0 (fun _ h9 => h9) rfl (tyX6_ok 3 (by decide)) rfl rfl (ri S 12 (va_up (va_up (va_up rc 2 (nI a)) 4 3) 3 (nI (a + 1)))) (va_up (va_up rc 2 (nI a)) 4 3) (va_up (va_up (va_up rc 2 (nI a)) 4 3) 3 (nI (a + 1))) (e_is _ _ _) (e_is _ _ _) rfl rfl rfl (Nat.le_of_ble_eq_true rfl) rfl c_i dX6_nextToken_87 (fun H locs hW => ?_)
                refine lv_goto (tgt := 148) hx hb dX6_nextToken_90 (by decide) ?_
                refine lv_aload_n hx hb dX6_nextToken_148 rfl (lv_at hl 0 rfl) ?_
                refine r_geti (ci := 5) (C := RX6) (T := TX6) (N := 8) hx hb hts iX6 hown hW rfl 12 4 rfl (g_lt hG (by decide)) (g_kd hG (by decide) rfl) (by decide) q3 (fun _ h9 => h9) 3 (congrFun (e_is _ _ _) 4) rfl rfl dX6_nextToken_149 ?_
                refine lv_iconst (v := 2) hx hb dX6_nextToken_152 (by decide) ?_
                refine lv_icmp_ne (tgt := 160) hx hb dX6_nextToken_153 (by decide) (fun c153 => ?_) (fun c153 => ?_)
                · skip
                  rw [← hQ0]
                  refine r_vret hx hb hr hlocks hW ?_ dX6_nextToken_160
                  have hte : tE T ts a0 = (a + 1) := by unfold tE; rw [hska, if_pos hal, if_neg (by omega), if_neg (by omega), if_pos hcl]
                  have hsu : tS T ts a0 = 3 := by unfold tS; rw [hska, if_pos hal, hcl]; simp
                  refine ⟨⟨by rw [hska]; exact (congrFun (e_is _ _ _) 2).trans rfl, by rw [hte]; exact (congrFun (e_is _ _ _) 3).trans rfl, by rw [hsu]; exact (congrFun (e_is _ _ _) 4).trans rfl, fun h2 => by rw [hsu] at h2; omega⟩, fun j hj => (congrFun (e_is _ _ _) j).trans ?_, Ch.ri Ch.rf rfl⟩
                  have hj2 : j ≠ 2 ∧ j ≠ 3 ∧ j ≠ 4 := by omega
                  rw [up_n _ _ hj2.2.1, up_n _ _ hj2.2.2, up_n _ _ hj2.1]
                  exact hrc j hj2.2.1
                · exact absurd c153 (by decide)
            · skip
              refine lv_aload_n hx hb dX6_nextToken_52 rfl (lv_at hl 0 rfl) ?_
              refine lv_aload_n hx hb dX6_nextToken_53 rfl (lv_at hl 0 rfl) ?_
              refine r_geti (ci := 5) (C := RX6) (T := TX6) (N := 8) hx hb hts iX6 hown hW rfl 12 3 rfl (g_lt hG (by decide)) (g_kd hG (by decide) rfl) (by decide) q0 (fun _ h9 => h9) (nI a) ((congrFun (e_is _ _ _) 3).trans hr3) rfl rfl dX6_nextToken_54 ?_
              refine r_puti (ci := 5) (C := RX6) (T := TX6) (N := 8) hx hb hts iX6 tyX6 tyX6_ok nmX6 hown hW rfl 12 2 rfl (g_lt hG (by decide)) (g_kd hG (by decide) rfl) (by decide) q2 (fun _ h9 => h9) rfl (tyX6_ok 2 (by decide)) rfl rfl (ri S 12 (va_up rc 2 (nI a))) rc (va_up rc 2 (nI a)) (e_is _ _ _) (e_is _ _ _) rfl rfl rfl (Nat.le_of_ble_eq_true rfl) rfl c_i dX6_nextToken_57 (fun H locs hW => ?_)
              refine lv_aload_n hx hb dX6_nextToken_60 rfl (lv_at hl 0 rfl) ?_
              refine lv_aload_n hx hb dX6_nextToken_61 rfl (lv_at hl 0 rfl) ?_
              refine lv_aload_n hx hb dX6_nextToken_62 rfl (lv_at hl 0 rfl) ?_
              refine r_geti (ci := 5) (C := RX6) (T := TX6) (N := 8) hx hb hts iX6 hown hW rfl 12 2 rfl (g_lt hG (by decide)) (g_kd hG (by decide) rfl) (by decide) q2 (fun _ h9 => h9) (nI a) (congrFun (e_is _ _ _) 2) rfl rfl dX6_nextToken_63 ?_
              refine r_calli hW hA (va_runV (As := [.int (nI a)]) (rest := [.ref (gA G 12)]) ⟨hx, hb, hml, hown, hts⟩ (t_X6_sortAt l D G (ri S 12 (va_up rc 2 (nI a))) _ hG hP T ts ht4 hTB ((congrFun (e_is _ _ _) 1).trans ((hrc 1 (by decide)).trans h1)) h13 a (by omega)) (cwV 1 hts gX6_nextToken_X6_sortAt rfl rfl rfl (by decide +kernel) ⟨Nat.le_of_ble_eq_true rfl, Nat.le_of_ble_eq_true rfl⟩) (r_preV (k := 12) hA hW (ci := 5) (C := RX6) (T := TX6) (N := 8) rfl rfl (g_lt hG (by decide)) (g_kd hG (by decide) rfl) rfl rfl) rfl rfl hl.1 rfl (lv_room (Nat.le_of_ble_eq_true rfl)) dX6_nextToken_66 ⟨Nat.zero_le _, Nat.zero_le _⟩) (fun r66 S66 H locs hp66 hW => ?_)
              obtain ⟨rfl, hs66⟩ := hp66
              rw [hs66] at hW
              rw [show nI (if a < ts then cls (T a) else 0) = (4 : Int32) from by rw [if_pos hal, hcl]; rfl]
              refine r_puti (ci := 5) (C := RX6) (T := TX6) (N := 8) hx hb hts iX6 tyX6 tyX6_ok nmX6 hown hW rfl 12 4 rfl (g_lt hG (by decide)) (g_kd hG (by decide) rfl) (by decide) q3 (fun _ h9 => h9) rfl (tyX6_ok 4 (by decide)) rfl rfl (ri S 12 (va_up (va_up rc 2 (nI a)) 4 4)) (va_up rc 2 (nI a)) (va_up (va_up rc 2 (nI a)) 4 4) (e_is _ _ _) (e_is _ _ _) rfl rfl rfl (Nat.le_of_ble_eq_true rfl) rfl c_i dX6_nextToken_69 (fun H locs hW => ?_)
              refine lv_aload_n hx hb dX6_nextToken_72 rfl (lv_at hl 0 rfl) ?_
              refine r_geti (ci := 5) (C := RX6) (T := TX6) (N := 8) hx hb hts iX6 hown hW rfl 12 4 rfl (g_lt hG (by decide)) (g_kd hG (by decide) rfl) (by decide) q3 (fun _ h9 => h9) 4 (congrFun (e_is _ _ _) 4) rfl rfl dX6_nextToken_73 ?_
              refine lv_iconst (v := 3) hx hb dX6_nextToken_76 (by decide) ?_
              refine lv_icmp_ne (tgt := 93) hx hb dX6_nextToken_77 (by decide) (fun c77 => ?_) (fun c77 => ?_)
              · skip
                refine lv_aload_n hx hb dX6_nextToken_93 rfl (lv_at hl 0 rfl) ?_
                refine r_geti (ci := 5) (C := RX6) (T := TX6) (N := 8) hx hb hts iX6 hown hW rfl 12 4 rfl (g_lt hG (by decide)) (g_kd hG (by decide) rfl) (by decide) q3 (fun _ h9 => h9) 4 (congrFun (e_is _ _ _) 4) rfl rfl dX6_nextToken_94 ?_
                refine lv_iconst (v := 1) hx hb dX6_nextToken_97 (by decide) ?_
                refine lv_icmp_eq (tgt := 109) hx hb dX6_nextToken_98 (by decide) (fun c98 => ?_) (fun c98 => ?_)
                · exact absurd c98 (by decide)
                · skip
                  refine lv_aload_n hx hb dX6_nextToken_101 rfl (lv_at hl 0 rfl) ?_
                  refine r_geti (ci := 5) (C := RX6) (T := TX6) (N := 8) hx hb hts iX6 hown hW rfl 12 4 rfl (g_lt hG (by decide)) (g_kd hG (by decide) rfl) (by decide) q3 (fun _ h9 => h9) 4 (congrFun (e_is _ _ _) 4) rfl rfl dX6_nextToken_102 ?_
                  refine lv_iconst (v := 2) hx hb dX6_nextToken_105 (by decide) ?_
                  refine lv_icmp_ne (tgt := 148) hx hb dX6_nextToken_106 (by decide) (fun c106 => ?_) (fun c106 => ?_)
                  · skip
                    refine lv_aload_n hx hb dX6_nextToken_148 rfl (lv_at hl 0 rfl) ?_
                    refine r_geti (ci := 5) (C := RX6) (T := TX6) (N := 8) hx hb hts iX6 hown hW rfl 12 4 rfl (g_lt hG (by decide)) (g_kd hG (by decide) rfl) (by decide) q3 (fun _ h9 => h9) 4 (congrFun (e_is _ _ _) 4) rfl rfl dX6_nextToken_149 ?_
                    refine lv_iconst (v := 2) hx hb dX6_nextToken_152 (by decide) ?_
                    refine lv_icmp_ne (tgt := 160) hx hb dX6_nextToken_153 (by decide) (fun c153 => ?_) (fun c153 => ?_)
                    · skip
                      rw [← hQ0]
                      refine r_vret hx hb hr hlocks hW ?_ dX6_nextToken_160
                      have hte : tE T ts a0 = a := by unfold tE; rw [hska, if_pos hal, if_neg (by omega), if_neg (by omega), if_neg (by omega)]
                      have hsu : tS T ts a0 = 4 := by unfold tS; rw [hska, if_pos hal, hcl]; simp
                      refine ⟨⟨by rw [hska]; exact (congrFun (e_is _ _ _) 2).trans rfl, by rw [hte]; exact (congrFun (e_is _ _ _) 3).trans hr3, by rw [hsu]; exact (congrFun (e_is _ _ _) 4).trans rfl, fun h2 => by rw [hsu] at h2; omega⟩, fun j hj => (congrFun (e_is _ _ _) j).trans ?_, Ch.ri Ch.rf rfl⟩
                      have hj2 : j ≠ 2 ∧ j ≠ 3 ∧ j ≠ 4 := by omega
                      rw [up_n _ _ hj2.2.2, up_n _ _ hj2.1]
                      exact hrc j hj2.2.1
                    · exact absurd c153 (by decide)
                  · exact absurd c106 (by decide)
              · exact absurd c77 (by decide)
          · skip
            rw [t_eq, show (10 : Int32).toInt = 10 from by decide] at c36
            have hbl : T a = 10 := by omega
            refine lv_aload_n hx hb dX6_nextToken_39 rfl (lv_at hl 0 rfl) ?_
            refine lv_dup hx hb dX6_nextToken_40 rfl ?_
            refine r_geti (ci := 5) (C := RX6) (T := TX6) (N := 8) hx hb hts iX6 hown hW rfl 12 3 rfl (g_lt hG (by decide)) (g_kd hG (by decide) rfl) (by decide) q0 (fun _ h9 => h9) (nI a) ((congrFun (e_is _ _ _) 3).trans hr3) rfl rfl dX6_nextToken_41 ?_
            refine lv_iconst (v := 1) hx hb dX6_nextToken_44 (by decide) ?_
            refine lv_iadd hx hb dX6_nextToken_45 ?_
            rw [show (((nI a) + 1) : Int32) = (nI (a + 1)) from n_add a 1]
            refine r_puti (ci := 5) (C := RX6) (T := TX6) (N := 8) hx hb hts iX6 tyX6 tyX6_ok nmX6 hown hW rfl 12 3 rfl (g_lt hG (by decide)) (g_kd hG (by decide) rfl) (by decide) q0 (fun _ h9 => h9) rfl (tyX6_ok 3 (by decide)) rfl rfl (ri S 12 (va_up rc 3 (nI (a + 1)))) rc (va_up rc 3 (nI (a + 1))) (e_is _ _ _) (e_is _ _ _) rfl rfl rfl (Nat.le_of_ble_eq_true rfl) rfl c_i dX6_nextToken_46 (fun H locs hW => ?_)
            refine lv_goto (tgt := 0) hx hb dX6_nextToken_49 (by decide) ?_
            exact ih0 (a + 1) (va_up rc 3 (nI (a + 1))) _ _ ls (by omega) (by omega) (hsk.trans (SK_b hal (by unfold blk; simp [hbl]))) (up_s _ _ _) (fun j hj => by rw [up_n _ _ hj]; exact hrc j hj) hW (lv_sub hl [0] rfl)
  exact L0 _ a0 (gi S 12) _ _ ls (Nat.lt_succ_self _) ha0 rfl h3a (fun _ _ => rfl) hW (lv_sub hl [0] rfl)
