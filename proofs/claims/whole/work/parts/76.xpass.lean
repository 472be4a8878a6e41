theorem TdOK.p {G : Gg} {S S' : Sg} {h : Nat} (hT : TdOK G S h) (e : gp S' = gp S) : TdOK G S' h := by unfold TdOK; rw [e]; exact hT
theorem TdOK.xt {G G' : Gg} {S S' : Sg} {h : Nat} (hT : TdOK G S h) (hX : XtP G G') (e : gp S' (h + 7) = gp S (h + 7)) : TdOK G' S' h := by
  intro j hj
  rw [e]
  rcases hT j hj with z | ⟨q0, a1, a2, a3⟩
  · exact Or.inl z
  · exact Or.inr ⟨q0, a1, Nat.lt_of_lt_of_le a2 hX.1, by rw [a3, (hX.2.1 q0 a2).1]⟩
theorem RP.xt {G G' : Gg} {S S' : Sg} {h : Nat} {B : Nat → Nat} (hR : RP G S h B) (hX : XtP G G') (e : ∀ k, (h ≤ k ∧ k ≤ h + 7) ∨ (75 ≤ k ∧ k < gN G) → gi S' k = gi S k ∧ gp S' k = gp S k) : RP G' S' h B := by
  obtain ⟨r1, r2, r3, r4, r5⟩ := hR
  refine ⟨by unfold RPs; rw [(e h (by omega)).1]; exact r1, by unfold RPc; rw [(e (h + 1) (by omega)).1, (e (h + 2) (by omega)).1]; exact r2, by unfold RPp; rw [(e (h + 3) (by omega)).1, (e (h + 4) (by omega)).1, (e (h + 5) (by omega)).1, (e (h + 6) (by omega)).1]; exact r3, fun i hi => ?_, r5.xt hX (e (h + 7) (by omega)).2⟩
  obtain ⟨q, a1, a2, a3, a4⟩ := r4 i hi
  refine ⟨q, a1, Nat.lt_of_lt_of_le a2 hX.1, ?_, ?_⟩
  · rw [(e (h + 7) (by omega)).2, a3, (hX.2.1 q a2).1]
  · unfold PtyOK at a4 ⊢
    rw [(hX.2.1 q a2).2.1, (e q (Or.inr ⟨a1, a2⟩)).1]; exact a4
/-- a read pass stands -/
theorem RP.of {G : Gg} {S S' : Sg} {h : Nat} {B : Nat → Nat} (hs : SpX G S h B) (hT : Tld B) (hh : PassR h) (eh : gi S' h = va_up (gi S h) 0 1) (ei : ∀ k, k ≠ h → gi S' k = gi S k) (ep : gp S' (h + 7) = gp S (h + 7)) : RP G S' h B := by
  obtain ⟨r0, ⟨s1, s2, s3, s4, s5, s6, s7, s8⟩, r2, r3, r4, r5⟩ := hs
  have hh12 : 13 < h ∧ h + 7 < 75 := by rcases hh with e | e | e | e <;> omega
  have z : ∀ k, 66 ≤ k → k ≠ 132 → B k = 0 := hT.2
  refine ⟨⟨by rw [eh, up_s, hT.1.1]; rfl, by rw [eh]; exact s1, by rw [eh]; exact s2, by rw [eh]; exact s3, by rw [eh]; exact s4, by rw [eh]; exact s5, by rw [eh]; exact s6, by rw [eh, z 130 (by omega) (by omega)]; exact s7, by rw [eh, z 131 (by omega) (by omega)]; exact s8⟩, by unfold RPc; rw [ei (h + 1) (by omega), ei (h + 2) (by omega)]; exact r2, fun i hi => ?_, fun i hi => ?_, by unfold TdOK; rw [ep]; exact r5⟩
  · have r := r3 i hi
    rw [ei (h + 3) (by omega), ei (h + 4) (by omega), ei (h + 5) (by omega), ei (h + 6) (by omega), z (66 + i) (by omega) (by omega), z (82 + i) (by omega) (by omega), z (98 + i) (by omega) (by omega), z (114 + i) (by omega) (by omega)]
    exact r
  · obtain ⟨q, a1, a2, a3, a4⟩ := r4 i hi
    refine ⟨q, a1, a2, by rw [ep]; exact a3, ?_⟩
    unfold PtyOK; rw [ei q (by omega)]; exact a4
def rmX6_readPass : Jvm.Room := { frames := 7, cells := 16, slots := 48, locals := 153 }
set_option maxHeartbeats 4000000 in
set_option maxRecDepth 100000 in
theorem t_X6_readPass (l : Launch) (D : Dc) (G : Gg) (S : Sg) (z : Nat) (hG : GrG G) (hP : GrP G S) (T : Nat → Nat) (ts : Nat) (ht4 : ts ≤ 400) (hTB : ∀ i, i < ts → T i ≤ 255) (h1 : gi S 12 1 = nI ts) (h13 : ∀ i, i < ts → gi S 13 i = sb (T i)) (h : Nat) (hh : PassR h) (hS0 : SpX G S h (fun _ => 0)) : MIa l yX6_readPass wsX6_readPass rmX6_readPass D G S z [.ref (gA G 12), .ref (gA G h)] 16 48 (fun r U => XtP G U.1 ∧ ChR G h S U.2 ∧ TdOK U.1 U.2 h ∧ gi U.2 12 1 = 0 ∧ ((∃ B e, pPass T ts = .inl (B, e) ∧ r = 1 ∧ gi U.2 12 6 = gi S 12 6 ∧ SpX U.1 U.2 h B) ∨ (∃ f p, pPass T ts = .inr (f, p) ∧ r = 0 ∧ gi U.2 12 6 = nI f ∧ gi U.2 12 7 = nI p))) := by
  refine Met.ofW (cc := cX6_readPass) (maxL := 3) (ret := (some .boolean)) (by decide +kernel) rfl ?_
  intro pP eE s mM args bl mT cD s₁ bD hml hv
  obtain ⟨rfl, hv⟩ := hv
  have hz := hv.1
  subst hz
  have hx := bD.exec
  have hb := bD.bytes
  have hr := bD.returns
  have hts := atoms_spec (ws := wsX6_readPass) bD.pre
  have hown : s.vm.findClass RX6 = some mM.cls := findClass_of_methodNamed bD.named
  have hlocks := bD.notSynchronized
  have hW := Wd.start hv
  have hA : ∀ q, s.heap.size ≤ q → AW G s.heap.size q := fun q h => Or.inr h
  have hl := lv_entry ([.ref (gA G 12), .ref (gA G h)]) (n := 3) (Nat.le_of_ble_eq_true rfl)
  rw [lg_entry_eq]
  generalize (lg_sl ([.ref (gA G 12), .ref (gA G h)]) ++ List.replicate (3 - (lg_sl ([.ref (gA G 12), .ref (gA G h)])).length) Slot.unset).toArray = ls at hl ⊢
  have hl : lv_has ls 3 [(0, .ref (gA G 12)), (1, .ref (gA G h))] := hl
  have q0 := hts (.fieldLink RX6 19 "WoodForTwo$Reader" "behind" "I") (List.mem_of_getElem? (i := 1) rfl)
  have q1 := hts (.fieldLink RX6 15 "WoodForTwo$Reader" "length" "I") (List.mem_of_getElem? (i := 2) rfl)
  have iX6 : ∀ w ∈ wsX60, w ∈ wsX6_readPass := fun _ h => List.mem_cons_of_mem _ (List.mem_append_left _ (List.mem_append_left _ (List.mem_append_left _ (List.mem_append_left _ (List.mem_append_left _ (List.mem_append_left _ (List.mem_append_right _ (h))))))))
  refine lv_aload_n hx hb dX6_readPass_0 rfl (lv_at hl 0 rfl) ?_
  refine lv_iconst (v := 0) hx hb dX6_readPass_1 (by decide) ?_
  refine r_puti (ci := 5) (C := RX6) (T := TX6) (N := 8) hx hb hts iX6 tyX6 tyX6_ok nmX6 hown hW rfl 12 3 rfl (g_lt hG (by decide)) (g_kd hG (by decide) rfl) (by decide) q0 (fun _ h9 => h9) rfl (tyX6_ok 3 (by decide)) rfl rfl (ri S 12 (va_up (gi S 12) 3 0)) (gi S 12) (va_up (gi S 12) 3 0) rfl (e_is _ _ _) rfl rfl rfl (Nat.le_of_ble_eq_true rfl) rfl c_i0 dX6_readPass_2 (fun H locs hW => ?_)
  refine lv_aload_n hx hb dX6_readPass_5 rfl (lv_at hl 0 rfl) ?_
  have h1n : gi (ri S 12 (va_up (gi S 12) 3 0)) 12 1 = nI ts := (congrFun (e_is _ _ _) 1).trans h1
  have h13n : ∀ i, i < ts → gi (ri S 12 (va_up (gi S 12) 3 0)) 13 i = sb (T i) := fun i hi => (congrFun ((e_in (by decide) rfl) : gi (ri S 12 (va_up (gi S 12) 3 0)) 13 = gi S 13) i).trans (h13 i hi)
  refine r_callv hW hA (va_runV (As := []) (rest := []) ⟨hx, hb, hml, hown, hts⟩ (t_X6_nextToken l D G (ri S 12 (va_up (gi S 12) 3 0)) _ hG hP T ts ht4 hTB h1n h13n 0 (Nat.zero_le _) (congrFun (e_is _ _ _) 3)) (cwV 0 hts gX6_readPass_X6_nextToken rfl rfl rfl (by decide +kernel) ⟨Nat.le_of_ble_eq_true rfl, Nat.le_of_ble_eq_true rfl⟩) (r_preV (k := 12) hA hW (ci := 5) (C := RX6) (T := TX6) (N := 8) rfl rfl (g_lt hG (by decide)) (g_kd hG (by decide) rfl) rfl rfl) rfl rfl hl.1 rfl (lv_room (Nat.le_of_ble_eq_true rfl)) dX6_readPass_6 ⟨(show 0 + 0 ≤ 16 by omega), (show 0 + 0 ≤ 48 by omega)⟩) (fun S6 H locs hp6 hW => ?_)
  have hP_S6 : GrP G S6 := fun x hx => by rw [hp6.2.2.1]; exact hP x hx
  have hRd6 : RdX S6 T ts 0 := ⟨hp6.1, (hp6.2.1 1 (by decide)).trans h1n, fun i hi => (congrFun (hp6.2.2.2 13 (by decide)).1 i).trans (h13n i hi), Nat.zero_le _⟩
  have hl66 : gi S6 12 6 = gi S 12 6 := (hp6.2.1 6 (by decide)).trans (congrFun (e_is _ _ _) 6)
  have hl67 : gi S6 12 7 = gi S 12 7 := (hp6.2.1 7 (by decide)).trans (congrFun (e_is _ _ _) 7)
  have hC6 : Ch (fun k => k = 12) S S6 := Ch.tr (Ch.ri Ch.rf rfl) hp6.2.2
  have hsp6 : SpX G S6 h (fun _ => 0) := SpX.ch hS0 hh hC6
  have hcr6 : ChR G h S S6 := ChR.ch hC6 (fun _ z => Or.inl z)
  have htd6 := hsp6.2.2.2.2.2
  refine lv_aload_n hx hb dX6_readPass_9 rfl (lv_at hl 0 rfl) ?_
  refine lv_aload_n hx hb dX6_readPass_10 rfl (lv_at hl 1 rfl) ?_
  refine r_calli hW hA (va_runV (As := [.ref (gA G h)]) (rest := []) ⟨hx, hb, hml, hown, hts⟩ (t_X6_readHut l D G S6 _ hG hP_S6 T ts ht4 hTB 0 hRd6 h hh hsp6) (cwV 1 hts gX6_readPass_X6_readHut rfl rfl rfl (by decide +kernel) ⟨Nat.le_of_ble_eq_true rfl, Nat.le_of_ble_eq_true rfl⟩) (r_preV (k := 12) hA hW (ci := 5) (C := RX6) (T := TX6) (N := 8) rfl rfl (g_lt hG (by decide)) (g_kd hG (by decide) rfl) rfl rfl) rfl rfl hl.1 rfl (lv_room (Nat.le_of_ble_eq_true rfl)) dX6_readPass_11 ⟨(show 0 + 0 ≤ 16 by omega), (show 0 + 0 ≤ 48 by omega)⟩) (fun r11 S11 H locs hp11 hW => ?_)
  rcases hp11 with ⟨B1, e1, hpn1, rfl, hRd11, hm6, hm7, hsp11, hC11⟩ | ⟨f1, p1, hpn1, rfl, hm6, hm7, hC11⟩
  · skip
    have hP_S11 : GrP G S11 := fun x hx => by rw [hC11.1]; exact hP_S6 x hx
    have hcr11 : ChR G h S S11 := ChR.tr hcr6 (ChR.ch hC11 (fun k z => by omega))
    have htd11 := htd6.p hC11.1
    have hk1 := pHut_ok hpn1
    refine lv_if_eq (tgt := 44) hx hb dX6_readPass_14 (by decide) (fun c14 => ?_) (fun c14 => ?_)
    · exact absurd c14 (by decide)
    · skip
      refine lv_aload_n hx hb dX6_readPass_17 rfl (lv_at hl 0 rfl) ?_
      refine lv_aload_n hx hb dX6_readPass_18 rfl (lv_at hl 1 rfl) ?_
      refine r_calli hW hA (va_runV (As := [.ref (gA G h)]) (rest := []) ⟨hx, hb, hml, hown, hts⟩ (t_X6_readChances l D G S11 _ hG hP_S11 T ts ht4 hTB e1 hRd11 h hh B1 hk1.1 hk1.2.1 hk1.2.2 hsp11) (cwV 1 hts gX6_readPass_X6_readChances rfl rfl rfl (by decide +kernel) ⟨Nat.le_of_ble_eq_true rfl, Nat.le_of_ble_eq_true rfl⟩) (r_preV (k := 12) hA hW (ci := 5) (C := RX6) (T := TX6) (N := 8) rfl rfl (g_lt hG (by decide)) (g_kd hG (by decide) rfl) rfl rfl) rfl rfl hl.1 rfl (lv_room (Nat.le_of_ble_eq_true rfl)) dX6_readPass_19 ⟨(show 0 + 0 ≤ 16 by omega), (show 0 + 0 ≤ 48 by omega)⟩) (fun r19 S19 H locs hp19 hW => ?_)
      rcases hp19 with ⟨B2, e2, hpn2, rfl, hRd19, hn6, hn7, hsp19, hC19⟩ | ⟨f2, p2, hpn2, rfl, hn6, hn7, hC19⟩
      · skip
        have hP_S19 : GrP G S19 := fun x hx => by rw [hC19.1]; exact hP_S11 x hx
        have hcr19 : ChR G h S S19 := ChR.tr hcr11 (ChR.ch hC19 (fun k z => by omega))
        have htd19 := htd11.p hC19.1
        have hk2 := pChs_ok _ _ _ _ _ hpn2 hk1.1 hk1.2.2
        refine lv_if_eq (tgt := 44) hx hb dX6_readPass_22 (by decide) (fun c22 => ?_) (fun c22 => ?_)
        · exact absurd c22 (by decide)
        · skip
          refine lv_aload_n hx hb dX6_readPass_25 rfl (lv_at hl 0 rfl) ?_
          refine lv_aload_n hx hb dX6_readPass_26 rfl (lv_at hl 1 rfl) ?_
          refine r_callia hW hA (va_runV (As := [.ref (gA G h)]) (rest := []) ⟨hx, hb, hml, hown, hts⟩ (t_X6_readParties l D G S19 _ hG hP_S19 T ts ht4 hTB e2 hRd19 h hh B2 hk2.1 hk2.2 hsp19) (cwV 1 hts gX6_readPass_X6_readParties rfl rfl rfl (by decide +kernel) ⟨Nat.le_of_ble_eq_true rfl, Nat.le_of_ble_eq_true rfl⟩) (r_preV (k := 12) hA hW (ci := 5) (C := RX6) (T := TX6) (N := 8) rfl rfl (g_lt hG (by decide)) (g_kd hG (by decide) rfl) rfl rfl) rfl rfl hl.1 rfl (lv_room (Nat.le_of_ble_eq_true rfl)) dX6_readPass_27 ⟨(show 0 + 16 ≤ 16 by omega), (show 0 + 48 ≤ 48 by omega)⟩) (fun r27 G1 S27 H locs hp27 hW => ?_)
          obtain ⟨hX, hC27, htd27, hcase⟩ := hp27
          have hX : XtP G G1 := hX
          have htd27 : TdOK G1 S27 h := htd27
          have hP_S27 : GrP G1 S27 := GrP.xt hG hP_S19 hh hX hC27
          have hcr27 : ChR G h S S27 := ChR.tr hcr19 hC27
          have h75 := hG.1
          have hh7 : 13 < h ∧ h + 7 < 75 := by rcases hh with e | e | e | e <;> omega
          have hG := GrG.xt hG hX
          have hl : lv_has ls 3 [(0, .ref (gA G1 12)), (1, .ref (gA G1 h))] := by rw [(hX.2.1 12 (by omega)).1, (hX.2.1 h (by omega)).1]; exact hl
          rcases hcase with ⟨B3, e3, hpn3, rfl, hRd27, ho6, ho7, hsp27⟩ | ⟨f3, p3, hpn3, rfl, ho6, ho7⟩
          · skip
            refine lv_if_eq (tgt := 44) hx hb dX6_readPass_30 (by decide) (fun c30 => ?_) (fun c30 => ?_)
            · exact absurd c30 (by decide)
            · skip
              refine lv_aload_n hx hb dX6_readPass_33 rfl (lv_at hl 0 rfl) ?_
              refine r_calli hW hA (va_runV (As := []) (rest := []) ⟨hx, hb, hml, hown, hts⟩ (t_X6_readEnd l D G1 S27 _ hG hP_S27 T ts ht4 hTB e3 hRd27) (cwV 0 hts gX6_readPass_X6_readEnd rfl rfl rfl (by decide +kernel) ⟨Nat.le_of_ble_eq_true rfl, Nat.le_of_ble_eq_true rfl⟩) (r_preV (k := 12) hA hW (ci := 5) (C := RX6) (T := TX6) (N := 8) rfl rfl (g_lt hG (by decide)) (g_kd hG (by decide) rfl) rfl rfl) rfl rfl hl.1 rfl (lv_room (Nat.le_of_ble_eq_true rfl)) dX6_readPass_34 ⟨(show 16 + 0 ≤ 16 by omega), (show 48 + 0 ≤ 48 by omega)⟩) (fun r34 S34 H locs hp34 hW => ?_)
              rcases hp34 with ⟨v4, e4, hpn4, rfl, hs34⟩ | ⟨f4, p4, hpn4, rfl, hfl⟩
              · skip
                rw [hs34] at hW
                have hpe : pPass T ts = .inl (B3, e4) := by unfold pPass; rw [PB_l hpn1, PB_l hpn2, PB_l hpn3, PB_l hpn4]
                refine lv_if_eq (tgt := 44) hx hb dX6_readPass_37 (by decide) (fun c37 => ?_) (fun c37 => ?_)
                · exact absurd c37 (by decide)
                · skip
                  refine lv_iconst (v := 1) hx hb dX6_readPass_40 (by decide) ?_
                  refine lv_goto (tgt := 45) hx hb dX6_readPass_41 (by decide) ?_
                  refine lv_istore_n (lv' := [(2, .int 1), (0, .ref (gA G1 12)), (1, .ref (gA G1 h))]) hx hb dX6_readPass_45 rfl hl (by decide) rfl (fun ls hl => ?_)
                  refine lv_aload_n hx hb dX6_readPass_46 rfl (lv_at hl 1 rfl) ?_
                  refine lv_iconst (v := 0) hx hb dX6_readPass_47 (by decide) ?_
                  refine r_puti (ci := 5) (C := RX6) (T := TX6) (N := 8) hx hb hts iX6 tyX6 tyX6_ok nmX6 hown hW rfl 12 1 rfl (g_lt hG (by decide)) (g_kd hG (by decide) rfl) (by decide) q1 (fun _ h9 => h9) rfl (tyX6_ok 1 (by decide)) rfl rfl (ri S27 12 (va_up (gi S27 12) 1 0)) (gi S27 12) (va_up (gi S27 12) 1 0) rfl (e_is _ _ _) rfl rfl rfl (Nat.le_of_ble_eq_true rfl) rfl c_i0 dX6_readPass_48 (fun H locs hW => ?_)
                  refine lv_iload_n hx hb dX6_readPass_51 rfl (lv_at hl 0 rfl) ?_
                  refine W.widen (k := 16) (n := 48) (by omega) (by omega) ?_
                  refine r_zreta hx hb hr hlocks hW (Or.inr rfl) ?_ dX6_readPass_52
                  exact ⟨hX, (ChR.tr hcr27 (ChR.ch (P := fun j => j = 12) (Ch.ri Ch.rf rfl) (fun _ z => Or.inl z))), htd27, congrFun (e_is _ _ _) 1, Or.inl ⟨B3, e4, hpe, rfl, (congrFun (e_is _ _ _) 6).trans (ho6.trans (hn6.trans (hm6.trans hl66))), SpX.ch hsp27 hh (Ch.ri Ch.rf rfl)⟩⟩
              · skip
                have hpe : pPass T ts = .inr (f4, p4) := by unfold pPass; rw [PB_l hpn1, PB_l hpn2, PB_l hpn3, PB_r hpn4]
                have hP_S34 : GrP G1 S34 := fun x hx => by rw [hfl.2.2.2.1]; exact hP_S27 x hx
                have hcr34 : ChR G h S S34 := ChR.tr hcr27 (ChR.ch hfl.2.2.2 (fun _ z => Or.inl z))
                have htd34 := htd27.p hfl.2.2.2.1
                refine lv_if_eq (tgt := 44) hx hb dX6_readPass_37 (by decide) (fun c37 => ?_) (fun c37 => ?_)
                · skip
                  refine lv_iconst (v := 0) hx hb dX6_readPass_44 (by decide) ?_
                  refine lv_istore_n (lv' := [(2, .int 0), (0, .ref (gA G1 12)), (1, .ref (gA G1 h))]) hx hb dX6_readPass_45 rfl hl (by decide) rfl (fun ls hl => ?_)
                  refine lv_aload_n hx hb dX6_readPass_46 rfl (lv_at hl 1 rfl) ?_
                  refine lv_iconst (v := 0) hx hb dX6_readPass_47 (by decide) ?_
                  refine r_puti (ci := 5) (C := RX6) (T := TX6) (N := 8) hx hb hts iX6 tyX6 tyX6_ok nmX6 hown hW rfl 12 1 rfl (g_lt hG (by decide)) (g_kd hG (by decide) rfl) (by decide) q1 (fun _ h9 => h9) rfl (tyX6_ok 1 (by decide)) rfl rfl (ri S34 12 (va_up (gi S34 12) 1 0)) (gi S34 12) (va_up (gi S34 12) 1 0) rfl (e_is _ _ _) rfl rfl rfl (Nat.le_of_ble_eq_true rfl) rfl c_i0 dX6_readPass_48 (fun H locs hW => ?_)
                  refine lv_iload_n hx hb dX6_readPass_51 rfl (lv_at hl 0 rfl) ?_
                  refine W.widen (k := 16) (n := 48) (by omega) (by omega) ?_
                  refine r_zreta hx hb hr hlocks hW (Or.inl rfl) ?_ dX6_readPass_52
                  exact ⟨hX, (ChR.tr hcr34 (ChR.ch (P := fun j => j = 12) (Ch.ri Ch.rf rfl) (fun _ z => Or.inl z))), htd34, congrFun (e_is _ _ _) 1, Or.inr ⟨f4, p4, hpe, rfl, (congrFun (e_is _ _ _) 6).trans hfl.1, (congrFun (e_is _ _ _) 7).trans hfl.2.1⟩⟩
                · exact absurd (by decide) c37
          · skip
            have hpe : pPass T ts = .inr (f3, p3) := by unfold pPass; rw [PB_l hpn1, PB_l hpn2, PB_r hpn3]
            refine lv_if_eq (tgt := 44) hx hb dX6_readPass_30 (by decide) (fun c30 => ?_) (fun c30 => ?_)
            · skip
              refine lv_iconst (v := 0) hx hb dX6_readPass_44 (by decide) ?_
              refine lv_istore_n (lv' := [(2, .int 0), (0, .ref (gA G1 12)), (1, .ref (gA G1 h))]) hx hb dX6_readPass_45 rfl hl (by decide) rfl (fun ls hl => ?_)
              refine lv_aload_n hx hb dX6_readPass_46 rfl (lv_at hl 1 rfl) ?_
              refine lv_iconst (v := 0) hx hb dX6_readPass_47 (by decide) ?_
              refine r_puti (ci := 5) (C := RX6) (T := TX6) (N := 8) hx hb hts iX6 tyX6 tyX6_ok nmX6 hown hW rfl 12 1 rfl (g_lt hG (by decide)) (g_kd hG (by decide) rfl) (by decide) q1 (fun _ h9 => h9) rfl (tyX6_ok 1 (by decide)) rfl rfl (ri S27 12 (va_up (gi S27 12) 1 0)) (gi S27 12) (va_up (gi S27 12) 1 0) rfl (e_is _ _ _) rfl rfl rfl (Nat.le_of_ble_eq_true rfl) rfl c_i0 dX6_readPass_48 (fun H locs hW => ?_)
              refine lv_iload_n hx hb dX6_readPass_51 rfl (lv_at hl 0 rfl) ?_
              refine W.widen (k := 16) (n := 48) (by omega) (by omega) ?_
              refine r_zreta hx hb hr hlocks hW (Or.inl rfl) ?_ dX6_readPass_52
              exact ⟨hX, (ChR.tr hcr27 (ChR.ch (P := fun j => j = 12) (Ch.ri Ch.rf rfl) (fun _ z => Or.inl z))), htd27, congrFun (e_is _ _ _) 1, Or.inr ⟨f3, p3, hpe, rfl, (congrFun (e_is _ _ _) 6).trans ho6, (congrFun (e_is _ _ _) 7).trans ho7⟩⟩
            · exact absurd (by decide) c30
      · skip
        have hP_S19 : GrP G S19 := fun x hx => by rw [hC19.1]; exact hP_S11 x hx
        have hcr19 : ChR G h S S19 := ChR.tr hcr11 (ChR.ch hC19 (fun k z => by omega))
        have htd19 := htd11.p hC19.1
        have hpe : pPass T ts = .inr (f2, p2) := by unfold pPass; rw [PB_l hpn1, PB_r hpn2]
        refine lv_if_eq (tgt := 44) hx hb dX6_readPass_22 (by decide) (fun c22 => ?_) (fun c22 => ?_)
        · skip
          refine lv_iconst (v := 0) hx hb dX6_readPass_44 (by decide) ?_
          refine lv_istore_n (lv' := [(2, .int 0), (0, .ref (gA G 12)), (1, .ref (gA G h))]) hx hb dX6_readPass_45 rfl hl (by decide) rfl (fun ls hl => ?_)
          refine lv_aload_n hx hb dX6_readPass_46 rfl (lv_at hl 1 rfl) ?_
          refine lv_iconst (v := 0) hx hb dX6_readPass_47 (by decide) ?_
          refine r_puti (ci := 5) (C := RX6) (T := TX6) (N := 8) hx hb hts iX6 tyX6 tyX6_ok nmX6 hown hW rfl 12 1 rfl (g_lt hG (by decide)) (g_kd hG (by decide) rfl) (by decide) q1 (fun _ h9 => h9) rfl (tyX6_ok 1 (by decide)) rfl rfl (ri S19 12 (va_up (gi S19 12) 1 0)) (gi S19 12) (va_up (gi S19 12) 1 0) rfl (e_is _ _ _) rfl rfl rfl (Nat.le_of_ble_eq_true rfl) rfl c_i0 dX6_readPass_48 (fun H locs hW => ?_)
          refine lv_iload_n hx hb dX6_readPass_51 rfl (lv_at hl 0 rfl) ?_
          refine W.widen (k := 16) (n := 48) (by omega) (by omega) ?_
          refine r_zreta hx hb hr hlocks hW (Or.inl rfl) ?_ dX6_readPass_52
          exact ⟨XtP.rf, (ChR.tr hcr19 (ChR.ch (P := fun j => j = 12) (Ch.ri Ch.rf rfl) (fun _ z => Or.inl z))), htd19, congrFun (e_is _ _ _) 1, Or.inr ⟨f2, p2, hpe, rfl, (congrFun (e_is _ _ _) 6).trans hn6, (congrFun (e_is _ _ _) 7).trans hn7⟩⟩
        · exact absurd (by decide) c22
  · skip
    have hP_S11 : GrP G S11 := fun x hx => by rw [hC11.1]; exact hP_S6 x hx
    have hcr11 : ChR G h S S11 := ChR.tr hcr6 (ChR.ch hC11 (fun k z => by omega))
    have htd11 := htd6.p hC11.1
    have hpe : pPass T ts = .inr (f1, p1) := by unfold pPass; rw [PB_r hpn1]
    refine lv_if_eq (tgt := 44) hx hb dX6_readPass_14 (by decide) (fun c14 => ?_) (fun c14 => ?_)
    · skip
      refine lv_iconst (v := 0) hx hb dX6_readPass_44 (by decide) ?_
      refine lv_istore_n (lv' := [(2, .int 0), (0, .ref (gA G 12)), (1, .ref (gA G h))]) hx hb dX6_readPass_45 rfl hl (by decide) rfl (fun ls hl => ?_)
      refine lv_aload_n hx hb dX6_readPass_46 rfl (lv_at hl 1 rfl) ?_
      refine lv_iconst (v := 0) hx hb dX6_readPass_47 (by decide) ?_
      refine r_puti (ci := 5) (C := RX6) (T := TX6) (N := 8) hx hb hts iX6 tyX6 tyX6_ok nmX6 hown hW rfl 12 1 rfl (g_lt hG (by decide)) (g_kd hG (by decide) rfl) (by decide) q1 (fun _ h9 => h9) rfl (tyX6_ok 1 (by decide)) rfl rfl (ri S11 12 (va_up (gi S11 12) 1 0)) (gi S11 12) (va_up (gi S11 12) 1 0) rfl (e_is _ _ _) rfl rfl rfl (Nat.le_of_ble_eq_true rfl) rfl c_i0 dX6_readPass_48 (fun H locs hW => ?_)
      refine lv_iload_n hx hb dX6_readPass_51 rfl (lv_at hl 0 rfl) ?_
      refine W.widen (k := 16) (n := 48) (by omega) (by omega) ?_
      refine r_zreta hx hb hr hlocks hW (Or.inl rfl) ?_ dX6_readPass_52
      exact ⟨XtP.rf, (ChR.tr hcr11 (ChR.ch (P := fun j => j = 12) (Ch.ri Ch.rf rfl) (fun _ z => Or.inl z))), htd11, congrFun (e_is _ _ _) 1, Or.inr ⟨f1, p1, hpe, rfl, (congrFun (e_is _ _ _) 6).trans hm6, (congrFun (e_is _ _ _) 7).trans hm7⟩⟩
    · exact absurd (by decide) c14

theorem TdOK.p2 {G : Gg} {S S' : Sg} {h : Nat} (hT : TdOK G S h) (e : gp S' (h + 7) = gp S (h + 7)) : TdOK G S' h := by unfold TdOK; rw [e]; exact hT
def rmX10_pass : Jvm.Room := { frames := 8, cells := 16, slots := 48, locals := 175 }
set_option maxHeartbeats 4000000 in
set_option maxRecDepth 100000 in
theorem t_X10_pass (l : Launch) (D : Dc) (G : Gg) (S : Sg) (z : Nat) (hG : GrG G) (hP : GrP G S) (T : Nat → Nat) (ts : Nat) (ht4 : ts ≤ 400) (hTB : ∀ i, i < ts → T i ≤ 255) (h1 : gi S 12 1 = nI ts) (h13 : ∀ i, i < ts → gi S 13 i = sb (T i)) (h k : Nat) (hk : h = 33 ∧ k = 41 ∨ h = 41 ∧ k = 33) (hH : gp S 0 7 = some (gA G h)) (hSp : gp S 0 8 = some (gA G k)) (B : Nat → Nat) (hR : RP G S h B) (hTd : TdOK G S k) (lf : Nat) (hlf : gi S 12 6 = nI lf) : MLa l yX10_pass wsX10_pass rmX10_pass D G S z [.ref (gA G 0)] 16 48 (fun r U => r = (fPass T ts B lf).1 ∧ XtP G U.1 ∧ (∃ h' k', (h' = 33 ∧ k' = 41 ∨ h' = 41 ∧ k' = 33) ∧ gp U.2 0 7 = some (gA U.1 h') ∧ gp U.2 0 8 = some (gA U.1 k') ∧ RP U.1 U.2 h' (fPass T ts B lf).2.1 ∧ TdOK U.1 U.2 k') ∧ gi U.2 12 6 = nI (fPass T ts B lf).2.2 ∧ gi U.2 12 1 = 0 ∧ (∀ j, j < gN G → (j ≠ 12 → ¬ (33 ≤ j ∧ j ≤ 48) → gi U.2 j = gi S j ∧ gj U.2 j = gj S j) ∧ (j ≠ 0 → j ≠ 40 → j ≠ 48 → gp U.2 j = gp S j)) ∧ ∀ f, f ≠ 7 → f ≠ 8 → gp U.2 0 f = gp S 0 f) := by
  refine Met.ofW (cc := cX10_pass) (maxL := 2) (ret := (some .long)) (by decide +kernel) rfl ?_
  intro pP eE s mM args bl mT cD s₁ bD hml hv
  obtain ⟨rfl, hv⟩ := hv
  have hz := hv.1
  subst hz
  have hx := bD.exec
  have hb := bD.bytes
  have hr := bD.returns
  have hts := atoms_spec (ws := wsX10_pass) bD.pre
  have hown : s.vm.findClass RX10 = some mM.cls := findClass_of_methodNamed bD.named
  have hlocks := bD.notSynchronized
  have hW := Wd.start hv
  have hA : ∀ q, s.heap.size ≤ q → AW G s.heap.size q := fun q h => Or.inr h
  have hl := lv_entry ([.ref (gA G 0)]) (n := 2) (Nat.le_of_ble_eq_true rfl)
  rw [lg_entry_eq]
  generalize (lg_sl ([.ref (gA G 0)]) ++ List.replicate (2 - (lg_sl ([.ref (gA G 0)])).length) Slot.unset).toArray = ls at hl ⊢
  have hl : lv_has ls 2 [(0, .ref (gA G 0))] := hl
  have q0 := hts (.fieldLink RX10 53 "WoodForTwo" "spare" "LWoodForTwo$Pass;") (List.mem_of_getElem? (i := 1) rfl)
  have q1 := hts (.fieldLink RX10 24 "WoodForTwo" "reader" "LWoodForTwo$Reader;") (List.mem_of_getElem? (i := 2) rfl)
  have q2 := hts (.fieldLink RX10 49 "WoodForTwo" "here" "LWoodForTwo$Pass;") (List.mem_of_getElem? (i := 4) rfl)
  have q3 := hts (.fieldLink RX10 116 "WoodForTwo$Pass" "stands" "Z") (List.mem_of_getElem? (i := 5) rfl)
  have q4 := hts (.fieldLink RX10 120 "WoodForTwo$Pass" "parties" "I") (List.mem_of_getElem? (i := 6) rfl)
  have q5 := hts (.constantLong RX10 110 (-9000000000000000100)) (List.mem_of_getElem? (i := 3) rfl)
  have iX10 : ∀ w ∈ wsX100, w ∈ wsX10_pass := fun _ h => List.mem_cons_of_mem _ (List.mem_append_left _ (List.mem_append_left _ (List.mem_append_left _ (List.mem_append_left _ (List.mem_append_left _ (List.mem_append_left _ (List.mem_append_left _ (List.mem_append_right _ (h)))))))))
  have iX5 : ∀ w ∈ wsX50, w ∈ wsX10_pass := fun _ h => List.mem_cons_of_mem _ (List.mem_append_left _ (List.mem_append_left _ (List.mem_append_left _ (List.mem_append_left _ (List.mem_append_left _ (List.mem_append_right _ (h)))))))
  have iX6 : ∀ w ∈ wsX60, w ∈ wsX10_pass := fun _ h => List.mem_cons_of_mem _ (List.mem_append_left _ (List.mem_append_left _ (List.mem_append_left _ (List.mem_append_left _ (List.mem_append_left _ (List.mem_append_left _ (List.mem_append_right _ (h))))))))
  have hh : PassR h := by rcases hk with ⟨e, -⟩ | ⟨e, -⟩ <;> simp [PassR, e]
  have hkP : PassR k := by rcases hk with ⟨-, e⟩ | ⟨-, e⟩ <;> simp [PassR, e]
  refine lv_aload_n hx hb dX10_pass_0 rfl (lv_at hl 0 rfl) ?_
  refine r_getr (ci := 9) (C := RX10) (T := TX10) (N := 10) hx hb hts iX10 hown hW rfl 0 8 rfl (g_lt hG (by decide)) (g_kd hG (by decide) rfl) (by decide) q0 (fun _ h9 => h9) hSp rfl rfl dX10_pass_1 ?_
  refine r_callv hW hA (va_runV (As := []) (rest := []) ⟨hx, hb, hml, hown, hts⟩ (t_X5_empty l D G S _ hG hP k hkP) (cwV 0 hts gX10_pass_X5_empty rfl rfl rfl (by decide +kernel) ⟨Nat.le_of_ble_eq_true rfl, Nat.le_of_ble_eq_true rfl⟩) (r_preV (k := k) hA hW (ci := 4) (C := RX5) (T := TX5) (N := 16) rfl rfl (p_lt hG hkP (i := 0) (by decide)) (p_kd hG hkP) rfl rfl) rfl rfl hl.1 rfl (lv_room (Nat.le_of_ble_eq_true rfl)) dX10_pass_4 ⟨(show 0 + 0 ≤ 16 by omega), (show 0 + 0 ≤ 48 by omega)⟩) (fun S4 H locs hp4 hW => ?_)
  obtain ⟨r0, r3, r4, r5, r6, hs4, hz4, hzp4⟩ := hp4
  have hp4e : gp S4 = gp S := by rw [hs4]; rfl
  have hj4e : gj S4 = gj S := by rw [hs4]; rfl
  have hi4e : ∀ j, j ≠ k → j ≠ k + 3 → j ≠ k + 4 → j ≠ k + 5 → j ≠ k + 6 → gi S4 j = gi S j := fun j a b c d e => by rw [hs4]; exact e_in e (e_in d (e_in c (e_in b (e_in a rfl))))
  have hP_S4 : GrP G S4 := fun x hx => by rw [hp4e]; exact hP x hx
  have hH_S4 : gp S4 0 7 = some (gA G h) := by rw [hp4e]; exact hH
  have hSp_S4 : gp S4 0 8 = some (gA G k) := by rw [hp4e]; exact hSp
  have hsp4 : SpX G S4 k (fun _ => 0) := ⟨hz4.1, ⟨hz4.2.1, hz4.2.2.1, hz4.2.2.2.1, hz4.2.2.2.2.1, hz4.2.2.2.2.2.1, hz4.2.2.2.2.2.2.1, hz4.2.2.2.2.2.2.2.1, hz4.2.2.2.2.2.2.2.2⟩, fun i hi => absurd hi (Nat.not_lt_zero _), hzp4, fun i hi => absurd hi (Nat.not_lt_zero _), hTd.p hp4e⟩
  have h14 : gi S4 12 1 = nI ts := by rw [hi4e 12 (by omega) (by omega) (by omega) (by omega) (by omega)]; exact h1
  have h134 : ∀ i, i < ts → gi S4 13 i = sb (T i) := by rw [hi4e 13 (by omega) (by omega) (by omega) (by omega) (by omega)]; exact h13
  refine lv_aload_n hx hb dX10_pass_7 rfl (lv_at hl 0 rfl) ?_
  refine r_getr (ci := 9) (C := RX10) (T := TX10) (N := 10) hx hb hts iX10 hown hW rfl 0 3 rfl (g_lt hG (by decide)) (g_kd hG (by decide) rfl) (by decide) q1 (fun _ h9 => h9) (hP_S4 _ (List.mem_of_getElem? (i := 3) rfl)) rfl rfl dX10_pass_8 ?_
  refine lv_aload_n hx hb dX10_pass_11 rfl (lv_at hl 0 rfl) ?_
  refine r_getr (ci := 9) (C := RX10) (T := TX10) (N := 10) hx hb hts iX10 hown hW rfl 0 8 rfl (g_lt hG (by decide)) (g_kd hG (by decide) rfl) (by decide) q0 (fun _ h9 => h9) hSp_S4 rfl rfl dX10_pass_12 ?_
  refine r_callia hW hA (va_runV (As := [.ref (gA G k)]) (rest := []) ⟨hx, hb, hml, hown, hts⟩ (t_X6_readPass l D G S4 _ hG hP_S4 T ts ht4 hTB h14 h134 k hkP hsp4) (cwV 1 hts gX10_pass_X6_readPass rfl rfl rfl (by decide +kernel) ⟨Nat.le_of_ble_eq_true rfl, Nat.le_of_ble_eq_true rfl⟩) (r_preV (k := 12) hA hW (ci := 5) (C := RX6) (T := TX6) (N := 8) rfl rfl (g_lt hG (by decide)) (g_kd hG (by decide) rfl) rfl rfl) rfl rfl hl.1 rfl (lv_room (Nat.le_of_ble_eq_true rfl)) dX10_pass_15 ⟨(show 0 + 16 ≤ 16 by omega), (show 0 + 48 ≤ 48 by omega)⟩) (fun r15 G1 S15 H locs hp15 hW => ?_)
  obtain ⟨hX, hC15, htd15, hz15, hcase⟩ := hp15
  have hX : XtP G G1 := hX
  have hz15 : gi S15 12 1 = 0 := hz15
  have hP_S15 : GrP G1 S15 := GrP.xt hG hP_S4 hkP hX hC15
  have h75 := hG.1
  have e0 : gp S15 0 = gp S 0 := by rw [(hC15 0 (by omega)).2 (by omega), hp4e]
  have hH_S15 : gp S15 0 7 = some (gA G1 h) := by rw [e0, hH, (hX.2.1 h (by omega)).1]
  have hSp_S15 : gp S15 0 8 = some (gA G1 k) := by rw [e0, hSp, (hX.2.1 k (by omega)).1]
  have hRh : RP G1 S15 h B := hR.xt hX (fun j hj => ⟨((hC15 j (by omega)).1 (by omega) (by omega) (by omega) (by omega)).1.trans (hi4e j (by omega) (by omega) (by omega) (by omega) (by omega)), ((hC15 j (by omega)).2 (by omega)).trans (by rw [hp4e])⟩)
  have hQ15 : ∀ j, j < gN G → (j ≠ 12 → ¬ (33 ≤ j ∧ j ≤ 48) → gi S15 j = gi S j ∧ gj S15 j = gj S j) ∧ (j ≠ 40 → j ≠ 48 → gp S15 j = gp S j) := fun j hj => ⟨fun a b => ⟨((hC15 j hj).1 a (by omega) (by omega) (by omega)).1.trans (hi4e j (by omega) (by omega) (by omega) (by omega) (by omega)), ((hC15 j hj).1 a (by omega) (by omega) (by omega)).2.trans (by rw [hj4e])⟩, fun a b => ((hC15 j hj).2 (by omega)).trans (by rw [hp4e])⟩
  have h612 : gi S4 12 6 = nI lf := by rw [hi4e 12 (by omega) (by omega) (by omega) (by omega) (by omega)]; exact hlf
  have hG := GrG.xt hG hX
  have hl : lv_has ls 2 [(0, .ref (gA G1 0))] := by rw [(hX.2.1 0 (by omega)).1]; exact hl
  rcases hcase with ⟨B2, e2, hpe, rfl, hl6, hsp⟩ | ⟨f2, p2, hpe, rfl, hl6, hl7⟩
  · skip
    have hl6 : gi S15 12 6 = gi S4 12 6 := hl6
    have hsp : SpX G1 S15 k B2 := hsp
    have hTl := pPass_ok hpe
    have b17 := hTl.1.2.2.2.2.2.2.2.2.1
    refine lv_if_ne (tgt := 34) hx hb dX10_pass_18 (by decide) (fun c18 => ?_) (fun c18 => ?_)
    · skip
      refine lv_aload_n hx hb dX10_pass_34 rfl (lv_at hl 0 rfl) ?_
      refine r_getr (ci := 9) (C := RX10) (T := TX10) (N := 10) hx hb hts iX10 hown hW rfl 0 7 rfl (g_lt hG (by decide)) (g_kd hG (by decide) rfl) (by decide) q2 (fun _ h9 => h9) hH_S15 rfl rfl dX10_pass_35 ?_
      refine lv_astore_n (lv' := [(1, .ref (gA G1 h)), (0, .ref (gA G1 0))]) hx hb dX10_pass_38 rfl hl (by decide) rfl (fun ls hl => ?_)
      refine lv_aload_n hx hb dX10_pass_39 rfl (lv_at hl 1 rfl) ?_
      refine lv_aload_n hx hb dX10_pass_40 rfl (lv_at hl 1 rfl) ?_
      refine r_getr (ci := 9) (C := RX10) (T := TX10) (N := 10) hx hb hts iX10 hown hW rfl 0 8 rfl (g_lt hG (by decide)) (g_kd hG (by decide) rfl) (by decide) q0 (fun _ h9 => h9) hSp_S15 rfl rfl dX10_pass_41 ?_
      refine r_putr (ci := 9) (C := RX10) (T := TX10) (N := 10) hx hb hts iX10 tyX10 tyX10_ok nmX10 hown hW rfl 0 7 rfl (g_lt hG (by decide)) (g_kd hG (by decide) rfl) (by decide) q2 (fun _ h9 => h9) rfl (tyX10_ok 7 (by decide)) rfl rfl (rp S15 0 (va_up (gp S15 0) 7 (some (gA G1 k)))) (gp S15 0) (va_up (gp S15 0) 7 (some (gA G1 k))) rfl (e_ps _ _ _) rfl rfl rfl (Nat.le_of_ble_eq_true rfl) rfl c_p0 dX10_pass_44 (fun H locs hW => ?_)
      refine lv_aload_n hx hb dX10_pass_47 rfl (lv_at hl 1 rfl) ?_
      refine lv_aload_n hx hb dX10_pass_48 rfl (lv_at hl 0 rfl) ?_
      refine r_putr (ci := 9) (C := RX10) (T := TX10) (N := 10) hx hb hts iX10 tyX10 tyX10_ok nmX10 hown hW rfl 0 8 rfl (g_lt hG (by decide)) (g_kd hG (by decide) rfl) (by decide) q0 (fun _ h9 => h9) rfl (tyX10_ok 8 (by decide)) rfl rfl (rp S15 0 (va_up (va_up (gp S15 0) 7 (some (gA G1 k))) 8 (some (gA G1 h)))) (va_up (gp S15 0) 7 (some (gA G1 k))) (va_up (va_up (gp S15 0) 7 (some (gA G1 k))) 8 (some (gA G1 h))) (e_ps _ _ _) (e_ps _ _ _) rfl rfl rfl (Nat.le_of_ble_eq_true rfl) rfl c_p dX10_pass_49 (fun H locs hW => ?_)
      refine lv_aload_n hx hb dX10_pass_52 rfl (lv_at hl 1 rfl) ?_
      refine r_getr (ci := 9) (C := RX10) (T := TX10) (N := 10) hx hb hts iX10 hown hW rfl 0 7 rfl (g_lt hG (by decide)) (g_kd hG (by decide) rfl) (by decide) q2 (fun _ h9 => h9) (congrFun (e_ps _ _ _) 7) rfl rfl dX10_pass_53 ?_
      refine lv_iconst (v := 1) hx hb dX10_pass_56 (by decide) ?_
      refine r_puti (ci := 4) (C := RX5) (T := TX5) (N := 16) hx hb hts iX5 tyX5 tyX5_ok nmX5 hown hW rfl k 0 rfl (p_lt hG hkP (i := 0) (by decide)) (p_kd hG hkP) (by decide) q3 (fun _ h9 => h9) rfl (tyX5_ok 0 (by decide)) rfl rfl (ri (rp S15 0 (va_up (va_up (gp S15 0) 7 (some (gA G1 k))) 8 (some (gA G1 h)))) k (va_up (gi S15 k) 0 1)) (gi S15 k) (va_up (gi S15 k) 0 1) rfl (e_is _ _ _) rfl rfl rfl (Nat.le_of_ble_eq_true rfl) rfl c_i0 dX10_pass_57 (fun H locs hW => ?_)
      refine lv_aload_n hx hb dX10_pass_60 rfl (lv_at hl 1 rfl) ?_
      refine r_getr (ci := 9) (C := RX10) (T := TX10) (N := 10) hx hb hts iX10 hown hW rfl 0 7 rfl (g_lt hG (by decide)) (g_kd hG (by decide) rfl) (by decide) q2 (fun _ h9 => h9) (congrFun (e_pi (e_ps _ _ _)) 7) rfl rfl dX10_pass_61 ?_
      refine r_geti (ci := 4) (C := RX5) (T := TX5) (N := 16) hx hb hts iX5 hown hW rfl k 6 rfl (p_lt hG hkP (i := 0) (by decide)) (p_kd hG hkP) (by decide) q4 (fun _ h9 => h9) (nI (B2 17)) ((congrFun (e_is _ _ _) 6).trans hsp.2.1.2.2.2.2.2.1) rfl rfl dX10_pass_64 ?_
      refine lv_i2l hx hb dX10_pass_67 rfl ?_
      rw [show (Int32.toInt64 (nI (B2 17)) : Int64) = lN (B2 17) from lN_of (by omega)]
      refine W.widen (k := 16) (n := 48) (by omega) (by omega) ?_
      refine r_lreta hx hb hr hlocks hW ?_ dX10_pass_68
      have ef : fPass T ts B lf = (lN (B2 17), B2, lf) := by unfold fPass; rw [hpe]
      rw [ef]
      have ei : ∀ j, j ≠ k → gi (ri (rp S15 0 (va_up (va_up (gp S15 0) 7 (some (gA G1 k))) 8 (some (gA G1 h)))) k (va_up (gi S15 k) 0 1)) j = gi S15 j := fun j hj => e_in hj rfl
      have ep : ∀ j, j ≠ 0 → gp (ri (rp S15 0 (va_up (va_up (gp S15 0) 7 (some (gA G1 k))) 8 (some (gA G1 h)))) k (va_up (gi S15 k) 0 1)) j = gp S15 j := fun j hj => e_pi (e_pn hj rfl)
      exact ⟨rfl, hX, ⟨k, h, by omega, congrFun (e_pi (e_ps _ _ _)) 7, congrFun (e_pi (e_ps _ _ _)) 8, RP.of hsp hTl hkP (e_is _ _ _) ei (ep (k + 7) (by omega)), hRh.2.2.2.2.p2 (ep (h + 7) (by omega))⟩, (congrFun (ei 12 (by omega)) 6).trans (hl6.trans h612), (congrFun (ei 12 (by omega)) 1).trans hz15, fun j hj => ⟨fun a b => ⟨(ei j (by omega)).trans ((hQ15 j hj).1 a b).1, ((hQ15 j hj).1 a b).2⟩, fun a b c => (ep j a).trans ((hQ15 j hj).2 b c)⟩, fun f a b => (congrFun (e_pi (e_ps _ _ _)) f).trans ((up_n _ _ b).trans ((up_n _ _ a).trans (congrFun e0 f)))⟩
    · exact absurd c18 (by decide)
  · skip
    have hl6 : gi S15 12 6 = nI f2 := hl6
    have hl7 : gi S15 12 7 = nI p2 := hl7
    have hpb : p2 ≤ ts := by have zz := pPass_bd (T := T) (ts := ts); rw [hpe] at zz; exact zz
    refine lv_if_ne (tgt := 34) hx hb dX10_pass_18 (by decide) (fun c18 => ?_) (fun c18 => ?_)
    · exact absurd (by decide) c18
    · skip
      refine lv_ldc2 (v := (-9000000000000000100)) hx hb hown q5 dX10_pass_21 ?_
      refine lv_aload_n hx hb dX10_pass_24 rfl (lv_at hl 0 rfl) ?_
      refine r_getr (ci := 9) (C := RX10) (T := TX10) (N := 10) hx hb hts iX10 hown hW rfl 0 3 rfl (g_lt hG (by decide)) (g_kd hG (by decide) rfl) (by decide) q1 (fun _ h9 => h9) (hP_S15 _ (List.mem_of_getElem? (i := 3) rfl)) rfl rfl dX10_pass_25 ?_
      refine r_getiN (ci := 5) (C := RX6) (T := TX6) (N := 8) hx hb hts iX6 hown hW rfl 12 7 rfl (g_lt hG (by decide)) (g_kd hG (by decide) rfl) (by decide) (va_Nw.use rfl (hW.2.2.2.2.2.2.2.2.1 (112, "WoodForTwo$Reader", "place", "I") (by decide))) (fun _ h9 => h9) (nI p2) hl7 rfl rfl dX10_pass_28 ?_
      refine lv_i2l hx hb dX10_pass_31 rfl ?_
      rw [show (Int32.toInt64 (nI p2) : Int64) = lN p2 from lN_of (by omega)]
      refine lv_lsub hx hb dX10_pass_32 ?_
      refine W.widen (k := 16) (n := 48) (by omega) (by omega) ?_
      refine r_lreta hx hb hr hlocks hW ?_ dX10_pass_33
      have ef : fPass T ts B lf = (-9000000000000000100 - lN p2, B, f2) := by unfold fPass; rw [hpe]
      rw [ef]
      exact ⟨rfl, hX, ⟨h, k, hk, hH_S15, hSp_S15, hRh, htd15⟩, hl6, hz15, fun j hj => ⟨(hQ15 j hj).1, fun a b c => (hQ15 j hj).2 b c⟩, fun f a b => congrFun e0 f⟩
