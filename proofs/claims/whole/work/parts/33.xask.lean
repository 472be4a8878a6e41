/-- what a party answers, and the bodies it begins -/
def fAsk (B : Nat → Nat) (a w : Int32) : Int64 × Option (List Int32) := if (0 ≤ a.toInt ∧ a.toInt < B 17) ∧ (w.toInt = 0 ∨ w.toInt = 1) then
    (if w.toInt = 0 then (szV (kdF (B (34 + a.toNatClampNeg)) (B (18 + a.toNatClampNeg))) a.toNatClampNeg (dueN (B 3) (B 1) (B 2) (B (18 + a.toNatClampNeg))) (B (18 + a.toNatClampNeg)) (B (50 + a.toNatClampNeg)), some (szT (kdF (B (34 + a.toNatClampNeg)) (B (18 + a.toNatClampNeg)))))
     else (mkV (kdF (B (34 + a.toNatClampNeg)) (B (18 + a.toNatClampNeg))) a.toNatClampNeg (dueN (B 3) (B 1) (B 2) (B (18 + a.toNatClampNeg))) (B (18 + a.toNatClampNeg)) (B (50 + a.toNatClampNeg)), some (mkT (kdF (B (34 + a.toNatClampNeg)) (B (18 + a.toNatClampNeg)))))) else (BADL, none)
def fTr (q : Int32 × (Nat → Int32)) : Option (List Int32) → Int32 × (Nat → Int32)
  | none => q
  | some l => l.foldl trQ (0, q.2)
theorem trcs_e (S : Sg) (l : List Int32) : gi (trcs (ri S 30 (va_up (gi S 30) 1 0)) l) 30 1 = (l.foldl trQ (0, gi S 31)).1 ∧ gi (trcs (ri S 30 (va_up (gi S 30) 1 0)) l) 31 = (l.foldl trQ (0, gi S 31)).2 ∧ Ch (fun k => k = 30 ∨ k = 31) S (trcs (ri S 30 (va_up (gi S 30) 1 0)) l) := by
  have e := trcs_q l (ri S 30 (va_up (gi S 30) 1 0))
  have e30 : gi (ri S 30 (va_up (gi S 30) 1 0)) 30 1 = 0 := by rw [gi_ri, up_s, up_s]
  have e31 : gi (ri S 30 (va_up (gi S 30) 1 0)) 31 = gi S 31 := e_in (by decide) rfl
  rw [e30, e31] at e
  exact ⟨congrArg Prod.fst e, congrArg Prod.snd e, Ch.tr (Ch.ri Ch.rf (by omega)) (trcs_c l _)⟩
def rmX10_ask : Jvm.Room := { frames := 6, cells := 0, slots := 0, locals := 135 }
set_option maxHeartbeats 4000000 in
set_option maxRecDepth 100000 in
theorem t_X10_ask (l : Launch) (D : Dc) (G : Gg) (S : Sg) (z : Nat) (hG : GrG G) (hP : GrP G S) (h : Nat) (hh : PassR h) (hH : gp S 0 7 = some (gA G h)) (B : Nat → Nat) (c : Nat) (hB : BP B c) (hc : c < 100000) (hR : RP G S h B) (a1 a2 : Int32) : ML l yX10_ask wsX10_ask rmX10_ask D G S z [.ref (gA G 0), .int a1, .int a2] (fun r S' => r = (fAsk B a1 a2).1 ∧ gi S' 30 1 = (fTr (gi S 30 1, gi S 31) (fAsk B a1 a2).2).1 ∧ gi S' 31 = (fTr (gi S 30 1, gi S 31) (fAsk B a1 a2).2).2 ∧ Ch (fun k => k = 30 ∨ k = 31) S S') := by
  refine Met.ofW (cc := cX10_ask) (maxL := 4) (ret := (some .long)) (by decide +kernel) rfl ?_
  intro pP eE s mM args bl mT cD s₁ bD hml hv
  obtain ⟨rfl, hv⟩ := hv
  have hz := hv.1
  subst hz
  have hx := bD.exec
  have hb := bD.bytes
  have hr := bD.returns
  have hts := atoms_spec (ws := wsX10_ask) bD.pre
  have hown : s.vm.findClass RX10 = some mM.cls := findClass_of_methodNamed bD.named
  have hlocks := bD.notSynchronized
  have hW := Wd.start hv
  have hA : ∀ q, s.heap.size ≤ q → AW G s.heap.size q := fun q h => Or.inr h
  have hl := lv_entry ([.ref (gA G 0), .int a1, .int a2]) (n := 4) (Nat.le_of_ble_eq_true rfl)
  rw [lg_entry_eq]
  generalize (lg_sl ([.ref (gA G 0), .int a1, .int a2]) ++ List.replicate (4 - (lg_sl ([.ref (gA G 0), .int a1, .int a2])).length) Slot.unset).toArray = ls at hl ⊢
  have hl : lv_has ls 4 [(0, .ref (gA G 0)), (1, .int a1), (2, .int a2)] := hl
  have q0 := hts (.fieldLink RX10 49 "WoodForTwo" "here" "LWoodForTwo$Pass;") (List.mem_of_getElem? (i := 1) rfl)
  have q1 := hts (.fieldLink RX10 38 "WoodForTwo" "bodies" "LWoodForTwo$Trace;") (List.mem_of_getElem? (i := 3) rfl)
  have q2 := hts (.constantLong RX10 66 (-9000000000000000001)) (List.mem_of_getElem? (i := 2) rfl)
  have iX10 : ∀ w ∈ wsX100, w ∈ wsX10_ask := fun _ h => List.mem_cons_of_mem _ (List.mem_append_left _ (List.mem_append_left _ (List.mem_append_left _ (List.mem_append_left _ (List.mem_append_left _ (List.mem_append_left _ (List.mem_append_left _ (List.mem_append_right _ (h)))))))))
  have h17 : B 17 ≤ 16 := by rcases hB with z | z; (rw [z.2 17]; omega); exact z.2.2.2.2.2.2.2.2.1
  refine lv_aload_n hx hb dX10_ask_0 rfl (lv_at hl 0 rfl) ?_
  refine r_getr (ci := 9) (C := RX10) (T := TX10) (N := 10) hx hb hts iX10 hown hW rfl 0 7 rfl (g_lt hG (by decide)) (g_kd hG (by decide) rfl) (by decide) q0 (fun _ h9 => h9) hH rfl rfl dX10_ask_1 ?_
  refine lv_iload_n hx hb dX10_ask_4 rfl (lv_at hl 1 rfl) ?_
  refine r_callq hW hA (va_runV (As := [.int a1]) (rest := []) ⟨hx, hb, hml, hown, hts⟩ (t_X5_partyAt l D G S _ hG hP h hh B h17 hR.1.2.2.2.2.2.2.1 hR.2.2.2.1 a1) (cwV 1 hts gX10_ask_X5_partyAt rfl rfl rfl (by decide +kernel) ⟨Nat.le_of_ble_eq_true rfl, Nat.le_of_ble_eq_true rfl⟩) (r_preV (k := h) hA hW (ci := 4) (C := RX5) (T := TX5) (N := 16) rfl rfl (p_lt hG hh (i := 0) (by decide)) (p_kd hG hh) rfl rfl) rfl rfl hl.1 rfl (lv_room (Nat.le_of_ble_eq_true rfl)) dX10_ask_5 ⟨Nat.zero_le _, Nat.zero_le _⟩) (fun r5 S5 H locs hp5 hW => ?_)
  obtain ⟨hs5, hp5⟩ := hp5
  rw [hs5] at hW
  rcases hp5 with ⟨p, q, hp1, ep, rfl, hq1, hq2, hq3, hq4⟩ | ⟨rfl, hno⟩
  · subst ep
    have hp31 : p < 2147483648 := by omega
    have epI : (nI p).toInt = p := n_toInt hp31
    have epN : (nI p).toNatClampNeg = p := n_clamp hp31
    have hB1 : BP1 B c := hB.resolve_left (fun z => by rw [z.2 17] at hp1; omega)
    obtain ⟨b0, b1, b2, b3, b4, b5, b6, b7, b8, b9, b10, b11, b12⟩ := id hB1
    have b12p := b12 p (by omega)
    refine W.eq (g2 := F0 mM 8 ls [.ref (gA G q)]) rfl ?_
    refine lv_astore_n (lv' := [(3, .ref (gA G q)), (0, .ref (gA G 0)), (1, .int (nI p)), (2, .int a2)]) hx hb dX10_ask_8 rfl hl (by decide) rfl (fun ls hl => ?_)
    refine lv_aload_n hx hb dX10_ask_9 rfl (lv_at hl 0 rfl) ?_
    refine lv_ifnull hx hb dX10_ask_10 ?_
    refine lv_iload_n hx hb dX10_ask_13 rfl (lv_at hl 3 rfl) ?_
    refine r_calli hW hA (va_runS (As := [.int a2]) (rest := []) ⟨hx, hb, hml, hown, hts⟩ (t_X10_isZeroOrOne l D G S _ a2) (va_cwS 1 hts gX10_ask_X10_isZeroOrOne rfl rfl rfl (by decide +kernel) ⟨Nat.le_of_ble_eq_true rfl, Nat.le_of_ble_eq_true rfl⟩) (r_preS hA hW) rfl rfl hl.1 rfl (lv_room (Nat.le_of_ble_eq_true rfl)) dX10_ask_14 ⟨Nat.zero_le _, Nat.zero_le _⟩) (fun r14 S14 H locs hp14 hW => ?_)
    obtain ⟨hs14, hp14⟩ := hp14
    rw [hs14] at hW
    rcases hp14 with ⟨rfl, h14⟩ | ⟨rfl, h14⟩
    · skip
      refine lv_if_ne (tgt := 24) hx hb dX10_ask_17 (by decide) (fun c17 => ?_) (fun c17 => ?_)
      · skip
        have h75 := hq1
        refine lv_aload_n hx hb dX10_ask_24 rfl (lv_at hl 1 rfl) ?_
        refine r_getr (ci := 9) (C := RX10) (T := TX10) (N := 10) hx hb hts iX10 hown hW rfl 0 5 rfl (g_lt hG (by decide)) (g_kd hG (by decide) rfl) (by decide) q1 (fun _ h9 => h9) (hP _ (List.mem_of_getElem? (i := 5) rfl)) rfl rfl dX10_ask_25 ?_
        refine r_callv hW hA (va_runV (As := []) (rest := []) ⟨hx, hb, hml, hown, hts⟩ (t_X8_empty l D G S _ hG hP) (cwV 0 hts gX10_ask_X8_empty rfl rfl rfl (by decide +kernel) ⟨Nat.le_of_ble_eq_true rfl, Nat.le_of_ble_eq_true rfl⟩) (r_preV (k := 30) hA hW (ci := 7) (C := RX8) (T := TX8) (N := 2) rfl rfl (g_lt hG (by decide)) (g_kd hG (by decide) rfl) rfl rfl) rfl rfl hl.1 rfl (lv_room (Nat.le_of_ble_eq_true rfl)) dX10_ask_28 ⟨Nat.zero_le _, Nat.zero_le _⟩) (fun S28 H locs hp28 hW => ?_)
        rw [hp28] at hW
        refine lv_iload_n hx hb dX10_ask_31 rfl (lv_at hl 3 rfl) ?_
        refine lv_if_ne (tgt := 50) hx hb dX10_ask_32 (by decide) (fun c32 => ?_) (fun c32 => ?_)
        · skip
          rw [t_eq, show (0 : Int32).toInt = 0 from by decide] at c32
          refine lv_aload_n hx hb dX10_ask_50 rfl (lv_at hl 0 rfl) ?_
          refine lv_aload_n hx hb dX10_ask_51 rfl (lv_at hl 1 rfl) ?_
          refine r_getr (ci := 9) (C := RX10) (T := TX10) (N := 10) hx hb hts iX10 hown hW rfl 0 7 rfl (g_lt hG (by decide)) (g_kd hG (by decide) rfl) (by decide) q0 (fun _ h9 => h9) hH rfl rfl dX10_ask_52 ?_
          refine lv_aload_n hx hb dX10_ask_55 rfl (lv_at hl 1 rfl) ?_
          refine r_getr (ci := 9) (C := RX10) (T := TX10) (N := 10) hx hb hts iX10 hown hW rfl 0 5 rfl (g_lt hG (by decide)) (g_kd hG (by decide) rfl) (by decide) q1 (fun _ h9 => h9) (hP _ (List.mem_of_getElem? (i := 5) rfl)) rfl rfl dX10_ask_56 ?_
          have hQ : AskS (ri S 30 (va_up (gi S 30) 1 0)) h q (B 1) (B 2) (B 3) p (B (18 + p)) (B (50 + p)) := ⟨(congrFun (up_n _ _ (by omega)) _).trans hR.1.2.2.1, (congrFun (up_n _ _ (by omega)) _).trans hR.1.2.2.2.1, (congrFun (up_n _ _ (by omega)) _).trans hR.1.2.2.2.2.1, (congrFun (up_n _ _ (by omega)) _).trans hq4.2.1, (congrFun (up_n _ _ (by omega)) _).trans hq4.2.2.1, (congrFun (up_n _ _ (by omega)) _).trans hq4.2.2.2, (by rw [show gi (ri S 30 (va_up (gi S 30) 1 0)) 30 1 = 0 from by rw [gi_ri, up_s, up_s]]; decide), b4, (b9 p hp1).1, (b9 p hp1).2.1, b5, b3, by omega, (b9 p hp1).2.2.2⟩
          rcases (show B (34 + p) = 0 ∧ B (18 + p) = 1 ∨ B (34 + p) = 0 ∧ B (18 + p) ≠ 1 ∨ B (34 + p) = 1 ∨ B (34 + p) = 2 ∨ B (34 + p) = 3 by have := (b9 p hp1).2.2.1; omega) with ⟨z1, z2⟩ | ⟨z1, z2⟩ | z1 | z1 | z1
          · have hk : gK G q = 3 := by rw [hq4.1]; simp [kdF, z1, z2]
            have hkd : kdF (B (34 + p)) (B (18 + p)) = 3 := by rw [← hq4.1]; exact hk
            have hkP : KdP G q := kdF_P hq4.1
            refine r_calll hW hA (va_runU (As := [.ref (gA G h), .ref (gA G 30)]) (rest := []) ⟨hx, hb, hml, hown, hts⟩ (t_X3_markAsked l D G (ri S 30 (va_up (gi S 30) 1 0)) _ hG hP h hh q hq1 hq2 hkP (B 1) (B 2) (B 3) p (B (18 + p)) (B (50 + p)) hQ) (va_cwO 2 hts gX10_ask_X3_markAsked_u233X3 rfl rfl rfl (b0 := cX4_markAsked) (m0 := 3) (r0 := (some .long)) (List.mem_of_getElem? (i := 59) rfl) (by decide +kernel) ⟨Nat.le_of_ble_eq_true rfl, Nat.le_of_ble_eq_true rfl⟩) (r_preV (k := q) hA hW (ci := 3) (C := RX3) (T := TX3) (N := 3) rfl rfl hq2 hk rfl rfl) rfl rfl hl.1 rfl (lv_room (Nat.le_of_ble_eq_true rfl)) dX10_ask_59 ⟨Nat.zero_le _, Nat.zero_le _⟩) (fun r59 S59 H locs hp59 hW => ?_)
            obtain ⟨rfl, hs59⟩ := hp59
            rw [hs59] at hW
            refine r_lret hx hb hr hlocks hW ?_ dX10_ask_62
            have e : fAsk B (nI p) a2 = ((lN p + 10 * lN (dueN (B 3) (B 1) (B 2) (B (18 + p))) - 1000), some [24, 21, 20]) := by unfold fAsk; rw [if_pos (by omega), if_neg (by omega), epN, hkd]; rfl
            rw [e]
            have es : (trc (trc (trc (ri S 30 (va_up (gi S 30) 1 0)) 24) 21) 20) = trcs (ri S 30 (va_up (gi S 30) 1 0)) [24, 21, 20] := rfl
            rw [es]
            dsimp only [fTr]
            exact ⟨rfl, (trcs_e S [24, 21, 20]).1, (trcs_e S [24, 21, 20]).2.1, (trcs_e S [24, 21, 20]).2.2⟩
          · have hk : gK G q = 2 := by rw [hq4.1]; simp [kdF, z1, z2]
            have hkd : kdF (B (34 + p)) (B (18 + p)) = 2 := by rw [← hq4.1]; exact hk
            have hkP : KdP G q := kdF_P hq4.1
            refine r_calll hW hA (va_runU (As := [.ref (gA G h), .ref (gA G 30)]) (rest := []) ⟨hx, hb, hml, hown, hts⟩ (t_X2_markAsked l D G (ri S 30 (va_up (gi S 30) 1 0)) _ hG hP h hh q hq1 hq2 hkP (B 1) (B 2) (B 3) p (B (18 + p)) (B (50 + p)) hQ) (va_cwO 2 hts gX10_ask_X2_markAsked_u233X2 rfl rfl rfl (b0 := cX4_markAsked) (m0 := 3) (r0 := (some .long)) (List.mem_of_getElem? (i := 59) rfl) (by decide +kernel) ⟨Nat.le_of_ble_eq_true rfl, Nat.le_of_ble_eq_true rfl⟩) (r_preV (k := q) hA hW (ci := 2) (C := RX2) (T := TX2) (N := 3) rfl rfl hq2 hk rfl rfl) rfl rfl hl.1 rfl (lv_room (Nat.le_of_ble_eq_true rfl)) dX10_ask_59 ⟨Nat.zero_le _, Nat.zero_le _⟩) (fun r59 S59 H locs hp59 hW => ?_)
            obtain ⟨rfl, hs59⟩ := hp59
            rw [hs59] at hW
            refine r_lret hx hb hr hlocks hW ?_ dX10_ask_62
            have e : fAsk B (nI p) a2 = ((lN p + 10 * lN (dueN (B 3) (B 1) (B 2) (B (18 + p)))), some [21, 20]) := by unfold fAsk; rw [if_pos (by omega), if_neg (by omega), epN, hkd]; rfl
            rw [e]
            have es : (trc (trc (ri S 30 (va_up (gi S 30) 1 0)) 21) 20) = trcs (ri S 30 (va_up (gi S 30) 1 0)) [21, 20] := rfl
            rw [es]
            dsimp only [fTr]
            exact ⟨rfl, (trcs_e S [21, 20]).1, (trcs_e S [21, 20]).2.1, (trcs_e S [21, 20]).2.2⟩
          · have hk : gK G q = 1 := by rw [hq4.1]; simp [kdF, z1]
            have hkd : kdF (B (34 + p)) (B (18 + p)) = 1 := by rw [← hq4.1]; exact hk
            have hkP : KdP G q := kdF_P hq4.1
            refine r_calll hW hA (va_runU (As := [.ref (gA G h), .ref (gA G 30)]) (rest := []) ⟨hx, hb, hml, hown, hts⟩ (t_X2_markAsked l D G (ri S 30 (va_up (gi S 30) 1 0)) _ hG hP h hh q hq1 hq2 hkP (B 1) (B 2) (B 3) p (B (18 + p)) (B (50 + p)) hQ) (va_cwO 2 hts gX10_ask_X2_markAsked_u233X1 rfl rfl rfl (b0 := cX4_markAsked) (m0 := 3) (r0 := (some .long)) (List.mem_of_getElem? (i := 59) rfl) (by decide +kernel) ⟨Nat.le_of_ble_eq_true rfl, Nat.le_of_ble_eq_true rfl⟩) (r_preV (k := q) hA hW (ci := 1) (C := RX1) (T := TX1) (N := 3) rfl rfl hq2 hk rfl rfl) rfl rfl hl.1 rfl (lv_room (Nat.le_of_ble_eq_true rfl)) dX10_ask_59 ⟨Nat.zero_le _, Nat.zero_le _⟩) (fun r59 S59 H locs hp59 hW => ?_)
            obtain ⟨rfl, hs59⟩ := hp59
            rw [hs59] at hW
            refine r_lret hx hb hr hlocks hW ?_ dX10_ask_62
            have e : fAsk B (nI p) a2 = ((lN p + 10 * lN (dueN (B 3) (B 1) (B 2) (B (18 + p)))), some [21, 20]) := by unfold fAsk; rw [if_pos (by omega), if_neg (by omega), epN, hkd]; rfl
            rw [e]
            have es : (trc (trc (ri S 30 (va_up (gi S 30) 1 0)) 21) 20) = trcs (ri S 30 (va_up (gi S 30) 1 0)) [21, 20] := rfl
            rw [es]
            dsimp only [fTr]
            exact ⟨rfl, (trcs_e S [21, 20]).1, (trcs_e S [21, 20]).2.1, (trcs_e S [21, 20]).2.2⟩
          · have hk : gK G q = 6 := by rw [hq4.1]; simp [kdF, z1]
            have hkd : kdF (B (34 + p)) (B (18 + p)) = 6 := by rw [← hq4.1]; exact hk
            have hkP : KdP G q := kdF_P hq4.1
            refine r_calll hW hA (va_runU (As := [.ref (gA G h), .ref (gA G 30)]) (rest := []) ⟨hx, hb, hml, hown, hts⟩ (t_X7_markAsked l D G (ri S 30 (va_up (gi S 30) 1 0)) _ hG hP h hh q hq1 hq2 hkP (B 1) (B 2) (B 3) p (B (18 + p)) (B (50 + p)) hQ hk) (va_cwO 2 hts gX10_ask_X7_markAsked_u233X7 rfl rfl rfl (b0 := cX4_markAsked) (m0 := 3) (r0 := (some .long)) (List.mem_of_getElem? (i := 59) rfl) (by decide +kernel) ⟨Nat.le_of_ble_eq_true rfl, Nat.le_of_ble_eq_true rfl⟩) (r_preV (k := q) hA hW (ci := 6) (C := RX7) (T := TX7) (N := 3) rfl rfl hq2 hk rfl rfl) rfl rfl hl.1 rfl (lv_room (Nat.le_of_ble_eq_true rfl)) dX10_ask_59 ⟨Nat.zero_le _, Nat.zero_le _⟩) (fun r59 S59 H locs hp59 hW => ?_)
            obtain ⟨rfl, hs59⟩ := hp59
            rw [hs59] at hW
            refine r_lret hx hb hr hlocks hW ?_ dX10_ask_62
            have e : fAsk B (nI p) a2 = ((lN p - (lN (B (18 + p)) - 100)), some [23, 20, 13, 10]) := by unfold fAsk; rw [if_pos (by omega), if_neg (by omega), epN, hkd]; rfl
            rw [e]
            have es : (trc (trc (trc (trc (ri S 30 (va_up (gi S 30) 1 0)) 23) 20) 13) 10) = trcs (ri S 30 (va_up (gi S 30) 1 0)) [23, 20, 13, 10] := rfl
            rw [es]
            dsimp only [fTr]
            exact ⟨rfl, (trcs_e S [23, 20, 13, 10]).1, (trcs_e S [23, 20, 13, 10]).2.1, (trcs_e S [23, 20, 13, 10]).2.2⟩
          · have hk : gK G q = 8 := by rw [hq4.1]; simp [kdF, z1]
            have hkd : kdF (B (34 + p)) (B (18 + p)) = 8 := by rw [← hq4.1]; exact hk
            have hkP : KdP G q := kdF_P hq4.1
            refine r_calll hW hA (va_runU (As := [.ref (gA G h), .ref (gA G 30)]) (rest := []) ⟨hx, hb, hml, hown, hts⟩ (t_X9_markAsked l D G (ri S 30 (va_up (gi S 30) 1 0)) _ hG hP h hh q hq1 hq2 hkP (B 1) (B 2) (B 3) p (B (18 + p)) (B (50 + p)) hQ) (va_cwO 2 hts gX10_ask_X9_markAsked_u233X9 rfl rfl rfl (b0 := cX4_markAsked) (m0 := 3) (r0 := (some .long)) (List.mem_of_getElem? (i := 59) rfl) (by decide +kernel) ⟨Nat.le_of_ble_eq_true rfl, Nat.le_of_ble_eq_true rfl⟩) (r_preV (k := q) hA hW (ci := 8) (C := RX9) (T := TX9) (N := 3) rfl rfl hq2 hk rfl rfl) rfl rfl hl.1 rfl (lv_room (Nat.le_of_ble_eq_true rfl)) dX10_ask_59 ⟨Nat.zero_le _, Nat.zero_le _⟩) (fun r59 S59 H locs hp59 hW => ?_)
            obtain ⟨rfl, hs59⟩ := hp59
            rw [hs59] at hW
            refine r_lret hx hb hr hlocks hW ?_ dX10_ask_62
            have e : fAsk B (nI p) a2 = ((lN p + lN (B (50 + p))), some [22, 20]) := by unfold fAsk; rw [if_pos (by omega), if_neg (by omega), epN, hkd]; rfl
            rw [e]
            have es : (trc (trc (ri S 30 (va_up (gi S 30) 1 0)) 22) 20) = trcs (ri S 30 (va_up (gi S 30) 1 0)) [22, 20] := rfl
            rw [es]
            dsimp only [fTr]
            exact ⟨rfl, (trcs_e S [22, 20]).1, (trcs_e S [22, 20]).2.1, (trcs_e S [22, 20]).2.2⟩
        · skip
          rw [t_eq, show (0 : Int32).toInt = 0 from by decide] at c32
          refine lv_aload_n hx hb dX10_ask_35 rfl (lv_at hl 0 rfl) ?_
          refine lv_aload_n hx hb dX10_ask_36 rfl (lv_at hl 1 rfl) ?_
          refine r_getr (ci := 9) (C := RX10) (T := TX10) (N := 10) hx hb hts iX10 hown hW rfl 0 7 rfl (g_lt hG (by decide)) (g_kd hG (by decide) rfl) (by decide) q0 (fun _ h9 => h9) hH rfl rfl dX10_ask_37 ?_
          refine lv_aload_n hx hb dX10_ask_40 rfl (lv_at hl 1 rfl) ?_
          refine r_getr (ci := 9) (C := RX10) (T := TX10) (N := 10) hx hb hts iX10 hown hW rfl 0 5 rfl (g_lt hG (by decide)) (g_kd hG (by decide) rfl) (by decide) q1 (fun _ h9 => h9) (hP _ (List.mem_of_getElem? (i := 5) rfl)) rfl rfl dX10_ask_41 ?_
          have hQ : AskS (ri S 30 (va_up (gi S 30) 1 0)) h q (B 1) (B 2) (B 3) p (B (18 + p)) (B (50 + p)) := ⟨(congrFun (up_n _ _ (by omega)) _).trans hR.1.2.2.1, (congrFun (up_n _ _ (by omega)) _).trans hR.1.2.2.2.1, (congrFun (up_n _ _ (by omega)) _).trans hR.1.2.2.2.2.1, (congrFun (up_n _ _ (by omega)) _).trans hq4.2.1, (congrFun (up_n _ _ (by omega)) _).trans hq4.2.2.1, (congrFun (up_n _ _ (by omega)) _).trans hq4.2.2.2, (by rw [show gi (ri S 30 (va_up (gi S 30) 1 0)) 30 1 = 0 from by rw [gi_ri, up_s, up_s]]; decide), b4, (b9 p hp1).1, (b9 p hp1).2.1, b5, b3, by omega, (b9 p hp1).2.2.2⟩
          rcases (show B (34 + p) = 0 ∧ B (18 + p) = 1 ∨ B (34 + p) = 0 ∧ B (18 + p) ≠ 1 ∨ B (34 + p) = 1 ∨ B (34 + p) = 2 ∨ B (34 + p) = 3 by have := (b9 p hp1).2.2.1; omega) with ⟨z1, z2⟩ | ⟨z1, z2⟩ | z1 | z1 | z1
          · have hk : gK G q = 3 := by rw [hq4.1]; simp [kdF, z1, z2]
            have hkd : kdF (B (34 + p)) (B (18 + p)) = 3 := by rw [← hq4.1]; exact hk
            have hkP : KdP G q := kdF_P hq4.1
            refine r_calll hW hA (va_runU (As := [.ref (gA G h), .ref (gA G 30)]) (rest := []) ⟨hx, hb, hml, hown, hts⟩ (t_X3_sizeAsked l D G (ri S 30 (va_up (gi S 30) 1 0)) _ hG hP h hh q hq1 hq2 hkP (B 1) (B 2) (B 3) p (B (18 + p)) (B (50 + p)) hQ hk) (va_cwO 2 hts gX10_ask_X3_sizeAsked_u229X3 rfl rfl rfl (b0 := cX4_sizeAsked) (m0 := 3) (r0 := (some .long)) (List.mem_of_getElem? (i := 44) rfl) (by decide +kernel) ⟨Nat.le_of_ble_eq_true rfl, Nat.le_of_ble_eq_true rfl⟩) (r_preV (k := q) hA hW (ci := 3) (C := RX3) (T := TX3) (N := 3) rfl rfl hq2 hk rfl rfl) rfl rfl hl.1 rfl (lv_room (Nat.le_of_ble_eq_true rfl)) dX10_ask_44 ⟨Nat.zero_le _, Nat.zero_le _⟩) (fun r44 S44 H locs hp44 hW => ?_)
            obtain ⟨rfl, hs44⟩ := hp44
            rw [hs44] at hW
            refine lv_goto (tgt := 62) hx hb dX10_ask_47 (by decide) ?_
            refine r_lret hx hb hr hlocks hW ?_ dX10_ask_62
            have e : fAsk B (nI p) a2 = ((2 * (lN (B (18 + p)) + (lN p + 10 * lN (dueN (B 3) (B 1) (B 2) (B (18 + p))) - 1000))), some [14, 11, 10, 24, 21, 20]) := by unfold fAsk; rw [if_pos (by omega), if_pos (by omega), epN, hkd]; rfl
            rw [e]
            have es : (trc (trc (trc (trc (trc (trc (ri S 30 (va_up (gi S 30) 1 0)) 14) 11) 10) 24) 21) 20) = trcs (ri S 30 (va_up (gi S 30) 1 0)) [14, 11, 10, 24, 21, 20] := rfl
            rw [es]
            dsimp only [fTr]
            exact ⟨rfl, (trcs_e S [14, 11, 10, 24, 21, 20]).1, (trcs_e S [14, 11, 10, 24, 21, 20]).2.1, (trcs_e S [14, 11, 10, 24, 21, 20]).2.2⟩
          · have hk : gK G q = 2 := by rw [hq4.1]; simp [kdF, z1, z2]
            have hkd : kdF (B (34 + p)) (B (18 + p)) = 2 := by rw [← hq4.1]; exact hk
            have hkP : KdP G q := kdF_P hq4.1
            refine r_calll hW hA (va_runU (As := [.ref (gA G h), .ref (gA G 30)]) (rest := []) ⟨hx, hb, hml, hown, hts⟩ (t_X2_sizeAsked_2 l D G (ri S 30 (va_up (gi S 30) 1 0)) _ hG hP h hh q hq1 hq2 hkP (B 1) (B 2) (B 3) p (B (18 + p)) (B (50 + p)) hQ hk) (va_cwO 2 hts gX10_ask_X2_sizeAsked_u229X2 rfl rfl rfl (b0 := cX4_sizeAsked) (m0 := 3) (r0 := (some .long)) (List.mem_of_getElem? (i := 44) rfl) (by decide +kernel) ⟨Nat.le_of_ble_eq_true rfl, Nat.le_of_ble_eq_true rfl⟩) (r_preV (k := q) hA hW (ci := 2) (C := RX2) (T := TX2) (N := 3) rfl rfl hq2 hk rfl rfl) rfl rfl hl.1 rfl (lv_room (Nat.le_of_ble_eq_true rfl)) dX10_ask_44 ⟨Nat.zero_le _, Nat.zero_le _⟩) (fun r44 S44 H locs hp44 hW => ?_)
            obtain ⟨rfl, hs44⟩ := hp44
            rw [hs44] at hW
            refine lv_goto (tgt := 62) hx hb dX10_ask_47 (by decide) ?_
            refine r_lret hx hb hr hlocks hW ?_ dX10_ask_62
            have e : fAsk B (nI p) a2 = ((lN (B (18 + p)) + (lN p + 10 * lN (dueN (B 3) (B 1) (B 2) (B (18 + p))))), some [11, 10, 21, 20]) := by unfold fAsk; rw [if_pos (by omega), if_pos (by omega), epN, hkd]; rfl
            rw [e]
            have es : (trc (trc (trc (trc (ri S 30 (va_up (gi S 30) 1 0)) 11) 10) 21) 20) = trcs (ri S 30 (va_up (gi S 30) 1 0)) [11, 10, 21, 20] := rfl
            rw [es]
            dsimp only [fTr]
            exact ⟨rfl, (trcs_e S [11, 10, 21, 20]).1, (trcs_e S [11, 10, 21, 20]).2.1, (trcs_e S [11, 10, 21, 20]).2.2⟩
          · have hk : gK G q = 1 := by rw [hq4.1]; simp [kdF, z1]
            have hkd : kdF (B (34 + p)) (B (18 + p)) = 1 := by rw [← hq4.1]; exact hk
            have hkP : KdP G q := kdF_P hq4.1
            refine r_calll hW hA (va_runU (As := [.ref (gA G h), .ref (gA G 30)]) (rest := []) ⟨hx, hb, hml, hown, hts⟩ (t_X1_sizeAsked l D G (ri S 30 (va_up (gi S 30) 1 0)) _ hG hP h hh q hq1 hq2 hkP (B 1) (B 2) (B 3) p (B (18 + p)) (B (50 + p)) hQ hk) (va_cwO 2 hts gX10_ask_X1_sizeAsked_u229X1 rfl rfl rfl (b0 := cX4_sizeAsked) (m0 := 3) (r0 := (some .long)) (List.mem_of_getElem? (i := 44) rfl) (by decide +kernel) ⟨Nat.le_of_ble_eq_true rfl, Nat.le_of_ble_eq_true rfl⟩) (r_preV (k := q) hA hW (ci := 1) (C := RX1) (T := TX1) (N := 3) rfl rfl hq2 hk rfl rfl) rfl rfl hl.1 rfl (lv_room (Nat.le_of_ble_eq_true rfl)) dX10_ask_44 ⟨Nat.zero_le _, Nat.zero_le _⟩) (fun r44 S44 H locs hp44 hW => ?_)
            obtain ⟨rfl, hs44⟩ := hp44
            rw [hs44] at hW
            refine lv_goto (tgt := 62) hx hb dX10_ask_47 (by decide) ?_
            refine r_lret hx hb hr hlocks hW ?_ dX10_ask_62
            have e : fAsk B (nI p) a2 = ((-(lN (B (18 + p)) + (lN p + 10 * lN (dueN (B 3) (B 1) (B 2) (B (18 + p)))))), some [12, 11, 10, 21, 20]) := by unfold fAsk; rw [if_pos (by omega), if_pos (by omega), epN, hkd]; rfl
            rw [e]
            have es : (trc (trc (trc (trc (trc (ri S 30 (va_up (gi S 30) 1 0)) 12) 11) 10) 21) 20) = trcs (ri S 30 (va_up (gi S 30) 1 0)) [12, 11, 10, 21, 20] := rfl
            rw [es]
            dsimp only [fTr]
            exact ⟨rfl, (trcs_e S [12, 11, 10, 21, 20]).1, (trcs_e S [12, 11, 10, 21, 20]).2.1, (trcs_e S [12, 11, 10, 21, 20]).2.2⟩
          · have hk : gK G q = 6 := by rw [hq4.1]; simp [kdF, z1]
            have hkd : kdF (B (34 + p)) (B (18 + p)) = 6 := by rw [← hq4.1]; exact hk
            have hkP : KdP G q := kdF_P hq4.1
            refine r_calll hW hA (va_runU (As := [.ref (gA G h), .ref (gA G 30)]) (rest := []) ⟨hx, hb, hml, hown, hts⟩ (t_X7_sizeAsked l D G (ri S 30 (va_up (gi S 30) 1 0)) _ hG hP h hh q hq1 hq2 hkP (B 1) (B 2) (B 3) p (B (18 + p)) (B (50 + p)) hQ) (va_cwO 2 hts gX10_ask_X7_sizeAsked_u229X7 rfl rfl rfl (b0 := cX4_sizeAsked) (m0 := 3) (r0 := (some .long)) (List.mem_of_getElem? (i := 44) rfl) (by decide +kernel) ⟨Nat.le_of_ble_eq_true rfl, Nat.le_of_ble_eq_true rfl⟩) (r_preV (k := q) hA hW (ci := 6) (C := RX7) (T := TX7) (N := 3) rfl rfl hq2 hk rfl rfl) rfl rfl hl.1 rfl (lv_room (Nat.le_of_ble_eq_true rfl)) dX10_ask_44 ⟨Nat.zero_le _, Nat.zero_le _⟩) (fun r44 S44 H locs hp44 hW => ?_)
            obtain ⟨rfl, hs44⟩ := hp44
            rw [hs44] at hW
            refine lv_goto (tgt := 62) hx hb dX10_ask_47 (by decide) ?_
            refine r_lret hx hb hr hlocks hW ?_ dX10_ask_62
            have e : fAsk B (nI p) a2 = ((lN (B (18 + p)) - 100), some [13, 10]) := by unfold fAsk; rw [if_pos (by omega), if_pos (by omega), epN, hkd]; rfl
            rw [e]
            have es : (trc (trc (ri S 30 (va_up (gi S 30) 1 0)) 13) 10) = trcs (ri S 30 (va_up (gi S 30) 1 0)) [13, 10] := rfl
            rw [es]
            dsimp only [fTr]
            exact ⟨rfl, (trcs_e S [13, 10]).1, (trcs_e S [13, 10]).2.1, (trcs_e S [13, 10]).2.2⟩
          · have hk : gK G q = 8 := by rw [hq4.1]; simp [kdF, z1]
            have hkd : kdF (B (34 + p)) (B (18 + p)) = 8 := by rw [← hq4.1]; exact hk
            have hkP : KdP G q := kdF_P hq4.1
            refine r_calll hW hA (va_runU (As := [.ref (gA G h), .ref (gA G 30)]) (rest := []) ⟨hx, hb, hml, hown, hts⟩ (t_X4_sizeAsked l D G (ri S 30 (va_up (gi S 30) 1 0)) _ hG hP h hh q hq1 hq2 hkP (B 1) (B 2) (B 3) p (B (18 + p)) (B (50 + p)) hQ) (va_cwU 2 hts gX10_ask_X4_sizeAsked_u229X9 rfl rfl rfl rfl (by decide +kernel) ⟨Nat.le_of_ble_eq_true rfl, Nat.le_of_ble_eq_true rfl⟩) (r_preV (k := q) hA hW (ci := 8) (C := RX9) (T := TX9) (N := 3) rfl rfl hq2 hk rfl rfl) rfl rfl hl.1 rfl (lv_room (Nat.le_of_ble_eq_true rfl)) dX10_ask_44 ⟨Nat.zero_le _, Nat.zero_le _⟩) (fun r44 S44 H locs hp44 hW => ?_)
            obtain ⟨rfl, hs44⟩ := hp44
            rw [hs44] at hW
            refine lv_goto (tgt := 62) hx hb dX10_ask_47 (by decide) ?_
            refine r_lret hx hb hr hlocks hW ?_ dX10_ask_62
            have e : fAsk B (nI p) a2 = ((lN (B (18 + p))), some [10]) := by unfold fAsk; rw [if_pos (by omega), if_pos (by omega), epN, hkd]; rfl
            rw [e]
            have es : (trc (ri S 30 (va_up (gi S 30) 1 0)) 10) = trcs (ri S 30 (va_up (gi S 30) 1 0)) [10] := rfl
            rw [es]
            dsimp only [fTr]
            exact ⟨rfl, (trcs_e S [10]).1, (trcs_e S [10]).2.1, (trcs_e S [10]).2.2⟩
      · exact absurd c17 (by decide)
    · skip
      refine lv_if_ne (tgt := 24) hx hb dX10_ask_17 (by decide) (fun c17 => ?_) (fun c17 => ?_)
      · exact absurd (by decide) c17
      · skip
        refine lv_ldc2 (v := (-9000000000000000001)) hx hb hown q2 dX10_ask_20 ?_
        refine r_lret hx hb hr hlocks hW ?_ dX10_ask_23
        have e : fAsk B (nI p) a2 = (BADL, none) := by unfold fAsk; rw [if_neg (by omega)]
        rw [e]
        exact ⟨rfl, rfl, rfl, Ch.rf⟩
  · skip
    refine W.eq (g2 := F0 mM 8 ls [.null]) rfl ?_
    refine lv_astore_nN (lv' := [(3, .null), (0, .ref (gA G 0)), (1, .int a1), (2, .int a2)]) hx hb dX10_ask_8 rfl hl (by decide) rfl (fun ls hl => ?_)
    refine lv_aload_nN hx hb dX10_ask_9 rfl (lv_at hl 0 rfl) ?_
    refine lv_ifnullN (tgt := 20) hx hb dX10_ask_10 (by decide) ?_
    refine lv_ldc2 (v := (-9000000000000000001)) hx hb hown q2 dX10_ask_20 ?_
    refine r_lret hx hb hr hlocks hW ?_ dX10_ask_23
    have e : fAsk B a1 a2 = (BADL, none) := by unfold fAsk; rw [if_neg (by omega)]
    rw [e]
    exact ⟨rfl, rfl, rfl, Ch.rf⟩
