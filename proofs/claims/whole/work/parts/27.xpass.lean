/-! what the calls on the pass answer -/
def fNight (B : Nat → Nat) (a : Int32) : Int64 × (Nat → Nat) := if 0 ≤ a.toInt ∧ a.toInt < B 17 then (lN (slF B a.toNatClampNeg), slB B a.toNatClampNeg) else (BADL, B)
def snB (B : Nat → Nat) (x : Nat) : Nat → Nat := fun k => if k = 0 then B 0 - x else if k = 130 then B 130 + 1 else B k
def fSnow (B : Nat → Nat) (a : Int32) : Int64 × (Nat → Nat) := if B 132 = 0 then (STATEL, B) else if 0 ≤ a.toInt ∧ a.toInt ≤ 99 then (lN (B 0 - a.toNatClampNeg), snB B a.toNatClampNeg) else (BADL, B)
def fDue (B : Nat → Nat) (a b : Int32) : Int64 := if B 132 = 0 then STATEL else if (0 ≤ a.toInt ∧ a.toInt ≤ 2) ∧ 1 ≤ b.toInt ∧ b.toInt ≤ 9 then lN (dueN (B 3) (B 1) a.toNatClampNeg b.toNatClampNeg) else BADL
def fParty (B : Nat → Nat) (a b : Int32) : Int64 := if (0 ≤ a.toInt ∧ a.toInt < B 17) ∧ 0 ≤ b.toInt ∧ b.toInt ≤ 5 then
    lN (if b.toInt = 0 then B (18 + a.toNatClampNeg) else if b.toInt = 1 then B (50 + a.toNatClampNeg) else if b.toInt = 2 then B (66 + a.toNatClampNeg) else if b.toInt = 3 then B (82 + a.toNatClampNeg) else if b.toInt = 4 then B (98 + a.toNatClampNeg) else B (114 + a.toNatClampNeg)) else BADL
def kdN (way heads : Nat) : Nat := if way = 0 then (if heads = 1 then 5 else 1) else if way = 1 then 2 else if way = 2 then 3 else 4
def fKind (B : Nat → Nat) (a : Int32) : Int64 := if 0 ≤ a.toInt ∧ a.toInt < B 17 then lN (kdN (B (34 + a.toNatClampNeg)) (B (18 + a.toNatClampNeg))) else BADL
def isKd (its : Nat) (k : Int) : Prop := k = 0 ∨ k = its ∨ (k = 1 ∧ (its = 2 ∨ its = 5))
def fAs (B : Nat → Nat) (st a b : Int32) : Int64 × Int32 := if (0 ≤ a.toInt ∧ a.toInt < B 17) ∧ 0 ≤ b.toInt ∧ b.toInt ≤ 5 then
    (if b.toInt = 0 ∨ b.toInt = kdN (B (34 + a.toNatClampNeg)) (B (18 + a.toNatClampNeg)) ∨ (b.toInt = 1 ∧ (kdN (B (34 + a.toNatClampNeg)) (B (18 + a.toNatClampNeg)) = 2 ∨ kdN (B (34 + a.toNatClampNeg)) (B (18 + a.toNatClampNeg)) = 5)) then (a.toInt64, 0) else (FND 3, 3)) else (BADL, st)
theorem lN_of {n : Nat} (h : n < 2147483648) : (nI n).toInt64 = lN n := nI_l h
theorem snB_ok {B : Nat → Nat} {c x : Nat} (h : BP1 B c) : BP1 (snB B x) (c + 1) := by
  obtain ⟨h0, h1, h2, h3, h4, h5, h6, h7, h8, h9, h10, h11, h12⟩ := h
  have st : ∀ k, k ≠ 0 → k ≠ 130 → snB B x k = B k := fun k a b => by unfold snB; rw [if_neg a, if_neg b]
  have e130 : snB B x 130 = B 130 + 1 := by unfold snB; rw [if_neg (by omega), if_pos rfl]
  have e0 : snB B x 0 = B 0 - x := by unfold snB; rw [if_pos rfl]
  unfold BP1
  rw [st 132 (by omega) (by omega), st 1 (by omega) (by omega), st 2 (by omega) (by omega), st 3 (by omega) (by omega), st 4 (by omega) (by omega), st 17 (by omega) (by omega), st 131 (by omega) (by omega), e130, e0]
  refine ⟨h0, by omega, h2, h3, h4, h5, h6, fun i hi => ?_, h8, fun i hi => ?_, by omega, by omega, fun i hi => ?_⟩
  · rw [st _ (by omega) (by omega), st _ (by omega) (by omega)]; exact h7 i hi
  · rw [st _ (by omega) (by omega), st _ (by omega) (by omega), st _ (by omega) (by omega)]; exact h9 i hi
  · obtain ⟨g1, g2, g3, g4⟩ := h12 i hi
    rw [st _ (by omega) (by omega), st _ (by omega) (by omega), st _ (by omega) (by omega), st _ (by omega) (by omega)]; omega
/-- a change of one scalar or two: the rest of a pass stays -/
theorem RP_sc {G : Gg} {S S' : Sg} {h : Nat} {B B' : Nat → Nat} (hR : RP G S h B) (h4 : B 4 ≤ 6) (h17 : B 17 ≤ 16) (ei : ∀ k, k ≠ h → gi S' k = gi S k) (hh : h < 65) (ep : gp S' = gp S) (eB : ∀ k, k ≠ 0 → k ≠ 130 → B' k = B k) (s1 : RPs S' h B') : RP G S' h B' := by
  obtain ⟨-, r2, r3, r4, r5⟩ := hR
  refine ⟨s1, fun i hi => ?_, fun i hi => ?_, fun i hi => ?_, fun j hj => ?_⟩
  · rw [eB 4 (by omega) (by omega)] at hi
    rw [ei _ (by omega), ei _ (by omega), eB _ (by omega) (by omega), eB _ (by omega) (by omega)]; exact r2 i hi
  · rw [ei _ (by omega), ei _ (by omega), ei _ (by omega), ei _ (by omega), eB _ (by omega) (by omega), eB _ (by omega) (by omega), eB _ (by omega) (by omega), eB _ (by omega) (by omega)]; exact r3 i hi
  · rw [eB 17 (by omega) (by omega)] at hi
    obtain ⟨q, a1, a2, a3, a4⟩ := r4 i hi
    refine ⟨q, a1, a2, by rw [ep]; exact a3, ?_⟩
    unfold PtyOK
    rw [eB _ (by omega) (by omega), eB _ (by omega) (by omega), eB _ (by omega) (by omega), ei q (by omega)]
    exact a4
  · rw [ep]; exact r5 j hj
def rmX10_night : Jvm.Room := { frames := 2, cells := 0, slots := 0, locals := 51 }
set_option maxHeartbeats 4000000 in
set_option maxRecDepth 100000 in
theorem t_X10_night (l : Launch) (D : Dc) (G : Gg) (S : Sg) (z : Nat) (hG : GrG G) (hP : GrP G S) (h : Nat) (hh : PassR h) (hH : gp S 0 7 = some (gA G h)) (B : Nat → Nat) (c : Nat) (hB : BP B c) (hc : c < 100000) (hR : RP G S h B) (a1 : Int32) : ML l yX10_night wsX10_night rmX10_night D G S z [.ref (gA G 0), .int a1] (fun r S' => r = (fNight B a1).1 ∧ RP G S' h (fNight B a1).2 ∧ Ch (fun k => h ≤ k ∧ k ≤ h + 6) S S') := by
  refine Met.ofW (cc := cX10_night) (maxL := 2) (ret := (some .long)) (by decide +kernel) rfl ?_
  intro pP eE s mM args bl mT cD s₁ bD hml hv
  obtain ⟨rfl, hv⟩ := hv
  have hz := hv.1
  subst hz
  have hx := bD.exec
  have hb := bD.bytes
  have hr := bD.returns
  have hts := atoms_spec (ws := wsX10_night) bD.pre
  have hown : s.vm.findClass RX10 = some mM.cls := findClass_of_methodNamed bD.named
  have hlocks := bD.notSynchronized
  have hW := Wd.start hv
  have hA : ∀ q, s.heap.size ≤ q → AW G s.heap.size q := fun q h => Or.inr h
  have hl := lv_entry ([.ref (gA G 0), .int a1]) (n := 2) (Nat.le_of_ble_eq_true rfl)
  rw [lg_entry_eq]
  generalize (lg_sl ([.ref (gA G 0), .int a1]) ++ List.replicate (2 - (lg_sl ([.ref (gA G 0), .int a1])).length) Slot.unset).toArray = ls at hl ⊢
  have hl : lv_has ls 2 [(0, .ref (gA G 0)), (1, .int a1)] := hl
  have q0 := hts (.fieldLink RX10 49 "WoodForTwo" "here" "LWoodForTwo$Pass;") (List.mem_of_getElem? (i := 1) rfl)
  have q1 := hts (.constantLong RX10 66 (-9000000000000000001)) (List.mem_of_getElem? (i := 2) rfl)
  have iX10 : ∀ w ∈ wsX100, w ∈ wsX10_night := fun _ h => List.mem_cons_of_mem _ (List.mem_append_left _ (List.mem_append_left _ (List.mem_append_left _ (List.mem_append_left _ (List.mem_append_left _ (List.mem_append_left _ (List.mem_append_right _ (h))))))))
  have h17 : B 17 ≤ 16 := by rcases hB with z | z; (rw [z.2 17]; omega); exact z.2.2.2.2.2.2.2.2.1
  refine lv_aload_n hx hb dX10_night_0 rfl (lv_at hl 0 rfl) ?_
  refine r_getr (ci := 9) (C := RX10) (T := TX10) (N := 10) hx hb hts iX10 hown hW rfl 0 7 rfl (g_lt hG (by decide)) (g_kd hG (by decide) rfl) (by decide) q0 (fun _ h9 => h9) hH rfl rfl dX10_night_1 ?_
  refine lv_iload_n hx hb dX10_night_4 rfl (lv_at hl 1 rfl) ?_
  refine r_callq hW hA (va_runV (As := [.int a1]) (rest := []) ⟨hx, hb, hml, hown, hts⟩ (t_X5_partyAt l D G S _ hG hP h hh B h17 hR.1.2.2.2.2.2.2.1 hR.2.2.2.1 a1) (cwV 1 hts gX10_night_X5_partyAt rfl rfl rfl (by decide +kernel) ⟨Nat.le_of_ble_eq_true rfl, Nat.le_of_ble_eq_true rfl⟩) (r_preV (k := h) hA hW (ci := 4) (C := RX5) (T := TX5) (N := 16) rfl rfl (p_lt hG hh (i := 0) (by decide)) (p_kd hG hh) rfl rfl) rfl rfl hl.1 rfl (lv_room (Nat.le_of_ble_eq_true rfl)) dX10_night_5 ⟨Nat.zero_le _, Nat.zero_le _⟩) (fun r5 S5 H locs hp5 hW => ?_)
  obtain ⟨hs5, hp5⟩ := hp5
  rw [hs5] at hW
  rcases hp5 with ⟨p, q, hp1, ep, rfl, hq1, hq2, hq3, hq4⟩ | ⟨rfl, hno⟩
  · subst ep
    have hp31 : p < 2147483648 := by omega
    have epI : (nI p).toInt = p := n_toInt hp31
    have epN : (nI p).toNatClampNeg = p := n_clamp hp31
    have hB1 : BP1 B c := hB.resolve_left (fun z => by rw [z.2 17] at hp1; omega)
    obtain ⟨b0, b1, b2, b3, b4, b5, b6, b7, b8, b9, b10, b11, b12⟩ := id hB1
    have b12p := b12 p (by omega)
    refine W.eq (g2 := F0 mM 8 ls [.ref (gA G q)]) rfl ?_
    refine lv_ifnonnull (tgt := 15) hx hb dX10_night_8 (by decide) ?_
    refine lv_aload_n hx hb dX10_night_15 rfl (lv_at hl 0 rfl) ?_
    refine r_getr (ci := 9) (C := RX10) (T := TX10) (N := 10) hx hb hts iX10 hown hW rfl 0 7 rfl (g_lt hG (by decide)) (g_kd hG (by decide) rfl) (by decide) q0 (fun _ h9 => h9) hH rfl rfl dX10_night_16 ?_
    refine lv_iload_n hx hb dX10_night_19 rfl (lv_at hl 1 rfl) ?_
    refine r_calli hW hA (va_runV (As := [.int (nI p)]) (rest := []) ⟨hx, hb, hml, hown, hts⟩ (t_X5_sleepNight l D G S _ hG hP h hh B c hB1 hR p hp1) (cwV 1 hts gX10_night_X5_sleepNight rfl rfl rfl (by decide +kernel) ⟨Nat.le_of_ble_eq_true rfl, Nat.le_of_ble_eq_true rfl⟩) (r_preV (k := h) hA hW (ci := 4) (C := RX5) (T := TX5) (N := 16) rfl rfl (p_lt hG hh (i := 0) (by decide)) (p_kd hG hh) rfl rfl) rfl rfl hl.1 rfl (lv_room (Nat.le_of_ble_eq_true rfl)) dX10_night_20 ⟨Nat.zero_le _, Nat.zero_le _⟩) (fun r20 S20 H locs hp20 hW => ?_)
    obtain ⟨rfl, r0, r3, r4, r5, r6, hs20, hq20⟩ := hp20
    rw [hs20] at hW hq20
    refine lv_i2l hx hb dX10_night_23 rfl ?_
    refine r_lret hx hb hr hlocks hW ?_ dX10_night_24
    have e : fNight B (nI p) = (lN (slF B p), slB B p) := by unfold fNight; rw [epI, epN, if_pos (by omega)]
    rw [e]
    exact ⟨lN_of (by have := slF_le (B := B) (p := p) b2 (b9 p hp1).2.1; omega), hq20, (Ch.ri (Ch.ri (Ch.ri (Ch.ri (Ch.ri Ch.rf (by omega)) (by omega)) (by omega)) (by omega)) (by omega))⟩
  · skip
    refine W.eq (g2 := F0 mM 8 ls [.null]) rfl ?_
    refine lv_ifnonnullN hx hb dX10_night_8 ?_
    refine lv_ldc2 (v := (-9000000000000000001)) hx hb hown q1 dX10_night_11 ?_
    refine r_lret hx hb hr hlocks hW ?_ dX10_night_14
    have e : fNight B a1 = (BADL, B) := by unfold fNight; rw [if_neg (by omega)]
    rw [e]
    exact ⟨rfl, hR, Ch.rf⟩

def rmX10_snow : Jvm.Room := { frames := 2, cells := 0, slots := 0, locals := 42 }
set_option maxHeartbeats 4000000 in
set_option maxRecDepth 100000 in
theorem t_X10_snow (l : Launch) (D : Dc) (G : Gg) (S : Sg) (z : Nat) (hG : GrG G) (hP : GrP G S) (h : Nat) (hh : PassR h) (hH : gp S 0 7 = some (gA G h)) (B : Nat → Nat) (c : Nat) (hB : BP B c) (hc : c < 100000) (hR : RP G S h B) (a1 : Int32) : ML l yX10_snow wsX10_snow rmX10_snow D G S z [.ref (gA G 0), .int a1] (fun r S' => r = (fSnow B a1).1 ∧ RP G S' h (fSnow B a1).2 ∧ Ch (fun k => h ≤ k ∧ k ≤ h + 6) S S') := by
  refine Met.ofW (cc := cX10_snow) (maxL := 2) (ret := (some .long)) (by decide +kernel) rfl ?_
  intro pP eE s mM args bl mT cD s₁ bD hml hv
  obtain ⟨rfl, hv⟩ := hv
  have hz := hv.1
  subst hz
  have hx := bD.exec
  have hb := bD.bytes
  have hr := bD.returns
  have hts := atoms_spec (ws := wsX10_snow) bD.pre
  have hown : s.vm.findClass RX10 = some mM.cls := findClass_of_methodNamed bD.named
  have hlocks := bD.notSynchronized
  have hW := Wd.start hv
  have hA : ∀ q, s.heap.size ≤ q → AW G s.heap.size q := fun q h => Or.inr h
  have hl := lv_entry ([.ref (gA G 0), .int a1]) (n := 2) (Nat.le_of_ble_eq_true rfl)
  rw [lg_entry_eq]
  generalize (lg_sl ([.ref (gA G 0), .int a1]) ++ List.replicate (2 - (lg_sl ([.ref (gA G 0), .int a1])).length) Slot.unset).toArray = ls at hl ⊢
  have hl : lv_has ls 2 [(0, .ref (gA G 0)), (1, .int a1)] := hl
  have q0 := hts (.fieldLink RX10 49 "WoodForTwo" "here" "LWoodForTwo$Pass;") (List.mem_of_getElem? (i := 1) rfl)
  have q1 := hts (.fieldLink RX10 116 "WoodForTwo$Pass" "stands" "Z") (List.mem_of_getElem? (i := 2) rfl)
  have q2 := hts (.constantLong RX10 66 (-9000000000000000001)) (List.mem_of_getElem? (i := 4) rfl)
  have q3 := hts (.fieldLink RX10 140 "WoodForTwo$Pass" "wood" "I") (List.mem_of_getElem? (i := 5) rfl)
  have q4 := hts (.constantLong RX10 134 (-9000000000000000002)) (List.mem_of_getElem? (i := 3) rfl)
  have iX10 : ∀ w ∈ wsX100, w ∈ wsX10_snow := fun _ h => List.mem_cons_of_mem _ (List.mem_append_left _ (List.mem_append_right _ (h)))
  have iX5 : ∀ w ∈ wsX50, w ∈ wsX10_snow := fun _ h => List.mem_cons_of_mem _ (List.mem_append_right _ (h))
  have h17 : B 17 ≤ 16 := by rcases hB with z | z; (rw [z.2 17]; omega); exact z.2.2.2.2.2.2.2.2.1
  refine lv_aload_n hx hb dX10_snow_0 rfl (lv_at hl 0 rfl) ?_
  refine r_getr (ci := 9) (C := RX10) (T := TX10) (N := 10) hx hb hts iX10 hown hW rfl 0 7 rfl (g_lt hG (by decide)) (g_kd hG (by decide) rfl) (by decide) q0 (fun _ h9 => h9) hH rfl rfl dX10_snow_1 ?_
  refine r_geti (ci := 4) (C := RX5) (T := TX5) (N := 16) hx hb hts iX5 hown hW rfl h 0 rfl (p_lt hG hh (i := 0) (by decide)) (p_kd hG hh) (by decide) q1 (fun _ h9 => h9) (nI (B 132)) hR.1.1 rfl rfl dX10_snow_4 ?_
  refine lv_if_ne (tgt := 14) hx hb dX10_snow_7 (by decide) (fun c7 => ?_) (fun c7 => ?_)
  · skip
    have hB1 : BP1 B c := hB.resolve_left (fun z => c7 (by rw [z.1]; rfl))
    obtain ⟨b0, b1, b2, b3, b4, b5, b6, b7, b8, b9, b10, b11, b12⟩ := id hB1
    refine lv_iload_n hx hb dX10_snow_14 rfl (lv_at hl 1 rfl) ?_
    refine lv_if_lt (tgt := 24) hx hb dX10_snow_15 (by decide) (fun c15 => ?_) (fun c15 => ?_)
    · skip
      rw [t_lt, show (0 : Int32).toInt = 0 from by decide] at c15
      refine lv_ldc2 (v := (-9000000000000000001)) hx hb hown q2 dX10_snow_24 ?_
      refine r_lret hx hb hr hlocks hW ?_ dX10_snow_27
      have e : fSnow B a1 = (BADL, B) := by unfold fSnow; rw [if_neg (by omega), if_neg (by omega)]
      rw [e]
      exact ⟨rfl, hR, Ch.rf⟩
    · skip
      rw [t_lt, show (0 : Int32).toInt = 0 from by decide] at c15
      refine lv_iload_n hx hb dX10_snow_18 rfl (lv_at hl 1 rfl) ?_
      refine lv_bipush (v := 99) hx hb dX10_snow_19 (by decide) ?_
      refine lv_icmp_le (tgt := 28) hx hb dX10_snow_21 (by decide) (fun c21 => ?_) (fun c21 => ?_)
      · skip
        rw [t_le, show (99 : Int32).toInt = 99 from by decide] at c21
        refine lv_aload_n hx hb dX10_snow_28 rfl (lv_at hl 0 rfl) ?_
        refine r_getr (ci := 9) (C := RX10) (T := TX10) (N := 10) hx hb hts iX10 hown hW rfl 0 7 rfl (g_lt hG (by decide)) (g_kd hG (by decide) rfl) (by decide) q0 (fun _ h9 => h9) hH rfl rfl dX10_snow_29 ?_
        refine lv_iload_n hx hb dX10_snow_32 rfl (lv_at hl 1 rfl) ?_
        have hn1 := n_nat (x := a1) (by omega)
        refine W.eq (g2 := F0 mM 33 ls [.int (nI a1.toNatClampNeg), .ref (gA G h)]) (by rw [← (n_nI (x := a1) (by omega))]) ?_
        refine r_callv hW hA (va_runV (As := [.int (nI a1.toNatClampNeg)]) (rest := []) ⟨hx, hb, hml, hown, hts⟩ (t_X5_loseInSnow l D G S _ hG hP h hh (B 0) (B 130) a1.toNatClampNeg b1 (by omega) hR.1.2.1 hR.1.2.2.2.2.2.2.2.1) (cwV 1 hts gX10_snow_X5_loseInSnow rfl rfl rfl (by decide +kernel) ⟨Nat.le_of_ble_eq_true rfl, Nat.le_of_ble_eq_true rfl⟩) (r_preV (k := h) hA hW (ci := 4) (C := RX5) (T := TX5) (N := 16) rfl rfl (p_lt hG hh (i := 0) (by decide)) (p_kd hG hh) rfl rfl) rfl rfl hl.1 rfl (lv_room (Nat.le_of_ble_eq_true rfl)) dX10_snow_33 ⟨Nat.zero_le _, Nat.zero_le _⟩) (fun S33 H locs hp33 hW => ?_)
        rw [hp33] at hW
        refine lv_aload_n hx hb dX10_snow_36 rfl (lv_at hl 0 rfl) ?_
        refine r_getr (ci := 9) (C := RX10) (T := TX10) (N := 10) hx hb hts iX10 hown hW rfl 0 7 rfl (g_lt hG (by decide)) (g_kd hG (by decide) rfl) (by decide) q0 (fun _ h9 => h9) hH rfl rfl dX10_snow_37 ?_
        refine r_geti (ci := 4) (C := RX5) (T := TX5) (N := 16) hx hb hts iX5 hown hW rfl h 1 rfl (p_lt hG hh (i := 0) (by decide)) (p_kd hG hh) (by decide) q3 (fun _ h9 => h9) (nI (B 0 - a1.toNatClampNeg)) (congrFun (e_is _ _ _) 1) rfl rfl dX10_snow_40 ?_
        refine lv_i2l hx hb dX10_snow_43 rfl ?_
        refine r_lret hx hb hr hlocks hW ?_ dX10_snow_44
        have e : fSnow B a1 = (lN (B 0 - a1.toNatClampNeg), snB B a1.toNatClampNeg) := by unfold fSnow; rw [if_neg (by omega), if_pos (by omega)]
        rw [e]
        refine ⟨lN_of (by omega), RP_sc hR b6 b8 (fun k hk => up_n _ _ hk) (by omega) rfl (fun k a b => by show snB B a1.toNatClampNeg k = B k; unfold snB; rw [if_neg a, if_neg b]) ⟨(congrFun (e_is _ _ _) 0).trans (hR.1.1), (congrFun (e_is _ _ _) 1).trans rfl, (congrFun (e_is _ _ _) 2).trans (hR.1.2.2.1), (congrFun (e_is _ _ _) 3).trans (hR.1.2.2.2.1), (congrFun (e_is _ _ _) 4).trans (hR.1.2.2.2.2.1), (congrFun (e_is _ _ _) 5).trans (hR.1.2.2.2.2.2.1), (congrFun (e_is _ _ _) 6).trans (hR.1.2.2.2.2.2.2.1), (congrFun (e_is _ _ _) 7).trans rfl, (congrFun (e_is _ _ _) 8).trans (hR.1.2.2.2.2.2.2.2.2)⟩, (Ch.ri Ch.rf (by omega))⟩
      · skip
        rw [t_le, show (99 : Int32).toInt = 99 from by decide] at c21
        refine lv_ldc2 (v := (-9000000000000000001)) hx hb hown q2 dX10_snow_24 ?_
        refine r_lret hx hb hr hlocks hW ?_ dX10_snow_27
        have e : fSnow B a1 = (BADL, B) := by unfold fSnow; rw [if_neg (by omega), if_neg (by omega)]
        rw [e]
        exact ⟨rfl, hR, Ch.rf⟩
  · skip
    have hs0 : B 132 = 0 := by
      rcases hB with z | z
      · exact z.1
      · rw [z.1] at c7; exact absurd c7 (by decide)
    refine lv_ldc2 (v := (-9000000000000000002)) hx hb hown q4 dX10_snow_10 ?_
    refine r_lret hx hb hr hlocks hW ?_ dX10_snow_13
    have e : fSnow B a1 = (STATEL, B) := by unfold fSnow; rw [if_pos hs0]
    rw [e]
    exact ⟨rfl, hR, Ch.rf⟩

def rmX10_due : Jvm.Room := { frames := 1, cells := 0, slots := 0, locals := 22 }
set_option maxHeartbeats 4000000 in
set_option maxRecDepth 100000 in
theorem t_X10_due (l : Launch) (D : Dc) (G : Gg) (S : Sg) (z : Nat) (hG : GrG G) (hP : GrP G S) (h : Nat) (hh : PassR h) (hH : gp S 0 7 = some (gA G h)) (B : Nat → Nat) (c : Nat) (hB : BP B c) (hc : c < 100000) (hR : RP G S h B) (a1 a2 : Int32) : ML l yX10_due wsX10_due rmX10_due D G S z [.ref (gA G 0), .int a1, .int a2] (fun r S' => r = fDue B a1 a2 ∧ S' = S) := by
  refine Met.ofW (cc := cX10_due) (maxL := 3) (ret := (some .long)) (by decide +kernel) rfl ?_
  intro pP eE s mM args bl mT cD s₁ bD hml hv
  obtain ⟨rfl, hv⟩ := hv
  have hz := hv.1
  subst hz
  have hx := bD.exec
  have hb := bD.bytes
  have hr := bD.returns
  have hts := atoms_spec (ws := wsX10_due) bD.pre
  have hown : s.vm.findClass RX10 = some mM.cls := findClass_of_methodNamed bD.named
  have hlocks := bD.notSynchronized
  have hW := Wd.start hv
  have hA : ∀ q, s.heap.size ≤ q → AW G s.heap.size q := fun q h => Or.inr h
  have hl := lv_entry ([.ref (gA G 0), .int a1, .int a2]) (n := 3) (Nat.le_of_ble_eq_true rfl)
  rw [lg_entry_eq]
  generalize (lg_sl ([.ref (gA G 0), .int a1, .int a2]) ++ List.replicate (3 - (lg_sl ([.ref (gA G 0), .int a1, .int a2])).length) Slot.unset).toArray = ls at hl ⊢
  have hl : lv_has ls 3 [(0, .ref (gA G 0)), (1, .int a1), (2, .int a2)] := hl
  have q0 := hts (.fieldLink RX10 49 "WoodForTwo" "here" "LWoodForTwo$Pass;") (List.mem_of_getElem? (i := 1) rfl)
  have q1 := hts (.fieldLink RX10 116 "WoodForTwo$Pass" "stands" "Z") (List.mem_of_getElem? (i := 2) rfl)
  have q2 := hts (.constantLong RX10 66 (-9000000000000000001)) (List.mem_of_getElem? (i := 4) rfl)
  have q3 := hts (.constantLong RX10 134 (-9000000000000000002)) (List.mem_of_getElem? (i := 3) rfl)
  have iX10 : ∀ w ∈ wsX100, w ∈ wsX10_due := fun _ h => List.mem_cons_of_mem _ (List.mem_append_left _ (List.mem_append_right _ (h)))
  have iX5 : ∀ w ∈ wsX50, w ∈ wsX10_due := fun _ h => List.mem_cons_of_mem _ (List.mem_append_right _ (h))
  have h17 : B 17 ≤ 16 := by rcases hB with z | z; (rw [z.2 17]; omega); exact z.2.2.2.2.2.2.2.2.1
  refine lv_aload_n hx hb dX10_due_0 rfl (lv_at hl 0 rfl) ?_
  refine r_getr (ci := 9) (C := RX10) (T := TX10) (N := 10) hx hb hts iX10 hown hW rfl 0 7 rfl (g_lt hG (by decide)) (g_kd hG (by decide) rfl) (by decide) q0 (fun _ h9 => h9) hH rfl rfl dX10_due_1 ?_
  refine r_geti (ci := 4) (C := RX5) (T := TX5) (N := 16) hx hb hts iX5 hown hW rfl h 0 rfl (p_lt hG hh (i := 0) (by decide)) (p_kd hG hh) (by decide) q1 (fun _ h9 => h9) (nI (B 132)) hR.1.1 rfl rfl dX10_due_4 ?_
  refine lv_if_ne (tgt := 14) hx hb dX10_due_7 (by decide) (fun c7 => ?_) (fun c7 => ?_)
  · skip
    have hB1 : BP1 B c := hB.resolve_left (fun z => c7 (by rw [z.1]; rfl))
    obtain ⟨b0, b1, b2, b3, b4, b5, b6, b7, b8, b9, b10, b11, b12⟩ := id hB1
    refine lv_iload_n hx hb dX10_due_14 rfl (lv_at hl 1 rfl) ?_
    refine r_calli hW hA (va_runS (As := [.int a1]) (rest := []) ⟨hx, hb, hml, hown, hts⟩ (t_X10_isLaw l D G S _ a1) (va_cwS 1 hts gX10_due_X10_isLaw rfl rfl rfl (by decide +kernel) ⟨Nat.le_of_ble_eq_true rfl, Nat.le_of_ble_eq_true rfl⟩) (r_preS hA hW) rfl rfl hl.1 rfl (lv_room (Nat.le_of_ble_eq_true rfl)) dX10_due_15 ⟨Nat.zero_le _, Nat.zero_le _⟩) (fun r15 S15 H locs hp15 hW => ?_)
    obtain ⟨hs15, hp15⟩ := hp15
    rw [hs15] at hW
    rcases hp15 with ⟨rfl, h15⟩ | ⟨rfl, h15⟩
    · skip
      refine lv_if_eq (tgt := 32) hx hb dX10_due_18 (by decide) (fun c18 => ?_) (fun c18 => ?_)
      · exact absurd c18 (by decide)
      · skip
        refine lv_iload_n hx hb dX10_due_21 rfl (lv_at hl 2 rfl) ?_
        refine lv_iconst (v := 1) hx hb dX10_due_22 (by decide) ?_
        refine lv_icmp_lt (tgt := 32) hx hb dX10_due_23 (by decide) (fun c23 => ?_) (fun c23 => ?_)
        · skip
          rw [t_lt, show (1 : Int32).toInt = 1 from by decide] at c23
          refine lv_ldc2 (v := (-9000000000000000001)) hx hb hown q2 dX10_due_32 ?_
          refine r_lret hx hb hr hlocks hW ?_ dX10_due_35
          refine ⟨?_, rfl⟩
          unfold fDue; rw [if_neg (by omega), if_neg (by omega)]; rfl
        · skip
          rw [t_lt, show (1 : Int32).toInt = 1 from by decide] at c23
          refine lv_iload_n hx hb dX10_due_26 rfl (lv_at hl 2 rfl) ?_
          refine lv_bipush (v := 9) hx hb dX10_due_27 (by decide) ?_
          refine lv_icmp_le (tgt := 36) hx hb dX10_due_29 (by decide) (fun c29 => ?_) (fun c29 => ?_)
          · skip
            rw [t_le, show (9 : Int32).toInt = 9 from by decide] at c29
            refine lv_aload_n hx hb dX10_due_36 rfl (lv_at hl 0 rfl) ?_
            refine r_getr (ci := 9) (C := RX10) (T := TX10) (N := 10) hx hb hts iX10 hown hW rfl 0 7 rfl (g_lt hG (by decide)) (g_kd hG (by decide) rfl) (by decide) q0 (fun _ h9 => h9) hH rfl rfl dX10_due_37 ?_
            refine lv_iload_n hx hb dX10_due_40 rfl (lv_at hl 1 rfl) ?_
            refine lv_iload_n hx hb dX10_due_41 rfl (lv_at hl 2 rfl) ?_
            have hn1 := n_nat (x := a1) (by omega)
            have hn2 := n_nat (x := a2) (by omega)
            refine W.eq (g2 := F0 mM 42 ls [.int (nI a2.toNatClampNeg), .int (nI a1.toNatClampNeg), .ref (gA G h)]) (by rw [← (n_nI (x := a1) (by omega)), ← (n_nI (x := a2) (by omega))]) ?_
            refine r_calli hW hA (va_runV (As := [.int (nI a1.toNatClampNeg), .int (nI a2.toNatClampNeg)]) (rest := []) ⟨hx, hb, hml, hown, hts⟩ (t_X5_owed l D G S _ hG hP h hh a1.toNatClampNeg a2.toNatClampNeg (B 3) (B 1) (by omega) (by omega) (by omega) b5 b3 hR.1.2.2.1 hR.1.2.2.2.2.1) (cwV 2 hts gX10_due_X5_owed rfl rfl rfl (by decide +kernel) ⟨Nat.le_of_ble_eq_true rfl, Nat.le_of_ble_eq_true rfl⟩) (r_preV (k := h) hA hW (ci := 4) (C := RX5) (T := TX5) (N := 16) rfl rfl (p_lt hG hh (i := 0) (by decide)) (p_kd hG hh) rfl rfl) rfl rfl hl.1 rfl (lv_room (Nat.le_of_ble_eq_true rfl)) dX10_due_42 ⟨Nat.zero_le _, Nat.zero_le _⟩) (fun r42 S42 H locs hp42 hW => ?_)
            obtain ⟨hs42, rfl⟩ := hp42
            rw [hs42] at hW
            refine lv_i2l hx hb dX10_due_45 rfl ?_
            refine r_lret hx hb hr hlocks hW ?_ dX10_due_46
            refine ⟨?_, rfl⟩
            unfold fDue; rw [if_neg (by omega), if_pos (by omega)]; exact lN_of (by have := due_le (t := B 3) (b := B 1) (law := a1.toNatClampNeg) (m := a2.toNatClampNeg) b5 b3 (by omega); omega)
          · skip
            rw [t_le, show (9 : Int32).toInt = 9 from by decide] at c29
            refine lv_ldc2 (v := (-9000000000000000001)) hx hb hown q2 dX10_due_32 ?_
            refine r_lret hx hb hr hlocks hW ?_ dX10_due_35
            refine ⟨?_, rfl⟩
            unfold fDue; rw [if_neg (by omega), if_neg (by omega)]; rfl
    · skip
      refine lv_if_eq (tgt := 32) hx hb dX10_due_18 (by decide) (fun c18 => ?_) (fun c18 => ?_)
      · skip
        refine lv_ldc2 (v := (-9000000000000000001)) hx hb hown q2 dX10_due_32 ?_
        refine r_lret hx hb hr hlocks hW ?_ dX10_due_35
        refine ⟨?_, rfl⟩
        unfold fDue; rw [if_neg (by omega), if_neg (by omega)]; rfl
      · exact absurd (by decide) c18
  · skip
    have hs0 : B 132 = 0 := by
      rcases hB with z | z
      · exact z.1
      · rw [z.1] at c7; exact absurd c7 (by decide)
    refine lv_ldc2 (v := (-9000000000000000002)) hx hb hown q3 dX10_due_10 ?_
    refine r_lret hx hb hr hlocks hW ?_ dX10_due_13
    refine ⟨?_, rfl⟩
    unfold fDue; rw [if_pos hs0]; rfl

def rmX10_party : Jvm.Room := { frames := 1, cells := 0, slots := 0, locals := 21 }
set_option maxHeartbeats 4000000 in
set_option maxRecDepth 100000 in
theorem t_X10_party (l : Launch) (D : Dc) (G : Gg) (S : Sg) (z : Nat) (hG : GrG G) (hP : GrP G S) (h : Nat) (hh : PassR h) (hH : gp S 0 7 = some (gA G h)) (B : Nat → Nat) (c : Nat) (hB : BP B c) (hc : c < 100000) (hR : RP G S h B) (a1 a2 : Int32) : ML l yX10_party wsX10_party rmX10_party D G S z [.ref (gA G 0), .int a1, .int a2] (fun r S' => r = fParty B a1 a2 ∧ S' = S) := by
  refine Met.ofW (cc := cX10_party) (maxL := 4) (ret := (some .long)) (by decide +kernel) rfl ?_
  intro pP eE s mM args bl mT cD s₁ bD hml hv
  obtain ⟨rfl, hv⟩ := hv
  have hz := hv.1
  subst hz
  have hx := bD.exec
  have hb := bD.bytes
  have hr := bD.returns
  have hts := atoms_spec (ws := wsX10_party) bD.pre
  have hown : s.vm.findClass RX10 = some mM.cls := findClass_of_methodNamed bD.named
  have hlocks := bD.notSynchronized
  have hW := Wd.start hv
  have hA : ∀ q, s.heap.size ≤ q → AW G s.heap.size q := fun q h => Or.inr h
  have hl := lv_entry ([.ref (gA G 0), .int a1, .int a2]) (n := 4) (Nat.le_of_ble_eq_true rfl)
  rw [lg_entry_eq]
  generalize (lg_sl ([.ref (gA G 0), .int a1, .int a2]) ++ List.replicate (4 - (lg_sl ([.ref (gA G 0), .int a1, .int a2])).length) Slot.unset).toArray = ls at hl ⊢
  have hl : lv_has ls 4 [(0, .ref (gA G 0)), (1, .int a1), (2, .int a2)] := hl
  have q0 := hts (.fieldLink RX10 49 "WoodForTwo" "here" "LWoodForTwo$Pass;") (List.mem_of_getElem? (i := 1) rfl)
  have q1 := hts (.constantLong RX10 66 (-9000000000000000001)) (List.mem_of_getElem? (i := 2) rfl)
  have q2 := hts (.fieldLink RX10 149 "WoodForTwo$Party" "heads" "I") (List.mem_of_getElem? (i := 3) rfl)
  have q3 := hts (.fieldLink RX10 154 "WoodForTwo$Party" "toil" "I") (List.mem_of_getElem? (i := 4) rfl)
  have q4 := hts (.fieldLink RX10 157 "WoodForTwo$Pass" "slept" "[I") (List.mem_of_getElem? (i := 5) rfl)
  have q5 := hts (.fieldLink RX10 160 "WoodForTwo$Pass" "froze" "[I") (List.mem_of_getElem? (i := 6) rfl)
  have q6 := hts (.fieldLink RX10 163 "WoodForTwo$Pass" "left" "[I") (List.mem_of_getElem? (i := 7) rfl)
  have q7 := hts (.fieldLink RX10 166 "WoodForTwo$Pass" "lacked" "[I") (List.mem_of_getElem? (i := 8) rfl)
  have iX10 : ∀ w ∈ wsX100, w ∈ wsX10_party := fun _ h => List.mem_cons_of_mem _ (List.mem_append_left _ (List.mem_append_left _ (List.mem_append_left _ (List.mem_append_left _ (List.mem_append_left _ (List.mem_append_left _ (List.mem_append_right _ (h))))))))
  have iX1 : ∀ w ∈ wsX10, w ∈ wsX10_party := fun _ h => List.mem_cons_of_mem _ (List.mem_append_left _ (List.mem_append_left _ (List.mem_append_left _ (List.mem_append_left _ (List.mem_append_left _ (List.mem_append_right _ (h)))))))
  have iX2 : ∀ w ∈ wsX20, w ∈ wsX10_party := fun _ h => List.mem_cons_of_mem _ (List.mem_append_left _ (List.mem_append_left _ (List.mem_append_left _ (List.mem_append_left _ (List.mem_append_right _ (h))))))
  have iX3 : ∀ w ∈ wsX30, w ∈ wsX10_party := fun _ h => List.mem_cons_of_mem _ (List.mem_append_left _ (List.mem_append_left _ (List.mem_append_left _ (List.mem_append_right _ (h)))))
  have iX7 : ∀ w ∈ wsX70, w ∈ wsX10_party := fun _ h => List.mem_cons_of_mem _ (List.mem_append_left _ (List.mem_append_left _ (List.mem_append_right _ (h))))
  have iX9 : ∀ w ∈ wsX90, w ∈ wsX10_party := fun _ h => List.mem_cons_of_mem _ (List.mem_append_left _ (List.mem_append_right _ (h)))
  have iX5 : ∀ w ∈ wsX50, w ∈ wsX10_party := fun _ h => List.mem_cons_of_mem _ (List.mem_append_right _ (h))
  have h17 : B 17 ≤ 16 := by rcases hB with z | z; (rw [z.2 17]; omega); exact z.2.2.2.2.2.2.2.2.1
  refine lv_aload_n hx hb dX10_party_0 rfl (lv_at hl 0 rfl) ?_
  refine r_getr (ci := 9) (C := RX10) (T := TX10) (N := 10) hx hb hts iX10 hown hW rfl 0 7 rfl (g_lt hG (by decide)) (g_kd hG (by decide) rfl) (by decide) q0 (fun _ h9 => h9) hH rfl rfl dX10_party_1 ?_
  refine lv_iload_n hx hb dX10_party_4 rfl (lv_at hl 1 rfl) ?_
  refine r_callq hW hA (va_runV (As := [.int a1]) (rest := []) ⟨hx, hb, hml, hown, hts⟩ (t_X5_partyAt l D G S _ hG hP h hh B h17 hR.1.2.2.2.2.2.2.1 hR.2.2.2.1 a1) (cwV 1 hts gX10_party_X5_partyAt rfl rfl rfl (by decide +kernel) ⟨Nat.le_of_ble_eq_true rfl, Nat.le_of_ble_eq_true rfl⟩) (r_preV (k := h) hA hW (ci := 4) (C := RX5) (T := TX5) (N := 16) rfl rfl (p_lt hG hh (i := 0) (by decide)) (p_kd hG hh) rfl rfl) rfl rfl hl.1 rfl (lv_room (Nat.le_of_ble_eq_true rfl)) dX10_party_5 ⟨Nat.zero_le _, Nat.zero_le _⟩) (fun r5 S5 H locs hp5 hW => ?_)
  obtain ⟨hs5, hp5⟩ := hp5
  rw [hs5] at hW
  rcases hp5 with ⟨p, q, hp1, ep, rfl, hq1, hq2, hq3, hq4⟩ | ⟨rfl, hno⟩
  · subst ep
    have hp31 : p < 2147483648 := by omega
    have epI : (nI p).toInt = p := n_toInt hp31
    have epN : (nI p).toNatClampNeg = p := n_clamp hp31
    have hB1 : BP1 B c := hB.resolve_left (fun z => by rw [z.2 17] at hp1; omega)
    obtain ⟨b0, b1, b2, b3, b4, b5, b6, b7, b8, b9, b10, b11, b12⟩ := id hB1
    have b12p := b12 p (by omega)
    refine W.eq (g2 := F0 mM 8 ls [.ref (gA G q)]) rfl ?_
    refine lv_astore_n (lv' := [(3, .ref (gA G q)), (0, .ref (gA G 0)), (1, .int (nI p)), (2, .int a2)]) hx hb dX10_party_8 rfl hl (by decide) rfl (fun ls hl => ?_)
    refine lv_aload_n hx hb dX10_party_9 rfl (lv_at hl 0 rfl) ?_
    refine lv_ifnonnull (tgt := 17) hx hb dX10_party_10 (by decide) ?_
    refine lv_iload_n hx hb dX10_party_17 rfl (lv_at hl 3 rfl) ?_
    rcases (show ((a2).toInt < 0 ∨ 5 < (a2).toInt) ∨ (a2).toInt = 0 ∨ (a2).toInt = 1 ∨ (a2).toInt = 2 ∨ (a2).toInt = 3 ∨ (a2).toInt = 4 ∨ (a2).toInt = 5 by omega) with k18 | k18 | k18 | k18 | k18 | k18 | k18
    · refine lv_tableOut (tgt := 112) hx hb dX10_party_18 k18 (by decide) ?_
      refine lv_ldc2 (v := (-9000000000000000001)) hx hb hown q1 dX10_party_112 ?_
      refine r_lret hx hb hr hlocks hW ?_ dX10_party_115
      refine ⟨?_, rfl⟩
      unfold fParty; rw [if_neg (by omega)]; rfl
    · refine lv_tableIn (off := 38) (tgt := 56) hx hb dX10_party_18 (by omega) (by omega) (by rw [k18]; rfl) (by decide) ?_
      refine lv_aload_n hx hb dX10_party_56 rfl (lv_at hl 0 rfl) ?_
      refine r_getP1 hx hb hts iX1 iX2 iX3 iX7 iX9 hown hW q rfl hq2 (kdF_P hq4.1) q2 (nI (B (18 + p))) hq4.2.2.1 dX10_party_57 ?_
      refine lv_i2l hx hb dX10_party_60 rfl ?_
      refine r_lret hx hb hr hlocks hW ?_ dX10_party_61
      refine ⟨?_, rfl⟩
      unfold fParty; rw [if_pos (by omega), epN, if_pos (by omega)]; exact lN_of (by have := (b9 p hp1).2.1; omega)
    · refine lv_tableIn (off := 44) (tgt := 62) hx hb dX10_party_18 (by omega) (by omega) (by rw [k18]; rfl) (by decide) ?_
      refine lv_aload_n hx hb dX10_party_62 rfl (lv_at hl 0 rfl) ?_
      refine r_getP2 hx hb hts iX1 iX2 iX3 iX7 iX9 hown hW q rfl hq2 (kdF_P hq4.1) q3 (nI (B (50 + p))) hq4.2.2.2 dX10_party_63 ?_
      refine lv_i2l hx hb dX10_party_66 rfl ?_
      refine r_lret hx hb hr hlocks hW ?_ dX10_party_67
      refine ⟨?_, rfl⟩
      unfold fParty; rw [if_pos (by omega), epN, if_neg (by omega), if_pos (by omega)]; exact lN_of (by have := (b9 p hp1).2.2.2; omega)
    · refine lv_tableIn (off := 50) (tgt := 68) hx hb dX10_party_18 (by omega) (by omega) (by rw [k18]; rfl) (by decide) ?_
      refine lv_aload_n hx hb dX10_party_68 rfl (lv_at hl 1 rfl) ?_
      refine r_getr (ci := 9) (C := RX10) (T := TX10) (N := 10) hx hb hts iX10 hown hW rfl 0 7 rfl (g_lt hG (by decide)) (g_kd hG (by decide) rfl) (by decide) q0 (fun _ h9 => h9) hH rfl rfl dX10_party_69 ?_
      refine r_getr (ci := 4) (C := RX5) (T := TX5) (N := 16) hx hb hts iX5 hown hW rfl h 11 rfl (p_lt hG hh (i := 0) (by decide)) (p_kd hG hh) (by decide) q4 (fun _ h9 => h9) (p_lk hP hh 2 (by decide)) rfl rfl dX10_party_72 ?_
      refine lv_iload_n hx hb dX10_party_75 rfl (lv_at hl 2 rfl) ?_
      refine r_iald hx hb hW (h + 3) rfl (p_lt hG hh (i := 3) (by decide)) (p_kdA hG hh 3 (by decide) (by decide)) (by rw [p_z16 hG hh 3 (by decide) (by decide)]; exact n_inI (by omega) (by decide)) (nI (B (66 + p))) (by rw [epN]; exact (hR.2.2.1 p (by omega)).1) dX10_party_76 ?_
      refine lv_i2l hx hb dX10_party_77 rfl ?_
      refine r_lret hx hb hr hlocks hW ?_ dX10_party_78
      refine ⟨?_, rfl⟩
      unfold fParty; rw [if_pos (by omega), epN, if_neg (by omega), if_neg (by omega), if_pos (by omega)]; exact lN_of (by have := b12p.1; omega)
    · refine lv_tableIn (off := 61) (tgt := 79) hx hb dX10_party_18 (by omega) (by omega) (by rw [k18]; rfl) (by decide) ?_
      refine lv_aload_n hx hb dX10_party_79 rfl (lv_at hl 1 rfl) ?_
      refine r_getr (ci := 9) (C := RX10) (T := TX10) (N := 10) hx hb hts iX10 hown hW rfl 0 7 rfl (g_lt hG (by decide)) (g_kd hG (by decide) rfl) (by decide) q0 (fun _ h9 => h9) hH rfl rfl dX10_party_80 ?_
      refine r_getr (ci := 4) (C := RX5) (T := TX5) (N := 16) hx hb hts iX5 hown hW rfl h 12 rfl (p_lt hG hh (i := 0) (by decide)) (p_kd hG hh) (by decide) q5 (fun _ h9 => h9) (p_lk hP hh 3 (by decide)) rfl rfl dX10_party_83 ?_
      refine lv_iload_n hx hb dX10_party_86 rfl (lv_at hl 2 rfl) ?_
      refine r_iald hx hb hW (h + 4) rfl (p_lt hG hh (i := 4) (by decide)) (p_kdA hG hh 4 (by decide) (by decide)) (by rw [p_z16 hG hh 4 (by decide) (by decide)]; exact n_inI (by omega) (by decide)) (nI (B (82 + p))) (by rw [epN]; exact (hR.2.2.1 p (by omega)).2.1) dX10_party_87 ?_
      refine lv_i2l hx hb dX10_party_88 rfl ?_
      refine r_lret hx hb hr hlocks hW ?_ dX10_party_89
      refine ⟨?_, rfl⟩
      unfold fParty; rw [if_pos (by omega), epN, if_neg (by omega), if_neg (by omega), if_neg (by omega), if_pos (by omega)]; exact lN_of (by have := b12p.2.1; omega)
    · refine lv_tableIn (off := 72) (tgt := 90) hx hb dX10_party_18 (by omega) (by omega) (by rw [k18]; rfl) (by decide) ?_
      refine lv_aload_n hx hb dX10_party_90 rfl (lv_at hl 1 rfl) ?_
      refine r_getr (ci := 9) (C := RX10) (T := TX10) (N := 10) hx hb hts iX10 hown hW rfl 0 7 rfl (g_lt hG (by decide)) (g_kd hG (by decide) rfl) (by decide) q0 (fun _ h9 => h9) hH rfl rfl dX10_party_91 ?_
      refine r_getr (ci := 4) (C := RX5) (T := TX5) (N := 16) hx hb hts iX5 hown hW rfl h 13 rfl (p_lt hG hh (i := 0) (by decide)) (p_kd hG hh) (by decide) q6 (fun _ h9 => h9) (p_lk hP hh 4 (by decide)) rfl rfl dX10_party_94 ?_
      refine lv_iload_n hx hb dX10_party_97 rfl (lv_at hl 2 rfl) ?_
      refine r_iald hx hb hW (h + 5) rfl (p_lt hG hh (i := 5) (by decide)) (p_kdA hG hh 5 (by decide) (by decide)) (by rw [p_z16 hG hh 5 (by decide) (by decide)]; exact n_inI (by omega) (by decide)) (nI (B (98 + p))) (by rw [epN]; exact (hR.2.2.1 p (by omega)).2.2.1) dX10_party_98 ?_
      refine lv_i2l hx hb dX10_party_99 rfl ?_
      refine r_lret hx hb hr hlocks hW ?_ dX10_party_100
      refine ⟨?_, rfl⟩
      unfold fParty; rw [if_pos (by omega), epN, if_neg (by omega), if_neg (by omega), if_neg (by omega), if_neg (by omega), if_pos (by omega)]; exact lN_of (by have := b12p.2.2.1; omega)
    · refine lv_tableIn (off := 83) (tgt := 101) hx hb dX10_party_18 (by omega) (by omega) (by rw [k18]; rfl) (by decide) ?_
      refine lv_aload_n hx hb dX10_party_101 rfl (lv_at hl 1 rfl) ?_
      refine r_getr (ci := 9) (C := RX10) (T := TX10) (N := 10) hx hb hts iX10 hown hW rfl 0 7 rfl (g_lt hG (by decide)) (g_kd hG (by decide) rfl) (by decide) q0 (fun _ h9 => h9) hH rfl rfl dX10_party_102 ?_
      refine r_getr (ci := 4) (C := RX5) (T := TX5) (N := 16) hx hb hts iX5 hown hW rfl h 14 rfl (p_lt hG hh (i := 0) (by decide)) (p_kd hG hh) (by decide) q7 (fun _ h9 => h9) (p_lk hP hh 5 (by decide)) rfl rfl dX10_party_105 ?_
      refine lv_iload_n hx hb dX10_party_108 rfl (lv_at hl 2 rfl) ?_
      refine r_iald hx hb hW (h + 6) rfl (p_lt hG hh (i := 6) (by decide)) (p_kdA hG hh 6 (by decide) (by decide)) (by rw [p_z16 hG hh 6 (by decide) (by decide)]; exact n_inI (by omega) (by decide)) (nI (B (114 + p))) (by rw [epN]; exact (hR.2.2.1 p (by omega)).2.2.2) dX10_party_109 ?_
      refine lv_i2l hx hb dX10_party_110 rfl ?_
      refine r_lret hx hb hr hlocks hW ?_ dX10_party_111
      refine ⟨?_, rfl⟩
      unfold fParty; rw [if_pos (by omega), epN, if_neg (by omega), if_neg (by omega), if_neg (by omega), if_neg (by omega), if_neg (by omega)]; exact lN_of (by have := b12p.2.2.2; omega)
  · skip
    refine W.eq (g2 := F0 mM 8 ls [.null]) rfl ?_
    refine lv_astore_nN (lv' := [(3, .null), (0, .ref (gA G 0)), (1, .int a1), (2, .int a2)]) hx hb dX10_party_8 rfl hl (by decide) rfl (fun ls hl => ?_)
    refine lv_aload_nN hx hb dX10_party_9 rfl (lv_at hl 0 rfl) ?_
    refine lv_ifnonnullN hx hb dX10_party_10 ?_
    refine lv_ldc2 (v := (-9000000000000000001)) hx hb hown q1 dX10_party_13 ?_
    refine r_lret hx hb hr hlocks hW ?_ dX10_party_16
    refine ⟨?_, rfl⟩
    unfold fParty; rw [if_neg (by omega)]; rfl
