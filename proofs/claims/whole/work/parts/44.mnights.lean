/-- the model's pass after a call -/
def RMw (S S' : Sg) (B' : Nat → Nat) : Prop := (∀ k, k < 140 → gj S' 66 k = lN (B' k)) ∧ (∀ k, 140 ≤ k → gj S' 66 k = gj S 66 k) ∧ Ch (fun k => k = 66) S S'
theorem RMw.rf {S : Sg} {B : Nat → Nat} (hM : ∀ k, k < 140 → gj S 66 k = lN (B k)) : RMw S S B := ⟨hM, fun _ _ => rfl, Ch.rf⟩
def rmX11_night : Jvm.Room := { frames := 2, cells := 0, slots := 0, locals := 54 }
set_option maxHeartbeats 4000000 in
set_option maxRecDepth 100000 in
theorem t_X11_night (l : Launch) (D : Dc) (G : Gg) (S : Sg) (z : Nat) (hG : GrG G) (hP : GrP G S) (B : Nat → Nat) (c : Nat) (hB : BP B c) (hc : c < 100000) (hM : ∀ k, k < 140 → gj S 66 k = lN (B k)) (a1 : Int32) : ML l yX11_night wsX11_night rmX11_night D G S z [.ref (gA G 65), .int a1] (fun r S' => r = (fNight B a1).1 ∧ RMw S S' (fNight B a1).2) := by
  refine Met.ofW (cc := cX11_night) (maxL := 2) (ret := (some .long)) (by decide +kernel) rfl ?_
  intro pP eE s mM args bl mT cD s₁ bD hml hv
  obtain ⟨rfl, hv⟩ := hv
  have hz := hv.1
  subst hz
  have hx := bD.exec
  have hb := bD.bytes
  have hr := bD.returns
  have hts := atoms_spec (ws := wsX11_night) bD.pre
  have hown : s.vm.findClass RX11 = some mM.cls := findClass_of_methodNamed bD.named
  have hlocks := bD.notSynchronized
  have hW := Wd.start hv
  have hA : ∀ q, s.heap.size ≤ q → AW G s.heap.size q := fun q h => Or.inr h
  have hl := lv_entry ([.ref (gA G 65), .int a1]) (n := 2) (Nat.le_of_ble_eq_true rfl)
  rw [lg_entry_eq]
  generalize (lg_sl ([.ref (gA G 65), .int a1]) ++ List.replicate (2 - (lg_sl ([.ref (gA G 65), .int a1])).length) Slot.unset).toArray = ls at hl ⊢
  have hl : lv_has ls 2 [(0, .ref (gA G 65)), (1, .int a1)] := hl
  have q0 := hts (.constantLong RX11 56 (-9000000000000000001)) (List.mem_of_getElem? (i := 1) rfl)
  have hbp := BP_b hB
  refine lv_aload_n hx hb dX11_night_0 rfl (lv_at hl 0 rfl) ?_
  refine lv_iload_n hx hb dX11_night_1 rfl (lv_at hl 1 rfl) ?_
  refine lv_i2l hx hb dX11_night_2 rfl ?_
  refine r_calli hW hA (va_runV (As := [.long (Int32.toInt64 a1)]) (rest := []) ⟨hx, hb, hml, hown, hts⟩ (t_X11_isParty l D G S _ hG hP B c hB hc hM (Int32.toInt64 a1) (a1).toInt (Int32.toInt_toInt64 _)) (cwV 1 hts gX11_night_X11_isParty rfl rfl rfl (by decide +kernel) ⟨Nat.le_of_ble_eq_true rfl, Nat.le_of_ble_eq_true rfl⟩) (r_preV (k := 65) hA hW (ci := 10) (C := RX11) (T := TX11) (N := 20) rfl rfl (g_lt hG (by decide)) (g_kd hG (by decide) rfl) rfl rfl) rfl rfl hl.1 rfl (lv_room (Nat.le_of_ble_eq_true rfl)) dX11_night_3 ⟨Nat.zero_le _, Nat.zero_le _⟩) (fun r3 S3 H locs hp3 hW => ?_)
  obtain ⟨hs3, hp3⟩ := hp3
  rw [hs3] at hW
  rcases hp3 with ⟨rfl, h3⟩ | ⟨rfl, h3⟩
  · skip
    refine lv_if_eq (tgt := 18) hx hb dX11_night_6 (by decide) (fun c6 => ?_) (fun c6 => ?_)
    · exact absurd c6 (by decide)
    · skip
      have hn_a1 := n_nat (x := a1) (by omega)
      have e_a1 := n_nI (x := a1) (by omega)
      have hB1 : BP1 B c := hB.resolve_left (fun z => by have z9 := z.2 17; omega)
      refine lv_aload_n hx hb dX11_night_9 rfl (lv_at hl 0 rfl) ?_
      refine lv_iload_n hx hb dX11_night_10 rfl (lv_at hl 1 rfl) ?_
      refine W.eq (g2 := F0 mM 11 ls [.int (nI a1.toNatClampNeg), .ref (gA G 65)]) (by rw [← e_a1]) ?_
      refine r_calli hW hA (va_runV (As := [.int (nI a1.toNatClampNeg)]) (rest := []) ⟨hx, hb, hml, hown, hts⟩ (t_X11_sleep l D G S _ hG hP B (c) hB1 hc hM (a1.toNatClampNeg) (by omega)) (cwV 1 hts gX11_night_X11_sleep rfl rfl rfl (by decide +kernel) ⟨Nat.le_of_ble_eq_true rfl, Nat.le_of_ble_eq_true rfl⟩) (r_preV (k := 65) hA hW (ci := 10) (C := RX11) (T := TX11) (N := 20) rfl rfl (g_lt hG (by decide)) (g_kd hG (by decide) rfl) rfl rfl) rfl rfl hl.1 rfl (lv_room (Nat.le_of_ble_eq_true rfl)) dX11_night_11 ⟨Nat.zero_le _, Nat.zero_le _⟩) (fun r11 S11 H locs hp11 hW => ?_)
      obtain ⟨rfl, rw11, hs11, hk11, hg11⟩ := hp11
      rw [hs11] at hW
      have hF9 := slF_le (B := B) (p := a1.toNatClampNeg) hB1.2.2.1 (hB1.2.2.2.2.2.2.2.2.2.1 a1.toNatClampNeg (by omega)).2.1
      refine lv_i2l hx hb dX11_night_14 rfl ?_
      rw [show (Int32.toInt64 (nI (slF B (a1.toNatClampNeg))) : Int64) = lN (slF B (a1.toNatClampNeg)) from lN_of (by omega)]
      refine lv_goto (tgt := 21) hx hb dX11_night_15 (by decide) ?_
      refine r_lret hx hb hr hlocks hW ?_ dX11_night_21
      have e : fNight B a1 = (lN (slF B a1.toNatClampNeg), slB B a1.toNatClampNeg) := by unfold fNight; rw [if_pos h3]
      rw [e]
      exact ⟨rfl, fun k hk => (congrFun (e_js _ _ _) k).trans (hk11 k hk), fun k hk => (congrFun (e_js _ _ _) k).trans (hg11 k hk), Ch.rj Ch.rf rfl⟩
  · skip
    refine lv_if_eq (tgt := 18) hx hb dX11_night_6 (by decide) (fun c6 => ?_) (fun c6 => ?_)
    · skip
      refine lv_ldc2 (v := (-9000000000000000001)) hx hb hown q0 dX11_night_18 ?_
      refine r_lret hx hb hr hlocks hW ?_ dX11_night_21
      have e : fNight B a1 = (BADL, B) := by unfold fNight; rw [if_neg h3]
      rw [e]
      exact ⟨rfl, RMw.rf hM⟩
    · exact absurd (by decide) c6

def rmX11_nights : Jvm.Room := { frames := 2, cells := 0, slots := 0, locals := 54 }
set_option maxHeartbeats 4000000 in
set_option maxRecDepth 100000 in
theorem t_X11_nights (l : Launch) (D : Dc) (G : Gg) (S : Sg) (z : Nat) (hG : GrG G) (hP : GrP G S) (B : Nat → Nat) (c : Nat) (hB : BP B c) (hc : c < 90000) (hM : ∀ k, k < 140 → gj S 66 k = lN (B k)) (it : Nat → Nat → Int32) (la le : Nat → Int32) (hRX : RowsM S it la le) (hL : LeOK le) (st : Int32) (hst : gi S 65 4 = st) (a1 a2 a3 : Int32) : ML l yX11_nights wsX11_nights rmX11_nights D G S z [.ref (gA G 65), .int a1, .int a2, .int a3] (fun r S' => r = (fNights B it le st a1 a2 a3).1 ∧ (∀ k, k < 140 → gj S' 66 k = lN ((fNights B it le st a1 a2 a3).2.1 k)) ∧ (∀ k, 140 ≤ k → gj S' 66 k = gj S 66 k) ∧ gi S' 65 4 = (fNights B it le st a1 a2 a3).2.2 ∧ Ch (fun k => k = 65 ∨ k = 66) S S') := by
  refine Met.ofW (cc := cX11_nights) (maxL := 7) (ret := (some .long)) (by decide +kernel) rfl ?_
  intro pP eE s mM args bl mT cD s₁ bD hml hv
  obtain ⟨rfl, hv⟩ := hv
  have hz := hv.1
  subst hz
  have hx := bD.exec
  have hb := bD.bytes
  have hr := bD.returns
  have hts := atoms_spec (ws := wsX11_nights) bD.pre
  have hown : s.vm.findClass RX11 = some mM.cls := findClass_of_methodNamed bD.named
  have hlocks := bD.notSynchronized
  have hW := Wd.start hv
  have hA : ∀ q, s.heap.size ≤ q → AW G s.heap.size q := fun q h => Or.inr h
  have hl := lv_entry ([.ref (gA G 65), .int a1, .int a2, .int a3]) (n := 7) (Nat.le_of_ble_eq_true rfl)
  rw [lg_entry_eq]
  generalize (lg_sl ([.ref (gA G 65), .int a1, .int a2, .int a3]) ++ List.replicate (7 - (lg_sl ([.ref (gA G 65), .int a1, .int a2, .int a3])).length) Slot.unset).toArray = ls at hl ⊢
  have hl : lv_has ls 7 [(0, .ref (gA G 65)), (1, .int a1), (2, .int a2), (3, .int a3)] := hl
  have q0 := hts (.constantLong RX11 178 (-9000000000000000002)) (List.mem_of_getElem? (i := 1) rfl)
  have q1 := hts (.constantLong RX11 180 (40)) (List.mem_of_getElem? (i := 2) rfl)
  have q2 := hts (.fieldLink RX11 20 "WoodForTwoModel" "length" "[I") (List.mem_of_getElem? (i := 4) rfl)
  have q3 := hts (.fieldLink RX11 13 "WoodForTwoModel" "items" "[I") (List.mem_of_getElem? (i := 5) rfl)
  have q4 := hts (.constantLong RX11 56 (-9000000000000000001)) (List.mem_of_getElem? (i := 3) rfl)
  have iX11 : ∀ w ∈ wsX110, w ∈ wsX11_nights := fun _ h => List.mem_cons_of_mem _ (List.mem_append_right _ (h))
  generalize hQ0 : MQ bl _ _ s _ _ _ = Q0
  have hbp := BP_b hB
  obtain ⟨f, hf⟩ : ∃ f : Nat → Nat, f = (fun k => (it a1.toNatClampNeg (a2.toNatClampNeg + k)).toNatClampNeg) := ⟨_, rfl⟩
  refine lv_aload_n hx hb dX11_nights_0 rfl (lv_at hl 0 rfl) ?_
  refine r_calli hW hA (va_runV (As := []) (rest := []) ⟨hx, hb, hml, hown, hts⟩ (t_X11_isNone l D G S _ hG hP B c hB (by omega) hM) (cwV 0 hts gX11_nights_X11_isNone rfl rfl rfl (by decide +kernel) ⟨Nat.le_of_ble_eq_true rfl, Nat.le_of_ble_eq_true rfl⟩) (r_preV (k := 65) hA hW (ci := 10) (C := RX11) (T := TX11) (N := 20) rfl rfl (g_lt hG (by decide)) (g_kd hG (by decide) rfl) rfl rfl) rfl rfl hl.1 rfl (lv_room (Nat.le_of_ble_eq_true rfl)) dX11_nights_1 ⟨Nat.zero_le _, Nat.zero_le _⟩) (fun r1 S1 H locs hp1 hW => ?_)
  obtain ⟨hs1, hp1⟩ := hp1
  rw [hs1] at hW
  rcases hp1 with ⟨rfl, h1⟩ | ⟨rfl, h1⟩
  · skip
    refine lv_if_eq (tgt := 11) hx hb dX11_nights_4 (by decide) (fun c4 => ?_) (fun c4 => ?_)
    · exact absurd c4 (by decide)
    · skip
      refine lv_ldc2 (v := (-9000000000000000002)) hx hb hown q0 dX11_nights_7 ?_
      rw [← hQ0]
      refine r_lret hx hb hr hlocks hW ?_ dX11_nights_10
      have e : fNights B it le st a1 a2 a3 = (STATEL, B, st) := by unfold fNights; rw [if_pos h1]
      rw [e]
      exact ⟨rfl, hM, fun _ _ => rfl, hst, Ch.rf⟩
  · skip
    refine lv_if_eq (tgt := 11) hx hb dX11_nights_4 (by decide) (fun c4 => ?_) (fun c4 => ?_)
    · skip
      refine lv_aload_n hx hb dX11_nights_11 rfl (lv_at hl 0 rfl) ?_
      refine lv_iload_n hx hb dX11_nights_12 rfl (lv_at hl 1 rfl) ?_
      refine r_calli hW hA (va_runV (As := [.int a1]) (rest := []) ⟨hx, hb, hml, hown, hts⟩ (t_X11_isRow l D G S _ hG hP a1) (cwV 1 hts gX11_nights_X11_isRow rfl rfl rfl (by decide +kernel) ⟨Nat.le_of_ble_eq_true rfl, Nat.le_of_ble_eq_true rfl⟩) (r_preV (k := 65) hA hW (ci := 10) (C := RX11) (T := TX11) (N := 20) rfl rfl (g_lt hG (by decide)) (g_kd hG (by decide) rfl) rfl rfl) rfl rfl hl.1 rfl (lv_room (Nat.le_of_ble_eq_true rfl)) dX11_nights_13 ⟨Nat.zero_le _, Nat.zero_le _⟩) (fun r13 S13 H locs hp13 hW => ?_)
      obtain ⟨hs13, hp13⟩ := hp13
      rw [hs13] at hW
      rcases hp13 with ⟨rfl, h13⟩ | ⟨rfl, h13⟩
      · skip
        refine lv_if_eq (tgt := 31) hx hb dX11_nights_16 (by decide) (fun c16 => ?_) (fun c16 => ?_)
        · exact absurd c16 (by decide)
        · skip
          refine lv_iload_n hx hb dX11_nights_19 rfl (lv_at hl 3 rfl) ?_
          refine lv_i2l hx hb dX11_nights_20 rfl ?_
          refine lv_lconst (v := 1) hx hb dX11_nights_21 (by decide) ?_
          refine lv_ldc2 (v := (40)) hx hb hown q1 dX11_nights_22 ?_
          refine r_calli hW hA (va_runS (As := [.long (Int32.toInt64 a3), .long 1, .long (40)]) (rest := []) ⟨hx, hb, hml, hown, hts⟩ (t_X11_in l D G S _ (Int32.toInt64 a3) 1 (40) (a3).toInt 1 40 (Int32.toInt_toInt64 _) (by decide) (by decide)) (va_cwS 3 hts gX11_nights_X11_in rfl rfl rfl (by decide +kernel) ⟨Nat.le_of_ble_eq_true rfl, Nat.le_of_ble_eq_true rfl⟩) (r_preS hA hW) rfl rfl hl.1 rfl (lv_room (Nat.le_of_ble_eq_true rfl)) dX11_nights_25 ⟨Nat.zero_le _, Nat.zero_le _⟩) (fun r25 S25 H locs hp25 hW => ?_)
          obtain ⟨hs25, hp25⟩ := hp25
          rw [hs25] at hW
          rcases hp25 with ⟨rfl, h25⟩ | ⟨rfl, h25⟩
          · skip
            refine lv_if_ne (tgt := 35) hx hb dX11_nights_28 (by decide) (fun c28 => ?_) (fun c28 => ?_)
            · skip
              have hn_a1 := n_nat (x := a1) (by omega)
              have e_a1 := n_nI (x := a1) (by omega)
              refine lv_aload_n hx hb dX11_nights_35 rfl (lv_at hl 0 rfl) ?_
              refine r_getr (ci := 10) (C := RX11) (T := TX11) (N := 20) hx hb hts iX11 hown hW rfl 65 3 rfl (g_lt hG (by decide)) (g_kd hG (by decide) rfl) (by decide) q2 (fun _ h9 => h9) (hP _ (List.mem_of_getElem? (i := 63) rfl)) rfl rfl dX11_nights_36 ?_
              refine lv_iload_n hx hb dX11_nights_39 rfl (lv_at hl 1 rfl) ?_
              refine r_iald hx hb hW 69 rfl (g_lt hG (by decide)) (g_kd hG (by decide) rfl) (g_ix hG (c := 8) (by decide) rfl (t_in (by omega) (by omega))) (le a1.toNatClampNeg) (hRX a1.toNatClampNeg (by omega)).2.1 dX11_nights_40 ?_
              refine lv_if_ge (tgt := 50) hx hb dX11_nights_41 (by decide) (fun c41 => ?_) (fun c41 => ?_)
              · skip
                rw [t_le, show (0 : Int32).toInt = 0 from by decide] at c41
                refine lv_iload_n hx hb dX11_nights_50 rfl (lv_at hl 2 rfl) ?_
                refine lv_iload_n hx hb dX11_nights_51 rfl (lv_at hl 3 rfl) ?_
                refine lv_aload_n hx hb dX11_nights_52 rfl (lv_at hl 0 rfl) ?_
                refine r_getr (ci := 10) (C := RX11) (T := TX11) (N := 20) hx hb hts iX11 hown hW rfl 65 3 rfl (g_lt hG (by decide)) (g_kd hG (by decide) rfl) (by decide) q2 (fun _ h9 => h9) (hP _ (List.mem_of_getElem? (i := 63) rfl)) rfl rfl dX11_nights_53 ?_
                refine lv_iload_n hx hb dX11_nights_56 rfl (lv_at hl 1 rfl) ?_
                refine r_iald hx hb hW 69 rfl (g_lt hG (by decide)) (g_kd hG (by decide) rfl) (g_ix hG (c := 8) (by decide) rfl (t_in (by omega) (by omega))) (le a1.toNatClampNeg) (hRX a1.toNatClampNeg (by omega)).2.1 dX11_nights_57 ?_
                refine r_calli hW hA (va_runS (As := [.int a2, .int a3, .int (le a1.toNatClampNeg)]) (rest := []) ⟨hx, hb, hml, hown, hts⟩ (t_X11_isWithin l D G S _ a2 a3 (le a1.toNatClampNeg)) (va_cwS 3 hts gX11_nights_X11_isWithin rfl rfl rfl (by decide +kernel) ⟨Nat.le_of_ble_eq_true rfl, Nat.le_of_ble_eq_true rfl⟩) (r_preS hA hW) rfl rfl hl.1 rfl (lv_room (Nat.le_of_ble_eq_true rfl)) dX11_nights_58 ⟨Nat.zero_le _, Nat.zero_le _⟩) (fun r58 S58 H locs hp58 hW => ?_)
                obtain ⟨hs58, hp58⟩ := hp58
                rw [hs58] at hW
                rcases hp58 with ⟨rfl, h58⟩ | ⟨rfl, h58⟩
                · skip
                  refine lv_if_ne (tgt := 70) hx hb dX11_nights_61 (by decide) (fun c61 => ?_) (fun c61 => ?_)
                  · skip
                    have hf0 : fos (le a1.toNatClampNeg) a2 a3 = 0 := by unfold fos; rw [if_neg (by omega), if_pos h58]
                    have hle_a1 := hL a1.toNatClampNeg (by omega)
                    have hn_a2 := n_nat (x := a2) (by omega)
                    have e_a2 := n_nI (x := a2) (by omega)
                    have hn_a3 := n_nat (x := a3) (by omega)
                    have e_a3 := n_nI (x := a3) (by omega)
                    refine lv_iconst (v := 0) hx hb dX11_nights_70 (by decide) ?_
                    refine lv_istore (lv' := [(4, .int 0), (0, .ref (gA G 65)), (1, .int a1), (2, .int a2), (3, .int a3)]) hx hb dX11_nights_71 hl (by decide) rfl (fun ls hl => ?_)
                    have L73 : ∀ (n : Nat) (k : Nat) (H : Heap) (locs : List Loc) (ls : Array Slot), (a3.toNatClampNeg - k) < n → k ≤ a3.toNatClampNeg → (∀ j, j < k → 0 ≤ (it a1.toNatClampNeg (a2.toNatClampNeg + j)).toInt ∧ (it a1.toNatClampNeg (a2.toNatClampNeg + j)).toInt < B 17) → Wd D (AW G s.heap.size) s G S H locs → lv_has ls 7 [(4, .int (nI k)), (0, .ref (gA G 65)), (1, .int a1), (2, .int a2), (3, .int a3)] → W pP l eE (headSpec wsX11_nights rmX11_nights).room s mM ([.ref (gA G 65), .int a1, .int a2, .int a3] : List Value).toArray bl mT cD H locs 0 0 Q0 (F0 mM 73 ls []) := by
                      intro n
                      induction n with
                      | zero => intro k H locs ls hm; exact absurd hm (Nat.not_lt_zero _)
                      | succ n ih73 =>
                        intro k H locs ls hm73 hk hall hW hl
                        refine lv_iload hx hb dX11_nights_73 (lv_at hl 0 rfl) ?_
                        refine lv_iload_n hx hb dX11_nights_75 rfl (lv_at hl 4 rfl) ?_
                        refine lv_icmp_ge (tgt := 111) hx hb dX11_nights_76 (by decide) (fun c76 => ?_) (fun c76 => ?_)
                        · skip
                          rw [t_le] at c76
                          have hka : k = a3.toNatClampNeg := by rw [n_toInt (by omega)] at c76; omega
                          subst hka
                          have hB1 : BP1 B c := hB.resolve_left (fun z => by have z9 := z.2 132; omega)
                          have hfj : ∀ j, j < a3.toNatClampNeg → f j < B 17 := by
                            intro j hj
                            have z := hall j hj
                            rw [hf]
                            have z4 := n_nat z.1
                            show (it a1.toNatClampNeg (a2.toNatClampNeg + j)).toNatClampNeg < B 17
                            omega
                          refine lv_lconst (v := 0) hx hb dX11_nights_111 (by decide) ?_
                          refine lv_lstore (lv' := [(4, .long 0), (0, .ref (gA G 65)), (1, .int a1), (2, .int a2), (3, .int a3)]) hx hb dX11_nights_112 hl (by decide) rfl (fun ls hl => ?_)
                          refine lv_iconst (v := 0) hx hb dX11_nights_114 (by decide) ?_
                          refine lv_istore (lv' := [(6, .int 0), (4, .long 0), (0, .ref (gA G 65)), (1, .int a1), (2, .int a2), (3, .int a3)]) hx hb dX11_nights_115 hl (by decide) rfl (fun ls hl => ?_)
                          have L117 : ∀ (n : Nat) (k : Nat) (T : Sg) (H : Heap) (locs : List Loc) (ls : Array Slot), (a3.toNatClampNeg - k) < n → k ≤ a3.toNatClampNeg → (∀ i, i < 140 → gj T 66 i = lN (ntB B f k i)) → (∀ i, 140 ≤ i → gj T 66 i = gj S 66 i) → Ch (fun j => j = 66) S T → Wd D (AW G s.heap.size) s G T H locs → lv_has ls 7 [(6, .int (nI k)), (4, .long (lN (ntS B f k))), (0, .ref (gA G 65)), (1, .int a1), (2, .int a2), (3, .int a3)] → W pP l eE (headSpec wsX11_nights rmX11_nights).room s mM ([.ref (gA G 65), .int a1, .int a2, .int a3] : List Value).toArray bl mT cD H locs 0 0 Q0 (F0 mM 117 ls []) := by
                            intro n
                            induction n with
                            | zero => intro k T H locs ls hm; exact absurd hm (Nat.not_lt_zero _)
                            | succ n ih117 =>
                              intro k T H locs ls hm117 hk hMT hGT hCT hW hl
                              have hP_T : GrP G T := fun q hq => by rw [hCT.1]; exact hP q hq
                              refine lv_iload hx hb dX11_nights_117 (lv_at hl 0 rfl) ?_
                              refine lv_iload_n hx hb dX11_nights_119 rfl (lv_at hl 5 rfl) ?_
                              refine lv_icmp_ge (tgt := 153) hx hb dX11_nights_120 (by decide) (fun c120 => ?_) (fun c120 => ?_)
                              · skip
                                rw [t_le] at c120
                                have hka : k = a3.toNatClampNeg := by rw [n_toInt (by omega)] at c120; omega
                                refine lv_aload_n hx hb dX11_nights_153 rfl (lv_at hl 2 rfl) ?_
                                refine lv_lload hx hb dX11_nights_154 (lv_at hl 1 rfl) ?_
                                refine r_calll hW hA (va_runV (As := [.long (lN (ntS B f k))]) (rest := []) ⟨hx, hb, hml, hown, hts⟩ (t_X11_good l D G T _ hG hP_T (lN (ntS B f k))) (cwV 1 hts gX11_nights_X11_good rfl rfl rfl (by decide +kernel) ⟨Nat.le_of_ble_eq_true rfl, Nat.le_of_ble_eq_true rfl⟩) (r_preV (k := 65) hA hW (ci := 10) (C := RX11) (T := TX11) (N := 20) rfl rfl (g_lt hG (by decide)) (g_kd hG (by decide) rfl) rfl rfl) rfl rfl hl.1 rfl (lv_room (Nat.le_of_ble_eq_true rfl)) dX11_nights_156 ⟨Nat.zero_le _, Nat.zero_le _⟩) (fun r156 S156 H locs hp156 hW => ?_)
                                obtain ⟨hs156, rfl⟩ := hp156
                                rw [hs156] at hW
                                rw [← hQ0]
                                refine r_lret hx hb hr hlocks hW ?_ dX11_nights_159
                                have e : fNights B it le st a1 a2 a3 = (lN (ntS B f k), ntB B f k, 0) := by unfold fNights; rw [if_neg (by omega), if_pos (by omega), if_pos hf0, if_pos hall, ← hf, hka]
                                rw [e]
                                exact ⟨rfl, fun i hi => hMT i hi, fun i hi => hGT i hi, congrFun (e_is _ _ _) 4, Ch.ri (Ch.mono hCT (fun j hj => Or.inr hj)) (Or.inl rfl)⟩
                              · skip
                                rw [t_le] at c120
                                have hkl : k < a3.toNatClampNeg := by rw [n_toInt (by omega)] at c120; omega
                                obtain ⟨hBT, h17T, hST⟩ := ntB_ok hB1 k (fun j hj => hfj j (by omega))
                                refine lv_lload hx hb dX11_nights_123 (lv_at hl 1 rfl) ?_
                                refine lv_aload_n hx hb dX11_nights_125 rfl (lv_at hl 2 rfl) ?_
                                refine lv_aload_n hx hb dX11_nights_126 rfl (lv_at hl 2 rfl) ?_
                                refine r_getr (ci := 10) (C := RX11) (T := TX11) (N := 20) hx hb hts iX11 hown hW rfl 65 1 rfl (g_lt hG (by decide)) (g_kd hG (by decide) rfl) (by decide) q3 (fun _ h9 => h9) (hP_T _ (List.mem_of_getElem? (i := 61) rfl)) rfl rfl dX11_nights_127 ?_
                                refine lv_bipush (v := 40) hx hb dX11_nights_130 (by decide) ?_
                                refine lv_iload_n hx hb dX11_nights_132 rfl (lv_at hl 3 rfl) ?_
                                refine lv_imul hx hb dX11_nights_133 ?_
                                refine lv_iload_n hx hb dX11_nights_134 rfl (lv_at hl 4 rfl) ?_
                                refine lv_iadd hx hb dX11_nights_135 ?_
                                rw [show (((40 * a1) + a2) : Int32) = (nI (40 * a1.toNatClampNeg + a2.toNatClampNeg)) from ix40 (by omega) (by omega)]
                                refine lv_iload hx hb dX11_nights_136 (lv_at hl 0 rfl) ?_
                                refine lv_iadd hx hb dX11_nights_138 ?_
                                rw [show (((nI (40 * a1.toNatClampNeg + a2.toNatClampNeg)) + (nI k)) : Int32) = (nI ((40 * a1.toNatClampNeg + a2.toNatClampNeg) + k)) from n_add (40 * a1.toNatClampNeg + a2.toNatClampNeg) k]
                                refine r_iald hx hb hW 67 rfl (g_lt hG (by decide)) (g_kd hG (by decide) rfl) (g_ix hG (c := 320) (by decide) rfl (n_inI (by omega) (by decide))) (it a1.toNatClampNeg (a2.toNatClampNeg + k)) (by rw [n_clamp (by omega), Nat.add_assoc]; exact (congrFun (hCT.2 67 (by decide)).1 _).trans ((hRX a1.toNatClampNeg (by omega)).2.2 (a2.toNatClampNeg + k) (by omega))) dX11_nights_139 ?_
                                have e_f : (it a1.toNatClampNeg (a2.toNatClampNeg + k)) = nI (f k) := by rw [hf]; exact n_nI (hall k hkl).1
                                rw [e_f]
                                refine r_calli hW hA (va_runV (As := [.int (nI (f k))]) (rest := [.long (lN (ntS B f k))]) ⟨hx, hb, hml, hown, hts⟩ (t_X11_sleep l D G T _ hG hP_T (ntB B f k) (c + k) hBT (by omega) hMT (f k) (by rw [h17T]; exact hfj k hkl)) (cwV 1 hts gX11_nights_X11_sleep rfl rfl rfl (by decide +kernel) ⟨Nat.le_of_ble_eq_true rfl, Nat.le_of_ble_eq_true rfl⟩) (r_preV (k := 65) hA hW (ci := 10) (C := RX11) (T := TX11) (N := 20) rfl rfl (g_lt hG (by decide)) (g_kd hG (by decide) rfl) rfl rfl) rfl rfl hl.1 rfl (lv_room (Nat.le_of_ble_eq_true rfl)) dX11_nights_140 ⟨Nat.zero_le _, Nat.zero_le _⟩) (fun r140 S140 H locs hp140 hW => ?_)
                                obtain ⟨rfl, rw140, hs140, hk140, hg140⟩ := hp140
                                rw [hs140] at hW
                                have hF9 := slF_le (B := ntB B f k) (p := f k) hBT.2.2.1 (hBT.2.2.2.2.2.2.2.2.2.1 (f k) (by rw [h17T]; exact hfj k hkl)).2.1
                                refine lv_i2l hx hb dX11_nights_143 rfl ?_
                                rw [show (Int32.toInt64 (nI (slF (ntB B f k) (f k))) : Int64) = lN (slF (ntB B f k) (f k)) from lN_of (by omega)]
                                refine lv_ladd hx hb dX11_nights_144 ?_
                                rw [show (((lN (ntS B f k)) + (lN (slF (ntB B f k) (f k)))) : Int64) = (lN ((ntS B f k) + (slF (ntB B f k) (f k)))) from lN_add (ntS B f k) (slF (ntB B f k) (f k))]
                                rw [show ((lN ((ntS B f k) + (slF (ntB B f k) (f k)))) : Int64) = (lN (ntS B f (k + 1))) from rfl]
                                refine lv_lstore (lv' := [(4, .long (lN (ntS B f (k + 1)))), (6, .int (nI k)), (0, .ref (gA G 65)), (1, .int a1), (2, .int a2), (3, .int a3)]) hx hb dX11_nights_145 hl (by decide) rfl (fun ls hl => ?_)
                                refine lv_iinc (v := (nI (k + 1))) (lv' := [(6, .int (nI (k + 1))), (4, .long (lN (ntS B f (k + 1)))), (0, .ref (gA G 65)), (1, .int a1), (2, .int a2), (3, .int a3)]) hx hb dX11_nights_147 hl (k := 1) rfl (nI_1 k) (by decide) rfl (fun ls hl => ?_)
                                refine lv_goto (tgt := 117) hx hb dX11_nights_150 (by decide) ?_
                                exact ih117 (k + 1) (rj T 66 rw140) _ _ ls (by omega) hkl (fun i hi => (congrFun (e_js _ _ _) i).trans (hk140 i hi)) (fun i hi => (congrFun (e_js _ _ _) i).trans ((hg140 i hi).trans (hGT i hi))) (Ch.tr hCT (Ch.rj Ch.rf rfl)) hW (lv_sub hl [0, 1, 2, 3, 4, 5] rfl)
                          exact L117 _ 0 S _ _ ls (Nat.lt_succ_self _) (Nat.zero_le _) hM (fun _ _ => rfl) Ch.rf hW (lv_sub hl [0, 1, 2, 3, 4, 5] rfl)
                        · skip
                          rw [t_le] at c76
                          have hkl : k < a3.toNatClampNeg := by rw [n_toInt (by omega)] at c76; omega
                          refine lv_aload_n hx hb dX11_nights_79 rfl (lv_at hl 1 rfl) ?_
                          refine lv_aload_n hx hb dX11_nights_80 rfl (lv_at hl 1 rfl) ?_
                          refine r_getr (ci := 10) (C := RX11) (T := TX11) (N := 20) hx hb hts iX11 hown hW rfl 65 1 rfl (g_lt hG (by decide)) (g_kd hG (by decide) rfl) (by decide) q3 (fun _ h9 => h9) (hP _ (List.mem_of_getElem? (i := 61) rfl)) rfl rfl dX11_nights_81 ?_
                          refine lv_bipush (v := 40) hx hb dX11_nights_84 (by decide) ?_
                          refine lv_iload_n hx hb dX11_nights_86 rfl (lv_at hl 2 rfl) ?_
                          refine lv_imul hx hb dX11_nights_87 ?_
                          refine lv_iload_n hx hb dX11_nights_88 rfl (lv_at hl 3 rfl) ?_
                          refine lv_iadd hx hb dX11_nights_89 ?_
                          rw [show (((40 * a1) + a2) : Int32) = (nI (40 * a1.toNatClampNeg + a2.toNatClampNeg)) from ix40 (by omega) (by omega)]
                          refine lv_iload hx hb dX11_nights_90 (lv_at hl 0 rfl) ?_
                          refine lv_iadd hx hb dX11_nights_92 ?_
                          rw [show (((nI (40 * a1.toNatClampNeg + a2.toNatClampNeg)) + (nI k)) : Int32) = (nI ((40 * a1.toNatClampNeg + a2.toNatClampNeg) + k)) from n_add (40 * a1.toNatClampNeg + a2.toNatClampNeg) k]
                          refine r_iald hx hb hW 67 rfl (g_lt hG (by decide)) (g_kd hG (by decide) rfl) (g_ix hG (c := 320) (by decide) rfl (n_inI (by omega) (by decide))) (it a1.toNatClampNeg (a2.toNatClampNeg + k)) (by rw [n_clamp (by omega), Nat.add_assoc]; exact (hRX a1.toNatClampNeg (by omega)).2.2 (a2.toNatClampNeg + k) (by omega)) dX11_nights_93 ?_
                          refine lv_i2l hx hb dX11_nights_94 rfl ?_
                          refine r_calli hW hA (va_runV (As := [.long (Int32.toInt64 (it a1.toNatClampNeg (a2.toNatClampNeg + k)))]) (rest := []) ⟨hx, hb, hml, hown, hts⟩ (t_X11_isParty l D G S _ hG hP B c hB (by omega) hM (Int32.toInt64 (it a1.toNatClampNeg (a2.toNatClampNeg + k))) ((it a1.toNatClampNeg (a2.toNatClampNeg + k))).toInt (Int32.toInt_toInt64 _)) (cwV 1 hts gX11_nights_X11_isParty rfl rfl rfl (by decide +kernel) ⟨Nat.le_of_ble_eq_true rfl, Nat.le_of_ble_eq_true rfl⟩) (r_preV (k := 65) hA hW (ci := 10) (C := RX11) (T := TX11) (N := 20) rfl rfl (g_lt hG (by decide)) (g_kd hG (by decide) rfl) rfl rfl) rfl rfl hl.1 rfl (lv_room (Nat.le_of_ble_eq_true rfl)) dX11_nights_95 ⟨Nat.zero_le _, Nat.zero_le _⟩) (fun r95 S95 H locs hp95 hW => ?_)
                          obtain ⟨hs95, hp95⟩ := hp95
                          rw [hs95] at hW
                          rcases hp95 with ⟨rfl, h95⟩ | ⟨rfl, h95⟩
                          · skip
                            refine lv_if_ne (tgt := 105) hx hb dX11_nights_98 (by decide) (fun c98 => ?_) (fun c98 => ?_)
                            · skip
                              refine lv_iinc (v := (nI (k + 1))) (lv' := [(4, .int (nI (k + 1))), (0, .ref (gA G 65)), (1, .int a1), (2, .int a2), (3, .int a3)]) hx hb dX11_nights_105 hl (k := 0) rfl (nI_1 k) (by decide) rfl (fun ls hl => ?_)
                              refine lv_goto (tgt := 73) hx hb dX11_nights_108 (by decide) ?_
                              exact ih73 (k + 1) _ _ ls (by omega) hkl (fun j hj => by rcases Nat.lt_or_eq_of_le (Nat.lt_succ_iff.mp hj) with z | z; exact hall j z; rw [z]; exact h95) hW (lv_sub hl [0, 1, 2, 3, 4] rfl)
                            · exact absurd c98 (by decide)
                          · skip
                            refine lv_if_ne (tgt := 105) hx hb dX11_nights_98 (by decide) (fun c98 => ?_) (fun c98 => ?_)
                            · exact absurd (by decide) c98
                            · skip
                              refine lv_ldc2 (v := (-9000000000000000001)) hx hb hown q4 dX11_nights_101 ?_
                              rw [← hQ0]
                              refine r_lret hx hb hr hlocks hW ?_ dX11_nights_104
                              have e : fNights B it le st a1 a2 a3 = (BADL, B, st) := by unfold fNights; rw [if_neg (by omega), if_pos (by omega), if_pos hf0, if_neg (fun z => h95 (z k hkl))]
                              rw [e]
                              exact ⟨rfl, hM, fun _ _ => rfl, hst, Ch.rf⟩
                    exact L73 _ 0 _ _ ls (Nat.lt_succ_self _) (Nat.zero_le _) (fun j hj => absurd hj (Nat.not_lt_zero _)) hW (lv_sub hl [0, 1, 2, 3, 4] rfl)
                  · exact absurd c61 (by decide)
                · skip
                  refine lv_if_ne (tgt := 70) hx hb dX11_nights_61 (by decide) (fun c61 => ?_) (fun c61 => ?_)
                  · exact absurd (by decide) c61
                  · skip
                    refine lv_aload_n hx hb dX11_nights_64 rfl (lv_at hl 0 rfl) ?_
                    refine lv_iconst (v := 2) hx hb dX11_nights_65 (by decide) ?_
                    refine r_calll hW hA (va_runV (As := [.int 2]) (rest := []) ⟨hx, hb, hml, hown, hts⟩ (t_X11_found l D G S _ hG hP 2) (cwV 1 hts gX11_nights_X11_found rfl rfl rfl (by decide +kernel) ⟨Nat.le_of_ble_eq_true rfl, Nat.le_of_ble_eq_true rfl⟩) (r_preV (k := 65) hA hW (ci := 10) (C := RX11) (T := TX11) (N := 20) rfl rfl (g_lt hG (by decide)) (g_kd hG (by decide) rfl) rfl rfl) rfl rfl hl.1 rfl (lv_room (Nat.le_of_ble_eq_true rfl)) dX11_nights_66 ⟨Nat.zero_le _, Nat.zero_le _⟩) (fun r66 S66 H locs hp66 hW => ?_)
                    obtain ⟨hs66, rfl⟩ := hp66
                    rw [hs66] at hW
                    rw [← hQ0]
                    refine r_lret hx hb hr hlocks hW ?_ dX11_nights_69
                    have ef : fos (le a1.toNatClampNeg) a2 a3 = 2 := by unfold fos; rw [if_neg (by omega), if_neg h58]
                    have e : fNights B it le st a1 a2 a3 = (FND 2, B, 2) := by unfold fNights; rw [if_neg (by omega), if_pos (by omega), ef, if_neg (by decide)]
                    rw [e]
                    exact ⟨rfl, hM, fun _ _ => rfl, congrFun (e_is _ _ _) 4, Ch.ri Ch.rf (Or.inl rfl)⟩
              · skip
                rw [t_le, show (0 : Int32).toInt = 0 from by decide] at c41
                refine lv_aload_n hx hb dX11_nights_44 rfl (lv_at hl 0 rfl) ?_
                refine lv_iconst (v := 1) hx hb dX11_nights_45 (by decide) ?_
                refine r_calll hW hA (va_runV (As := [.int 1]) (rest := []) ⟨hx, hb, hml, hown, hts⟩ (t_X11_found l D G S _ hG hP 1) (cwV 1 hts gX11_nights_X11_found rfl rfl rfl (by decide +kernel) ⟨Nat.le_of_ble_eq_true rfl, Nat.le_of_ble_eq_true rfl⟩) (r_preV (k := 65) hA hW (ci := 10) (C := RX11) (T := TX11) (N := 20) rfl rfl (g_lt hG (by decide)) (g_kd hG (by decide) rfl) rfl rfl) rfl rfl hl.1 rfl (lv_room (Nat.le_of_ble_eq_true rfl)) dX11_nights_46 ⟨Nat.zero_le _, Nat.zero_le _⟩) (fun r46 S46 H locs hp46 hW => ?_)
                obtain ⟨hs46, rfl⟩ := hp46
                rw [hs46] at hW
                rw [← hQ0]
                refine r_lret hx hb hr hlocks hW ?_ dX11_nights_49
                have ef : fos (le a1.toNatClampNeg) a2 a3 = 1 := by unfold fos; rw [if_pos (by have := hL a1.toNatClampNeg (by omega); omega)]
                have e : fNights B it le st a1 a2 a3 = (FND 1, B, 1) := by unfold fNights; rw [if_neg (by omega), if_pos (by omega), ef, if_neg (by decide)]
                rw [e]
                exact ⟨rfl, hM, fun _ _ => rfl, congrFun (e_is _ _ _) 4, Ch.ri Ch.rf (Or.inl rfl)⟩
            · exact absurd c28 (by decide)
          · skip
            refine lv_if_ne (tgt := 35) hx hb dX11_nights_28 (by decide) (fun c28 => ?_) (fun c28 => ?_)
            · exact absurd (by decide) c28
            · skip
              refine lv_ldc2 (v := (-9000000000000000001)) hx hb hown q4 dX11_nights_31 ?_
              rw [← hQ0]
              refine r_lret hx hb hr hlocks hW ?_ dX11_nights_34
              have e : fNights B it le st a1 a2 a3 = (BADL, B, st) := by unfold fNights; rw [if_neg (by omega), if_neg (by omega)]
              rw [e]
              exact ⟨rfl, hM, fun _ _ => rfl, hst, Ch.rf⟩
      · skip
        refine lv_if_eq (tgt := 31) hx hb dX11_nights_16 (by decide) (fun c16 => ?_) (fun c16 => ?_)
        · skip
          refine lv_ldc2 (v := (-9000000000000000001)) hx hb hown q4 dX11_nights_31 ?_
          rw [← hQ0]
          refine r_lret hx hb hr hlocks hW ?_ dX11_nights_34
          have e : fNights B it le st a1 a2 a3 = (BADL, B, st) := by unfold fNights; rw [if_neg (by omega), if_neg (by omega)]
          rw [e]
          exact ⟨rfl, hM, fun _ _ => rfl, hst, Ch.rf⟩
        · exact absurd (by decide) c16
    · exact absurd (by decide) c4
