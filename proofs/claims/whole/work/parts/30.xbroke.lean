def rmX10_areNightsTold : Jvm.Room := { frames := 1, cells := 0, slots := 0, locals := 20 }
set_option maxHeartbeats 4000000 in
set_option maxRecDepth 100000 in
theorem t_X10_areNightsTold (l : Launch) (D : Dc) (G : Gg) (S : Sg) (z : Nat) (q : Nat) (hq : q < gN G) (hkq : gK G q = 12) (hz : gZ G q = 40) (x : Nat → Int32) (hxj : ∀ j, j < 40 → gi S q j = x j) (mm : Nat) (hn : 3 * mm ≤ 40) : MI l yX10_areNightsTold wsX10_areNightsTold rmX10_areNightsTold D G S z [.ref (gA G q), .int (nI mm)] (fun r S' => S' = S ∧ ((r = 1 ∧ (∀ k, k < mm → ntOK x k)) ∨ (r = 0 ∧ ¬ (∀ k, k < mm → ntOK x k)))) := by
  refine Met.ofW (cc := cX10_areNightsTold) (maxL := 4) (ret := (some .boolean)) (by decide +kernel) rfl ?_
  intro pP eE s mM args bl mT cD s₁ bD hml hv
  obtain ⟨rfl, hv⟩ := hv
  have hz := hv.1
  subst hz
  have hx := bD.exec
  have hb := bD.bytes
  have hr := bD.returns
  have hts := atoms_spec (ws := wsX10_areNightsTold) bD.pre
  have hown : s.vm.findClass RX10 = some mM.cls := findClass_of_methodNamed bD.named
  have hlocks := bD.notSynchronized
  have hW := Wd.start hv
  have hA : ∀ q, s.heap.size ≤ q → AW G s.heap.size q := fun q h => Or.inr h
  have hl := lv_entry ([.ref (gA G q), .int (nI mm)]) (n := 4) (Nat.le_of_ble_eq_true rfl)
  rw [lg_entry_eq]
  generalize (lg_sl ([.ref (gA G q), .int (nI mm)]) ++ List.replicate (4 - (lg_sl ([.ref (gA G q), .int (nI mm)])).length) Slot.unset).toArray = ls at hl ⊢
  have hl : lv_has ls 4 [(0, .ref (gA G q)), (1, .int (nI mm))] := hl
  generalize hQ0 : MQ bl _ _ s _ _ _ = Q0
  refine lv_iconst (v := 0) hx hb dX10_areNightsTold_0 (by decide) ?_
  refine lv_istore_n (lv' := [(2, .int 0), (0, .ref (gA G q)), (1, .int (nI mm))]) hx hb dX10_areNightsTold_1 rfl hl (by decide) rfl (fun ls hl => ?_)
  have L2 : ∀ (n : Nat) (k : Nat) (H : Heap) (locs : List Loc) (ls : Array Slot), (mm - k) < n → k ≤ mm → (∀ j, j < k → ntOK x j) → Wd D (AW G s.heap.size) s G S H locs → lv_has ls 4 [(2, .int (nI k)), (0, .ref (gA G q)), (1, .int (nI mm))] → W pP l eE (headSpec wsX10_areNightsTold rmX10_areNightsTold).room s mM ([.ref (gA G q), .int (nI mm)] : List Value).toArray bl mT cD H locs 0 0 Q0 (F0 mM 2 ls []) := by
    intro n
    induction n with
    | zero => intro k H locs ls hm; exact absurd hm (Nat.not_lt_zero _)
    | succ n ih2 =>
      intro k H locs ls hm2 hk hall hW hl
      refine lv_iload_n hx hb dX10_areNightsTold_2 rfl (lv_at hl 0 rfl) ?_
      refine lv_iload_n hx hb dX10_areNightsTold_3 rfl (lv_at hl 2 rfl) ?_
      refine lv_icmp_ge (tgt := 58) hx hb dX10_areNightsTold_4 (by decide) (fun c4 => ?_) (fun c4 => ?_)
      · skip
        have hge : mm ≤ k := (n_le (by omega) (by omega)).mp c4
        refine lv_iconst (v := 1) hx hb dX10_areNightsTold_58 (by decide) ?_
        rw [← hQ0]
        refine r_zret hx hb hr hlocks hW (Or.inr rfl) ?_ dX10_areNightsTold_59
        exact ⟨rfl, Or.inl ⟨rfl, fun j hj => hall j (by omega)⟩⟩
      · skip
        have hkl : k < mm := by
          have h9 : ¬ mm ≤ k := fun q => c4 ((n_le (by omega) (by omega)).mpr q)
          omega
        refine lv_aload_n hx hb dX10_areNightsTold_7 rfl (lv_at hl 1 rfl) ?_
        refine lv_iconst (v := 3) hx hb dX10_areNightsTold_8 (by decide) ?_
        refine lv_iload_n hx hb dX10_areNightsTold_9 rfl (lv_at hl 0 rfl) ?_
        refine lv_imul hx hb dX10_areNightsTold_10 ?_
        rw [show ((3 * (nI k)) : Int32) = (nI (3 * k)) from n_mul 3 k]
        refine r_iald hx hb hW q rfl hq hkq (by rw [hz]; exact n_inI (by omega) (by decide)) (x (3 * k)) (by rw [n_clamp (by omega)]; exact hxj _ (by omega)) dX10_areNightsTold_11 ?_
        refine lv_istore_n (lv' := [(3, .int (x (3 * k))), (2, .int (nI k)), (0, .ref (gA G q)), (1, .int (nI mm))]) hx hb dX10_areNightsTold_12 rfl hl (by decide) rfl (fun ls hl => ?_)
        refine lv_iload_n hx hb dX10_areNightsTold_13 rfl (lv_at hl 0 rfl) ?_
        refine lv_iconst (v := 1) hx hb dX10_areNightsTold_14 (by decide) ?_
        refine lv_icmp_lt (tgt := 50) hx hb dX10_areNightsTold_15 (by decide) (fun c15 => ?_) (fun c15 => ?_)
        · skip
          rw [t_lt, show (1 : Int32).toInt = 1 from by decide] at c15
          refine lv_iconst (v := 0) hx hb dX10_areNightsTold_50 (by decide) ?_
          rw [← hQ0]
          refine r_zret hx hb hr hlocks hW (Or.inl rfl) ?_ dX10_areNightsTold_51
          refine ⟨rfl, Or.inr ⟨rfl, fun z => ?_⟩⟩
          have z9 := z k hkl
          unfold ntOK at z9
          omega
        · skip
          rw [t_lt, show (1 : Int32).toInt = 1 from by decide] at c15
          refine lv_iload_n hx hb dX10_areNightsTold_18 rfl (lv_at hl 0 rfl) ?_
          refine lv_bipush (v := 9) hx hb dX10_areNightsTold_19 (by decide) ?_
          refine lv_icmp_gt (tgt := 50) hx hb dX10_areNightsTold_21 (by decide) (fun c21 => ?_) (fun c21 => ?_)
          · skip
            rw [t_lt, show (9 : Int32).toInt = 9 from by decide] at c21
            refine lv_iconst (v := 0) hx hb dX10_areNightsTold_50 (by decide) ?_
            rw [← hQ0]
            refine r_zret hx hb hr hlocks hW (Or.inl rfl) ?_ dX10_areNightsTold_51
            refine ⟨rfl, Or.inr ⟨rfl, fun z => ?_⟩⟩
            have z9 := z k hkl
            unfold ntOK at z9
            omega
          · skip
            rw [t_lt, show (9 : Int32).toInt = 9 from by decide] at c21
            refine lv_aload_n hx hb dX10_areNightsTold_24 rfl (lv_at hl 2 rfl) ?_
            refine lv_iconst (v := 3) hx hb dX10_areNightsTold_25 (by decide) ?_
            refine lv_iload_n hx hb dX10_areNightsTold_26 rfl (lv_at hl 1 rfl) ?_
            refine lv_imul hx hb dX10_areNightsTold_27 ?_
            rw [show ((3 * (nI k)) : Int32) = (nI (3 * k)) from n_mul 3 k]
            refine lv_iconst (v := 1) hx hb dX10_areNightsTold_28 (by decide) ?_
            refine lv_iadd hx hb dX10_areNightsTold_29 ?_
            rw [show (((nI (3 * k)) + 1) : Int32) = (nI (3 * k + 1)) from n_add _ 1]
            refine r_iald hx hb hW q rfl hq hkq (by rw [hz]; exact n_inI (by omega) (by decide)) (x (3 * k + 1)) (by rw [n_clamp (by omega)]; exact hxj _ (by omega)) dX10_areNightsTold_30 ?_
            refine r_calli hW hA (va_runS (As := [.int (x (3 * k + 1))]) (rest := []) ⟨hx, hb, hml, hown, hts⟩ (t_X10_isWood l D G S _ (x (3 * k + 1))) (va_cwS 1 hts gX10_areNightsTold_X10_isWood rfl rfl rfl (by decide +kernel) ⟨Nat.le_of_ble_eq_true rfl, Nat.le_of_ble_eq_true rfl⟩) (r_preS hA hW) rfl rfl hl.1 rfl (lv_room (Nat.le_of_ble_eq_true rfl)) dX10_areNightsTold_31 ⟨Nat.zero_le _, Nat.zero_le _⟩) (fun r31 S31 H locs hp31 hW => ?_)
            obtain ⟨hs31, hp31⟩ := hp31
            rw [hs31] at hW
            rcases hp31 with ⟨rfl, h31⟩ | ⟨rfl, h31⟩
            · skip
              refine lv_if_eq (tgt := 50) hx hb dX10_areNightsTold_34 (by decide) (fun c34 => ?_) (fun c34 => ?_)
              · exact absurd c34 (by decide)
              · skip
                refine lv_aload_n hx hb dX10_areNightsTold_37 rfl (lv_at hl 2 rfl) ?_
                refine lv_iconst (v := 3) hx hb dX10_areNightsTold_38 (by decide) ?_
                refine lv_iload_n hx hb dX10_areNightsTold_39 rfl (lv_at hl 1 rfl) ?_
                refine lv_imul hx hb dX10_areNightsTold_40 ?_
                rw [show ((3 * (nI k)) : Int32) = (nI (3 * k)) from n_mul 3 k]
                refine lv_iconst (v := 2) hx hb dX10_areNightsTold_41 (by decide) ?_
                refine lv_iadd hx hb dX10_areNightsTold_42 ?_
                rw [show (((nI (3 * k)) + 2) : Int32) = (nI (3 * k + 2)) from n_add _ 2]
                refine r_iald hx hb hW q rfl hq hkq (by rw [hz]; exact n_inI (by omega) (by decide)) (x (3 * k + 2)) (by rw [n_clamp (by omega)]; exact hxj _ (by omega)) dX10_areNightsTold_43 ?_
                refine r_calli hW hA (va_runS (As := [.int (x (3 * k + 2))]) (rest := []) ⟨hx, hb, hml, hown, hts⟩ (t_X10_isWood l D G S _ (x (3 * k + 2))) (va_cwS 1 hts gX10_areNightsTold_X10_isWood rfl rfl rfl (by decide +kernel) ⟨Nat.le_of_ble_eq_true rfl, Nat.le_of_ble_eq_true rfl⟩) (r_preS hA hW) rfl rfl hl.1 rfl (lv_room (Nat.le_of_ble_eq_true rfl)) dX10_areNightsTold_44 ⟨Nat.zero_le _, Nat.zero_le _⟩) (fun r44 S44 H locs hp44 hW => ?_)
                obtain ⟨hs44, hp44⟩ := hp44
                rw [hs44] at hW
                rcases hp44 with ⟨rfl, h44⟩ | ⟨rfl, h44⟩
                · skip
                  refine lv_if_ne (tgt := 52) hx hb dX10_areNightsTold_47 (by decide) (fun c47 => ?_) (fun c47 => ?_)
                  · skip
                    refine lv_iinc (v := (nI (k + 1))) (lv' := [(2, .int (nI (k + 1))), (3, .int (x (3 * k))), (0, .ref (gA G q)), (1, .int (nI mm))]) hx hb dX10_areNightsTold_52 hl (k := 1) rfl (nI_1 k) (by decide) rfl (fun ls hl => ?_)
                    refine lv_goto (tgt := 2) hx hb dX10_areNightsTold_55 (by decide) ?_
                    exact ih2 (k + 1) _ _ ls (by omega) hkl (fun j hj => by rcases Nat.lt_or_eq_of_le (Nat.lt_succ_iff.mp hj) with z | z; exact hall j z; rw [z]; unfold ntOK; omega) hW (lv_sub hl [0, 2, 3] rfl)
                  · exact absurd c47 (by decide)
                · skip
                  refine lv_if_ne (tgt := 52) hx hb dX10_areNightsTold_47 (by decide) (fun c47 => ?_) (fun c47 => ?_)
                  · exact absurd (by decide) c47
                  · skip
                    refine lv_iconst (v := 0) hx hb dX10_areNightsTold_50 (by decide) ?_
                    rw [← hQ0]
                    refine r_zret hx hb hr hlocks hW (Or.inl rfl) ?_ dX10_areNightsTold_51
                    refine ⟨rfl, Or.inr ⟨rfl, fun z => ?_⟩⟩
                    have z9 := z k hkl
                    unfold ntOK at z9
                    omega
            · skip
              refine lv_if_eq (tgt := 50) hx hb dX10_areNightsTold_34 (by decide) (fun c34 => ?_) (fun c34 => ?_)
              · skip
                refine lv_iconst (v := 0) hx hb dX10_areNightsTold_50 (by decide) ?_
                rw [← hQ0]
                refine r_zret hx hb hr hlocks hW (Or.inl rfl) ?_ dX10_areNightsTold_51
                refine ⟨rfl, Or.inr ⟨rfl, fun z => ?_⟩⟩
                have z9 := z k hkl
                unfold ntOK at z9
                omega
              · exact absurd (by decide) c34
  exact L2 _ 0 _ _ ls (Nat.lt_succ_self _) (Nat.zero_le _) (fun j hj => absurd hj (Nat.not_lt_zero _)) hW (lv_sub hl [0, 1, 2] rfl)

def lkI (B : Nat → Nat) (x : Nat → Int32) (k : Nat) : Int32 := nI (dueN (B 3) (B 1) (B 2) (x (3 * k)).toNatClampNeg) - (nI (x (3 * k + 2)).toNatClampNeg - nI ((x (3 * k + 1)).toNatClampNeg - (x (3 * k)).toNatClampNeg * B 1))
def rmX10_broke : Jvm.Room := { frames := 2, cells := 0, slots := 0, locals := 45 }
set_option maxHeartbeats 4000000 in
set_option maxRecDepth 100000 in
theorem t_X10_broke (l : Launch) (D : Dc) (G : Gg) (S : Sg) (z : Nat) (hG : GrG G) (hP : GrP G S) (h : Nat) (hh : PassR h) (hH : gp S 0 7 = some (gA G h)) (B : Nat → Nat) (c : Nat) (hB : BP B c) (hc : c < 100000) (hR : RP G S h B) (it : Nat → Nat → Int32) (la le : Nat → Int32) (hRX : RowsX S it la le) (hL : LeOK le) (st : Int32) (hst : gi S 0 9 = st) (a1 a2 a3 : Int32) : ML l yX10_broke wsX10_broke rmX10_broke D G S z [.ref (gA G 0), .int a1, .int a2, .int a3] (fun r S' => r = (fBroke B it le st a1 a2 a3).1 ∧ gi S' 0 9 = (fBroke B it le st a1 a2 a3).2 ∧ Ch (fun j => j = 0) S S') := by
  refine Met.ofW (cc := cX10_broke) (maxL := 12) (ret := (some .long)) (by decide +kernel) rfl ?_
  intro pP eE s mM args bl mT cD s₁ bD hml hv
  obtain ⟨rfl, hv⟩ := hv
  have hz := hv.1
  subst hz
  have hx := bD.exec
  have hb := bD.bytes
  have hr := bD.returns
  have hts := atoms_spec (ws := wsX10_broke) bD.pre
  have hown : s.vm.findClass RX10 = some mM.cls := findClass_of_methodNamed bD.named
  have hlocks := bD.notSynchronized
  have hW := Wd.start hv
  have hA : ∀ q, s.heap.size ≤ q → AW G s.heap.size q := fun q h => Or.inr h
  have hl := lv_entry ([.ref (gA G 0), .int a1, .int a2, .int a3]) (n := 12) (Nat.le_of_ble_eq_true rfl)
  rw [lg_entry_eq]
  generalize (lg_sl ([.ref (gA G 0), .int a1, .int a2, .int a3]) ++ List.replicate (12 - (lg_sl ([.ref (gA G 0), .int a1, .int a2, .int a3])).length) Slot.unset).toArray = ls at hl ⊢
  have hl : lv_has ls 12 [(0, .ref (gA G 0)), (1, .int a1), (2, .int a2), (3, .int a3)] := hl
  have q0 := hts (.fieldLink RX10 49 "WoodForTwo" "here" "LWoodForTwo$Pass;") (List.mem_of_getElem? (i := 1) rfl)
  have q1 := hts (.fieldLink RX10 116 "WoodForTwo$Pass" "stands" "Z") (List.mem_of_getElem? (i := 2) rfl)
  have q2 := hts (.constantLong RX10 66 (-9000000000000000001)) (List.mem_of_getElem? (i := 4) rfl)
  have q3 := hts (.fieldLink RX10 11 "WoodForTwo" "items" "[[I") (List.mem_of_getElem? (i := 5) rfl)
  have q4 := hts (.fieldLink RX10 197 "WoodForTwo$Pass" "law" "I") (List.mem_of_getElem? (i := 6) rfl)
  have q5 := hts (.constantLong RX10 134 (-9000000000000000002)) (List.mem_of_getElem? (i := 3) rfl)
  have iX10 : ∀ w ∈ wsX100, w ∈ wsX10_broke := fun _ h => List.mem_cons_of_mem _ (List.mem_append_left _ (List.mem_append_right _ (h)))
  have iX5 : ∀ w ∈ wsX50, w ∈ wsX10_broke := fun _ h => List.mem_cons_of_mem _ (List.mem_append_right _ (h))
  generalize hQ0 : MQ bl _ _ s _ _ _ = Q0
  have h17 : B 17 ≤ 16 := by rcases hB with z | z; (rw [z.2 17]; omega); exact z.2.2.2.2.2.2.2.2.1
  refine lv_aload_n hx hb dX10_broke_0 rfl (lv_at hl 0 rfl) ?_
  refine r_getr (ci := 9) (C := RX10) (T := TX10) (N := 10) hx hb hts iX10 hown hW rfl 0 7 rfl (g_lt hG (by decide)) (g_kd hG (by decide) rfl) (by decide) q0 (fun _ h9 => h9) hH rfl rfl dX10_broke_1 ?_
  refine r_geti (ci := 4) (C := RX5) (T := TX5) (N := 16) hx hb hts iX5 hown hW rfl h 0 rfl (p_lt hG hh (i := 0) (by decide)) (p_kd hG hh) (by decide) q1 (fun _ h9 => h9) (nI (B 132)) hR.1.1 rfl rfl dX10_broke_4 ?_
  refine lv_if_ne (tgt := 14) hx hb dX10_broke_7 (by decide) (fun c7 => ?_) (fun c7 => ?_)
  · skip
    have hB1 : BP1 B c := hB.resolve_left (fun z => c7 (by rw [z.1]; rfl))
    obtain ⟨b0, b1, b2, b3, b4, b5, b6, b7, b8, b9, b10, b11, b12⟩ := id hB1
    refine lv_iload_n hx hb dX10_broke_14 rfl (lv_at hl 1 rfl) ?_
    refine r_calli hW hA (va_runS (As := [.int a1]) (rest := []) ⟨hx, hb, hml, hown, hts⟩ (t_X10_isRow l D G S _ a1) (va_cwS 1 hts gX10_broke_X10_isRow rfl rfl rfl (by decide +kernel) ⟨Nat.le_of_ble_eq_true rfl, Nat.le_of_ble_eq_true rfl⟩) (r_preS hA hW) rfl rfl hl.1 rfl (lv_room (Nat.le_of_ble_eq_true rfl)) dX10_broke_15 ⟨Nat.zero_le _, Nat.zero_le _⟩) (fun r15 S15 H locs hp15 hW => ?_)
    obtain ⟨hs15, hp15⟩ := hp15
    rw [hs15] at hW
    rcases hp15 with ⟨rfl, h15⟩ | ⟨rfl, h15⟩
    · skip
      refine lv_if_eq (tgt := 39) hx hb dX10_broke_18 (by decide) (fun c18 => ?_) (fun c18 => ?_)
      · exact absurd c18 (by decide)
      · skip
        refine lv_iload_n hx hb dX10_broke_21 rfl (lv_at hl 2 rfl) ?_
        refine lv_iconst (v := 1) hx hb dX10_broke_22 (by decide) ?_
        refine lv_icmp_lt (tgt := 39) hx hb dX10_broke_23 (by decide) (fun c23 => ?_) (fun c23 => ?_)
        · skip
          rw [t_lt, show (1 : Int32).toInt = 1 from by decide] at c23
          refine lv_ldc2 (v := (-9000000000000000001)) hx hb hown q2 dX10_broke_39 ?_
          rw [← hQ0]
          refine r_lret hx hb hr hlocks hW ?_ dX10_broke_42
          have e : fBroke B it le st a1 a2 a3 = (BADL, st) := by unfold fBroke; rw [if_neg (by omega), if_neg (by omega)]
          rw [e]
          exact ⟨rfl, hst, Ch.rf⟩
        · skip
          rw [t_lt, show (1 : Int32).toInt = 1 from by decide] at c23
          refine lv_iload_n hx hb dX10_broke_26 rfl (lv_at hl 2 rfl) ?_
          refine lv_bipush (v := 13) hx hb dX10_broke_27 (by decide) ?_
          refine lv_icmp_gt (tgt := 39) hx hb dX10_broke_29 (by decide) (fun c29 => ?_) (fun c29 => ?_)
          · skip
            rw [t_lt, show (13 : Int32).toInt = 13 from by decide] at c29
            refine lv_ldc2 (v := (-9000000000000000001)) hx hb hown q2 dX10_broke_39 ?_
            rw [← hQ0]
            refine r_lret hx hb hr hlocks hW ?_ dX10_broke_42
            have e : fBroke B it le st a1 a2 a3 = (BADL, st) := by unfold fBroke; rw [if_neg (by omega), if_neg (by omega)]
            rw [e]
            exact ⟨rfl, hst, Ch.rf⟩
          · skip
            rw [t_lt, show (13 : Int32).toInt = 13 from by decide] at c29
            refine lv_iload_n hx hb dX10_broke_32 rfl (lv_at hl 3 rfl) ?_
            refine r_calli hW hA (va_runS (As := [.int a3]) (rest := []) ⟨hx, hb, hml, hown, hts⟩ (t_X10_isZeroOrOne l D G S _ a3) (va_cwS 1 hts gX10_broke_X10_isZeroOrOne rfl rfl rfl (by decide +kernel) ⟨Nat.le_of_ble_eq_true rfl, Nat.le_of_ble_eq_true rfl⟩) (r_preS hA hW) rfl rfl hl.1 rfl (lv_room (Nat.le_of_ble_eq_true rfl)) dX10_broke_33 ⟨Nat.zero_le _, Nat.zero_le _⟩) (fun r33 S33 H locs hp33 hW => ?_)
            obtain ⟨hs33, hp33⟩ := hp33
            rw [hs33] at hW
            rcases hp33 with ⟨rfl, h33⟩ | ⟨rfl, h33⟩
            · skip
              refine lv_if_ne (tgt := 43) hx hb dX10_broke_36 (by decide) (fun c36 => ?_) (fun c36 => ?_)
              · skip
                have hn_a1 := n_nat (x := a1) (by omega)
                have hr_a1 := hRX a1.toNatClampNeg (by omega)
                have hle_a1 := hL a1.toNatClampNeg (by omega)
                have hn_a2 := n_nat (x := a2) (by omega)
                have e_a2 := n_nI (x := a2) (by omega)
                refine lv_aload_n hx hb dX10_broke_43 rfl (lv_at hl 0 rfl) ?_
                refine lv_iload_n hx hb dX10_broke_44 rfl (lv_at hl 1 rfl) ?_
                refine lv_iconst (v := 0) hx hb dX10_broke_45 (by decide) ?_
                refine lv_iconst (v := 3) hx hb dX10_broke_46 (by decide) ?_
                refine lv_iload_n hx hb dX10_broke_47 rfl (lv_at hl 2 rfl) ?_
                refine lv_imul hx hb dX10_broke_48 ?_
                rw [show ((3 * a2) : Int32) = (nI (3 * a2.toNatClampNeg)) from ((congrArg (fun z => (3 : Int32) * z) e_a2).trans (n_mul 3 _))]
                refine r_calli hW hA (va_runV (As := [.int a1, .int 0, .int (nI (3 * a2.toNatClampNeg))]) (rest := []) ⟨hx, hb, hml, hown, hts⟩ (t_X10_findingOfSpan l D G S _ hG hP a1 0 (nI (3 * a2.toNatClampNeg)) (by omega) (by omega) (by rw [hr_a1.2.1]; exact hle_a1)) (cwV 3 hts gX10_broke_X10_findingOfSpan rfl rfl rfl (by decide +kernel) ⟨Nat.le_of_ble_eq_true rfl, Nat.le_of_ble_eq_true rfl⟩) (r_preV (k := 0) hA hW (ci := 9) (C := RX10) (T := TX10) (N := 10) rfl rfl (g_lt hG (by decide)) (g_kd hG (by decide) rfl) rfl rfl) rfl rfl hl.1 rfl (lv_room (Nat.le_of_ble_eq_true rfl)) dX10_broke_49 ⟨Nat.zero_le _, Nat.zero_le _⟩) (fun r49 S49 H locs hp49 hW => ?_)
                obtain ⟨hs49, rfl⟩ := hp49
                rw [hs49] at hW
                refine lv_istore (lv' := [(4, .int (fos (gi S 11 a1.toNatClampNeg) 0 (nI (3 * a2.toNatClampNeg)))), (0, .ref (gA G 0)), (1, .int a1), (2, .int a2), (3, .int a3)]) hx hb dX10_broke_52 hl (by decide) rfl (fun ls hl => ?_)
                refine lv_iload hx hb dX10_broke_54 (lv_at hl 0 rfl) ?_
                refine lv_if_eq (tgt := 66) hx hb dX10_broke_56 (by decide) (fun c56 => ?_) (fun c56 => ?_)
                · skip
                  rw [t_eq, show (0 : Int32).toInt = 0 from by decide] at c56
                  have hf0 : fos (le a1.toNatClampNeg) 0 (nI (3 * a2.toNatClampNeg)) = 0 := by rw [← hr_a1.2.1, t_eq]; exact c56
                  obtain ⟨z0, z1, z2, z3⟩ := fos_0 hf0
                  rw [n_toInt (by omega)] at z3
                  refine lv_aload_n hx hb dX10_broke_66 rfl (lv_at hl 1 rfl) ?_
                  refine r_getr (ci := 9) (C := RX10) (T := TX10) (N := 10) hx hb hts iX10 hown hW rfl 0 0 rfl (g_lt hG (by decide)) (g_kd hG (by decide) rfl) (by decide) q3 (fun _ h9 => h9) (hP _ (List.mem_of_getElem? (i := 0) rfl)) rfl rfl dX10_broke_67 ?_
                  refine lv_iload_n hx hb dX10_broke_70 rfl (lv_at hl 2 rfl) ?_
                  refine r_aald hx hb hW 1 rfl (g_lt hG (by decide)) 16 5 (g_kd hG (by decide) rfl) rfl rfl (fun _ _ _ _ => rfl) (g_ix hG (c := 8) (by decide) rfl (t_in (by omega) (by omega))) (some (gA G (2 + a1.toNatClampNeg))) (rw_lk hP (by omega)) dX10_broke_71 ?_
                  refine W.eq (g2 := F0 mM 72 ls [.ref (gA G (2 + a1.toNatClampNeg))]) rfl ?_
                  refine lv_iload_n hx hb dX10_broke_72 rfl (lv_at hl 3 rfl) ?_
                  refine W.eq (g2 := F0 mM 73 ls [.int (nI a2.toNatClampNeg), .ref (gA G (2 + a1.toNatClampNeg))]) (by rw [← e_a2]) ?_
                  refine r_calli hW hA (va_runS (As := [.ref (gA G (2 + a1.toNatClampNeg)), .int (nI a2.toNatClampNeg)]) (rest := []) ⟨hx, hb, hml, hown, hts⟩ (t_X10_areNightsTold l D G S _ (2 + a1.toNatClampNeg) (rw_lt hG (r := a1.toNatClampNeg) (by omega)) (rw_kd hG (r := a1.toNatClampNeg) (by omega)) (rw_z hG (by omega)) (it a1.toNatClampNeg) hr_a1.2.2 a2.toNatClampNeg (by omega)) (va_cwS 2 hts gX10_broke_X10_areNightsTold rfl rfl rfl (by decide +kernel) ⟨Nat.le_of_ble_eq_true rfl, Nat.le_of_ble_eq_true rfl⟩) (r_preS hA hW) rfl rfl hl.1 rfl (lv_room (Nat.le_of_ble_eq_true rfl)) dX10_broke_73 ⟨Nat.zero_le _, Nat.zero_le _⟩) (fun r73 S73 H locs hp73 hW => ?_)
                  obtain ⟨hs73, hp73⟩ := hp73
                  rw [hs73] at hW
                  rcases hp73 with ⟨rfl, h73⟩ | ⟨rfl, h73⟩
                  · skip
                    refine lv_if_ne (tgt := 83) hx hb dX10_broke_76 (by decide) (fun c76 => ?_) (fun c76 => ?_)
                    · skip
                      have hall := h73
                      refine lv_lconst (v := 0) hx hb dX10_broke_83 (by decide) ?_
                      refine lv_lstore (lv' := [(5, .long 0), (4, .int (fos (gi S 11 a1.toNatClampNeg) 0 (nI (3 * a2.toNatClampNeg)))), (0, .ref (gA G 0)), (1, .int a1), (2, .int a2), (3, .int a3)]) hx hb dX10_broke_84 hl (by decide) rfl (fun ls hl => ?_)
                      refine lv_lconst (v := 0) hx hb dX10_broke_86 (by decide) ?_
                      refine lv_lstore (lv' := [(7, .long 0), (5, .long 0), (4, .int (fos (gi S 11 a1.toNatClampNeg) 0 (nI (3 * a2.toNatClampNeg)))), (0, .ref (gA G 0)), (1, .int a1), (2, .int a2), (3, .int a3)]) hx hb dX10_broke_87 hl (by decide) rfl (fun ls hl => ?_)
                      refine lv_iconst (v := 0) hx hb dX10_broke_89 (by decide) ?_
                      refine lv_istore (lv' := [(9, .int 0), (7, .long 0), (5, .long 0), (4, .int (fos (gi S 11 a1.toNatClampNeg) 0 (nI (3 * a2.toNatClampNeg)))), (0, .ref (gA G 0)), (1, .int a1), (2, .int a2), (3, .int a3)]) hx hb dX10_broke_90 hl (by decide) rfl (fun ls hl => ?_)
                      have L92 : ∀ (n : Nat) (k : Nat) (H : Heap) (locs : List Loc) (ls : Array Slot), (a2.toNatClampNeg - k) < n → k ≤ a2.toNatClampNeg → Wd D (AW G s.heap.size) s G S H locs → lv_has ls 12 [(9, .int (nI k)), (5, .long (whoF (fun k => 0 < lkN B (it a1.toNatClampNeg) k) k)), (7, .long (lN (lkS B (it a1.toNatClampNeg) k))), (0, .ref (gA G 0)), (1, .int a1), (2, .int a2), (3, .int a3)] → W pP l eE (headSpec wsX10_broke rmX10_broke).room s mM ([.ref (gA G 0), .int a1, .int a2, .int a3] : List Value).toArray bl mT cD H locs 0 0 Q0 (F0 mM 92 ls []) := by
                        intro n
                        induction n with
                        | zero => intro k H locs ls hm; exact absurd hm (Nat.not_lt_zero _)
                        | succ n ih92 =>
                          intro k H locs ls hm92 hk hW hl
                          refine lv_iload hx hb dX10_broke_92 (lv_at hl 0 rfl) ?_
                          refine lv_iload_n hx hb dX10_broke_94 rfl (lv_at hl 5 rfl) ?_
                          refine lv_icmp_ge (tgt := 193) hx hb dX10_broke_95 (by decide) (fun c95 => ?_) (fun c95 => ?_)
                          · skip
                            rw [t_le] at c95
                            have hka : k = a2.toNatClampNeg := by rw [n_toInt (by omega)] at c95; omega
                            refine lv_aload_n hx hb dX10_broke_193 rfl (lv_at hl 3 rfl) ?_
                            refine lv_iload_n hx hb dX10_broke_194 rfl (lv_at hl 6 rfl) ?_
                            refine lv_if_ne (tgt := 203) hx hb dX10_broke_195 (by decide) (fun c195 => ?_) (fun c195 => ?_)
                            · skip
                              rw [t_eq, show (0 : Int32).toInt = 0 from by decide] at c195
                              refine lv_lload hx hb dX10_broke_203 (lv_at hl 2 rfl) ?_
                              refine r_calll hW hA (va_runV (As := [.long (lN (lkS B (it a1.toNatClampNeg) k))]) (rest := []) ⟨hx, hb, hml, hown, hts⟩ (t_X10_fine l D G S _ hG hP (lN (lkS B (it a1.toNatClampNeg) k))) (cwV 1 hts gX10_broke_X10_fine rfl rfl rfl (by decide +kernel) ⟨Nat.le_of_ble_eq_true rfl, Nat.le_of_ble_eq_true rfl⟩) (r_preV (k := 0) hA hW (ci := 9) (C := RX10) (T := TX10) (N := 10) rfl rfl (g_lt hG (by decide)) (g_kd hG (by decide) rfl) rfl rfl) rfl rfl hl.1 rfl (lv_room (Nat.le_of_ble_eq_true rfl)) dX10_broke_205 ⟨Nat.zero_le _, Nat.zero_le _⟩) (fun r205 S205 H locs hp205 hW => ?_)
                              obtain ⟨hs205, rfl⟩ := hp205
                              rw [hs205] at hW
                              rw [← hQ0]
                              refine r_lret hx hb hr hlocks hW ?_ dX10_broke_208
                              subst hka
                              have e : fBroke B it le st a1 a2 a3 = (lN (lkS B (it a1.toNatClampNeg) a2.toNatClampNeg), 0) := by unfold fBroke; rw [if_neg (by omega), if_pos (by omega), if_pos hf0, if_pos hall, if_neg c195]
                              rw [e]
                              exact ⟨rfl, congrFun (e_is _ _ _) 9, (Ch.ri Ch.rf (by omega))⟩
                            · skip
                              rw [t_eq, show (0 : Int32).toInt = 0 from by decide] at c195
                              refine lv_lload hx hb dX10_broke_198 (lv_at hl 1 rfl) ?_
                              refine lv_goto (tgt := 205) hx hb dX10_broke_200 (by decide) ?_
                              refine r_calll hW hA (va_runV (As := [.long (whoF (fun k => 0 < lkN B (it a1.toNatClampNeg) k) k)]) (rest := []) ⟨hx, hb, hml, hown, hts⟩ (t_X10_fine l D G S _ hG hP (whoF (fun k => 0 < lkN B (it a1.toNatClampNeg) k) k)) (cwV 1 hts gX10_broke_X10_fine rfl rfl rfl (by decide +kernel) ⟨Nat.le_of_ble_eq_true rfl, Nat.le_of_ble_eq_true rfl⟩) (r_preV (k := 0) hA hW (ci := 9) (C := RX10) (T := TX10) (N := 10) rfl rfl (g_lt hG (by decide)) (g_kd hG (by decide) rfl) rfl rfl) rfl rfl hl.1 rfl (lv_room (Nat.le_of_ble_eq_true rfl)) dX10_broke_205 ⟨Nat.zero_le _, Nat.zero_le _⟩) (fun r205 S205 H locs hp205 hW => ?_)
                              obtain ⟨hs205, rfl⟩ := hp205
                              rw [hs205] at hW
                              rw [← hQ0]
                              refine r_lret hx hb hr hlocks hW ?_ dX10_broke_208
                              subst hka
                              have e : fBroke B it le st a1 a2 a3 = (whoF (fun k => 0 < lkN B (it a1.toNatClampNeg) k) a2.toNatClampNeg, 0) := by unfold fBroke; rw [if_neg (by omega), if_pos (by omega), if_pos hf0, if_pos hall, if_pos c195]
                              rw [e]
                              exact ⟨rfl, congrFun (e_is _ _ _) 9, (Ch.ri Ch.rf (by omega))⟩
                          · skip
                            rw [t_le] at c95
                            have hkl : k < a2.toNatClampNeg := by rw [n_toInt (by omega)] at c95; omega
                            refine lv_aload_n hx hb dX10_broke_98 rfl (lv_at hl 3 rfl) ?_
                            refine r_getr (ci := 9) (C := RX10) (T := TX10) (N := 10) hx hb hts iX10 hown hW rfl 0 0 rfl (g_lt hG (by decide)) (g_kd hG (by decide) rfl) (by decide) q3 (fun _ h9 => h9) (hP _ (List.mem_of_getElem? (i := 0) rfl)) rfl rfl dX10_broke_99 ?_
                            refine lv_iload_n hx hb dX10_broke_102 rfl (lv_at hl 4 rfl) ?_
                            refine r_aald hx hb hW 1 rfl (g_lt hG (by decide)) 16 5 (g_kd hG (by decide) rfl) rfl rfl (fun _ _ _ _ => rfl) (g_ix hG (c := 8) (by decide) rfl (t_in (by omega) (by omega))) (some (gA G (2 + a1.toNatClampNeg))) (rw_lk hP (by omega)) dX10_broke_103 ?_
                            refine W.eq (g2 := F0 mM 104 ls [.ref (gA G (2 + a1.toNatClampNeg))]) rfl ?_
                            refine lv_iconst (v := 3) hx hb dX10_broke_104 (by decide) ?_
                            refine lv_iload hx hb dX10_broke_105 (lv_at hl 0 rfl) ?_
                            refine lv_imul hx hb dX10_broke_107 ?_
                            rw [show ((3 * (nI k)) : Int32) = (nI (3 * k)) from n_mul 3 k]
                            refine r_iald hx hb hW (2 + a1.toNatClampNeg) rfl (rw_lt hG (r := a1.toNatClampNeg) (by omega)) (rw_kd hG (r := a1.toNatClampNeg) (by omega)) (by rw [rw_z hG (by omega)]; exact n_inI (by omega) (by decide)) (it a1.toNatClampNeg (3 * k)) (by rw [n_clamp (by omega)]; exact hr_a1.2.2 _ (by omega)) dX10_broke_108 ?_
                            refine lv_istore (lv' := [(10, .int (it a1.toNatClampNeg (3 * k))), (9, .int (nI k)), (5, .long (whoF (fun k => 0 < lkN B (it a1.toNatClampNeg) k) k)), (7, .long (lN (lkS B (it a1.toNatClampNeg) k))), (0, .ref (gA G 0)), (1, .int a1), (2, .int a2), (3, .int a3)]) hx hb dX10_broke_109 hl (by decide) rfl (fun ls hl => ?_)
                            refine lv_aload_n hx hb dX10_broke_111 rfl (lv_at hl 4 rfl) ?_
                            refine r_getr (ci := 9) (C := RX10) (T := TX10) (N := 10) hx hb hts iX10 hown hW rfl 0 7 rfl (g_lt hG (by decide)) (g_kd hG (by decide) rfl) (by decide) q0 (fun _ h9 => h9) hH rfl rfl dX10_broke_112 ?_
                            refine lv_aload_n hx hb dX10_broke_115 rfl (lv_at hl 4 rfl) ?_
                            refine r_getr (ci := 9) (C := RX10) (T := TX10) (N := 10) hx hb hts iX10 hown hW rfl 0 7 rfl (g_lt hG (by decide)) (g_kd hG (by decide) rfl) (by decide) q0 (fun _ h9 => h9) hH rfl rfl dX10_broke_116 ?_
                            refine r_geti (ci := 4) (C := RX5) (T := TX5) (N := 16) hx hb hts iX5 hown hW rfl h 3 rfl (p_lt hG hh (i := 0) (by decide)) (p_kd hG hh) (by decide) q4 (fun _ h9 => h9) (nI (B 2)) hR.1.2.2.2.1 rfl rfl dX10_broke_119 ?_
                            refine lv_iload hx hb dX10_broke_122 (lv_at hl 0 rfl) ?_
                            have e0 : (it a1.toNatClampNeg (3 * k)) = nI (it a1.toNatClampNeg (3 * k)).toNatClampNeg := n_nI (by have := (hall k hkl).1; omega)
                            have e1 : (it a1.toNatClampNeg (3 * k + 1)) = nI (it a1.toNatClampNeg (3 * k + 1)).toNatClampNeg := n_nI (by have := (hall k hkl).2.1; omega)
                            have e2 : (it a1.toNatClampNeg (3 * k + 2)) = nI (it a1.toNatClampNeg (3 * k + 2)).toNatClampNeg := n_nI (by have := (hall k hkl).2.2; omega)
                            have f0 := n_nat (x := (it a1.toNatClampNeg (3 * k))) (by have := (hall k hkl).1; omega)
                            have f1 := n_nat (x := (it a1.toNatClampNeg (3 * k + 1))) (by have := (hall k hkl).2.1; omega)
                            have f2 := n_nat (x := (it a1.toNatClampNeg (3 * k + 2))) (by have := (hall k hkl).2.2; omega)
                            have hok := hall k hkl
                            obtain ⟨⟨g1, g2⟩, ⟨g3, g4⟩, g5, g6⟩ := id hok
                            refine W.eq (g2 := F0 mM 124 ls [.int (nI (it a1.toNatClampNeg (3 * k)).toNatClampNeg), .int (nI (B 2)), .ref (gA G h)]) (by rw [← e0]) ?_
                            refine r_calli hW hA (va_runV (As := [.int (nI (B 2)), .int (nI (it a1.toNatClampNeg (3 * k)).toNatClampNeg)]) (rest := []) ⟨hx, hb, hml, hown, hts⟩ (t_X5_owed l D G S _ hG hP h hh (B 2) (it a1.toNatClampNeg (3 * k)).toNatClampNeg (B 3) (B 1) b4 (by omega) (by omega) b5 b3 hR.1.2.2.1 hR.1.2.2.2.2.1) (cwV 2 hts gX10_broke_X5_owed rfl rfl rfl (by decide +kernel) ⟨Nat.le_of_ble_eq_true rfl, Nat.le_of_ble_eq_true rfl⟩) (r_preV (k := h) hA hW (ci := 4) (C := RX5) (T := TX5) (N := 16) rfl rfl (p_lt hG hh (i := 0) (by decide)) (p_kd hG hh) rfl rfl) rfl rfl hl.1 rfl (lv_room (Nat.le_of_ble_eq_true rfl)) dX10_broke_124 ⟨Nat.zero_le _, Nat.zero_le _⟩) (fun r124 S124 H locs hp124 hW => ?_)
                            obtain ⟨hs124, rfl⟩ := hp124
                            rw [hs124] at hW
                            refine lv_aload_n hx hb dX10_broke_127 rfl (lv_at hl 4 rfl) ?_
                            refine r_getr (ci := 9) (C := RX10) (T := TX10) (N := 10) hx hb hts iX10 hown hW rfl 0 7 rfl (g_lt hG (by decide)) (g_kd hG (by decide) rfl) (by decide) q0 (fun _ h9 => h9) hH rfl rfl dX10_broke_128 ?_
                            refine lv_iload hx hb dX10_broke_131 (lv_at hl 0 rfl) ?_
                            refine lv_aload_n hx hb dX10_broke_133 rfl (lv_at hl 4 rfl) ?_
                            refine r_getr (ci := 9) (C := RX10) (T := TX10) (N := 10) hx hb hts iX10 hown hW rfl 0 0 rfl (g_lt hG (by decide)) (g_kd hG (by decide) rfl) (by decide) q3 (fun _ h9 => h9) (hP _ (List.mem_of_getElem? (i := 0) rfl)) rfl rfl dX10_broke_134 ?_
                            refine lv_iload_n hx hb dX10_broke_137 rfl (lv_at hl 5 rfl) ?_
                            refine r_aald hx hb hW 1 rfl (g_lt hG (by decide)) 16 5 (g_kd hG (by decide) rfl) rfl rfl (fun _ _ _ _ => rfl) (g_ix hG (c := 8) (by decide) rfl (t_in (by omega) (by omega))) (some (gA G (2 + a1.toNatClampNeg))) (rw_lk hP (by omega)) dX10_broke_138 ?_
                            refine W.eq (g2 := F0 mM 139 ls [.ref (gA G (2 + a1.toNatClampNeg)), .int (it a1.toNatClampNeg (3 * k)), .ref (gA G h), .int (nI (dueN (B 3) (B 1) (B 2) (it a1.toNatClampNeg (3 * k)).toNatClampNeg))]) rfl ?_
                            refine lv_iconst (v := 3) hx hb dX10_broke_139 (by decide) ?_
                            refine lv_iload hx hb dX10_broke_140 (lv_at hl 1 rfl) ?_
                            refine lv_imul hx hb dX10_broke_142 ?_
                            rw [show ((3 * (nI k)) : Int32) = (nI (3 * k)) from n_mul 3 k]
                            refine lv_iconst (v := 1) hx hb dX10_broke_143 (by decide) ?_
                            refine lv_iadd hx hb dX10_broke_144 ?_
                            rw [show (((nI (3 * k)) + 1) : Int32) = (nI (3 * k + 1)) from n_add _ 1]
                            refine r_iald hx hb hW (2 + a1.toNatClampNeg) rfl (rw_lt hG (r := a1.toNatClampNeg) (by omega)) (rw_kd hG (r := a1.toNatClampNeg) (by omega)) (by rw [rw_z hG (by omega)]; exact n_inI (by omega) (by decide)) (it a1.toNatClampNeg (3 * k + 1)) (by rw [n_clamp (by omega)]; exact hr_a1.2.2 _ (by omega)) dX10_broke_145 ?_
                            refine lv_aload_n hx hb dX10_broke_146 rfl (lv_at hl 4 rfl) ?_
                            refine r_getr (ci := 9) (C := RX10) (T := TX10) (N := 10) hx hb hts iX10 hown hW rfl 0 0 rfl (g_lt hG (by decide)) (g_kd hG (by decide) rfl) (by decide) q3 (fun _ h9 => h9) (hP _ (List.mem_of_getElem? (i := 0) rfl)) rfl rfl dX10_broke_147 ?_
                            refine lv_iload_n hx hb dX10_broke_150 rfl (lv_at hl 5 rfl) ?_
                            refine r_aald hx hb hW 1 rfl (g_lt hG (by decide)) 16 5 (g_kd hG (by decide) rfl) rfl rfl (fun _ _ _ _ => rfl) (g_ix hG (c := 8) (by decide) rfl (t_in (by omega) (by omega))) (some (gA G (2 + a1.toNatClampNeg))) (rw_lk hP (by omega)) dX10_broke_151 ?_
                            refine W.eq (g2 := F0 mM 152 ls [.ref (gA G (2 + a1.toNatClampNeg)), .int (it a1.toNatClampNeg (3 * k + 1)), .int (it a1.toNatClampNeg (3 * k)), .ref (gA G h), .int (nI (dueN (B 3) (B 1) (B 2) (it a1.toNatClampNeg (3 * k)).toNatClampNeg))]) rfl ?_
                            refine lv_iconst (v := 3) hx hb dX10_broke_152 (by decide) ?_
                            refine lv_iload hx hb dX10_broke_153 (lv_at hl 1 rfl) ?_
                            refine lv_imul hx hb dX10_broke_155 ?_
                            rw [show ((3 * (nI k)) : Int32) = (nI (3 * k)) from n_mul 3 k]
                            refine lv_iconst (v := 2) hx hb dX10_broke_156 (by decide) ?_
                            refine lv_iadd hx hb dX10_broke_157 ?_
                            rw [show (((nI (3 * k)) + 2) : Int32) = (nI (3 * k + 2)) from n_add _ 2]
                            refine r_iald hx hb hW (2 + a1.toNatClampNeg) rfl (rw_lt hG (r := a1.toNatClampNeg) (by omega)) (rw_kd hG (r := a1.toNatClampNeg) (by omega)) (by rw [rw_z hG (by omega)]; exact n_inI (by omega) (by decide)) (it a1.toNatClampNeg (3 * k + 2)) (by rw [n_clamp (by omega)]; exact hr_a1.2.2 _ (by omega)) dX10_broke_158 ?_
                            refine W.eq (g2 := F0 mM 159 ls [.int (nI (it a1.toNatClampNeg (3 * k + 2)).toNatClampNeg), .int (nI (it a1.toNatClampNeg (3 * k + 1)).toNatClampNeg), .int (nI (it a1.toNatClampNeg (3 * k)).toNatClampNeg), .ref (gA G h), .int (nI (dueN (B 3) (B 1) (B 2) (it a1.toNatClampNeg (3 * k)).toNatClampNeg))]) (by rw [← e0, ← e1, ← e2]) ?_
                            refine r_calli hW hA (va_runV (As := [.int (nI (it a1.toNatClampNeg (3 * k)).toNatClampNeg), .int (nI (it a1.toNatClampNeg (3 * k + 1)).toNatClampNeg), .int (nI (it a1.toNatClampNeg (3 * k + 2)).toNatClampNeg)]) (rest := [.int (nI (dueN (B 3) (B 1) (B 2) (it a1.toNatClampNeg (3 * k)).toNatClampNeg))]) ⟨hx, hb, hml, hown, hts⟩ (t_X5_leftBy l D G S _ hG hP h hh (it a1.toNatClampNeg (3 * k)).toNatClampNeg (it a1.toNatClampNeg (3 * k + 1)).toNatClampNeg (it a1.toNatClampNeg (3 * k + 2)).toNatClampNeg (B 1) (by omega) (by omega) b3 hR.1.2.2.1) (cwV 3 hts gX10_broke_X5_leftBy rfl rfl rfl (by decide +kernel) ⟨Nat.le_of_ble_eq_true rfl, Nat.le_of_ble_eq_true rfl⟩) (r_preV (k := h) hA hW (ci := 4) (C := RX5) (T := TX5) (N := 16) rfl rfl (p_lt hG hh (i := 0) (by decide)) (p_kd hG hh) rfl rfl) rfl rfl hl.1 rfl (lv_room (Nat.le_of_ble_eq_true rfl)) dX10_broke_159 ⟨Nat.zero_le _, Nat.zero_le _⟩) (fun r159 S159 H locs hp159 hW => ?_)
                            obtain ⟨hs159, rfl⟩ := hp159
                            rw [hs159] at hW
                            refine lv_isub hx hb dX10_broke_162 ?_
                            have hd : dueN (B 3) (B 1) (B 2) (it a1.toNatClampNeg (3 * k)).toNatClampNeg ≤ 729 := due_le b5 b3 (by omega)
                            have hlk : (lkI B (it a1.toNatClampNeg) k).toInt = (dueN (B 3) (B 1) (B 2) (it a1.toNatClampNeg (3 * k)).toNatClampNeg : Int) - ((it a1.toNatClampNeg (3 * k + 2)).toNatClampNeg - ((it a1.toNatClampNeg (3 * k + 1)).toNatClampNeg - (it a1.toNatClampNeg (3 * k)).toNatClampNeg * B 1 : Nat)) := by unfold lkI; rw [t_sub, t_sub, n_toInt, n_toInt, n_toInt] <;> (try rw [t_sub]) <;> (try rw [n_toInt]) <;> (try rw [n_toInt]) <;> (try rw [n_toInt]) <;> omega
                            have hlkN : lkN B (it a1.toNatClampNeg) k = ((lkI B (it a1.toNatClampNeg) k).toInt).toNat := by unfold lkN; omega
                            refine lv_istore (lv' := [(11, .int (lkI B (it a1.toNatClampNeg) k)), (10, .int (it a1.toNatClampNeg (3 * k))), (9, .int (nI k)), (5, .long (whoF (fun k => 0 < lkN B (it a1.toNatClampNeg) k) k)), (7, .long (lN (lkS B (it a1.toNatClampNeg) k))), (0, .ref (gA G 0)), (1, .int a1), (2, .int a2), (3, .int a3)]) hx hb dX10_broke_163 hl (by decide) rfl (fun ls hl => ?_)
                            refine lv_iload hx hb dX10_broke_165 (lv_at hl 0 rfl) ?_
                            refine lv_if_le (tgt := 187) hx hb dX10_broke_167 (by decide) (fun c167 => ?_) (fun c167 => ?_)
                            · skip
                              rw [t_le, show (0 : Int32).toInt = 0 from by decide] at c167
                              have ew : (whoF (fun k => 0 < lkN B (it a1.toNatClampNeg) k) k) = whoF (fun k => 0 < lkN B (it a1.toNatClampNeg) k) (k + 1) := by show _ = (if 0 < lkN B (it a1.toNatClampNeg) k then _ else _); rw [if_neg (by omega)]
                              have et : (lN (lkS B (it a1.toNatClampNeg) k)) = lN (lkS B (it a1.toNatClampNeg) (k + 1)) := by show _ = lN (lkS B (it a1.toNatClampNeg) k + lkN B (it a1.toNatClampNeg) k); rw [show lkN B (it a1.toNatClampNeg) k = 0 by omega]; rfl
                              rw [ew, et] at hl
                              refine lv_iinc (v := (nI (k + 1))) (lv' := [(9, .int (nI (k + 1))), (11, .int (lkI B (it a1.toNatClampNeg) k)), (10, .int (it a1.toNatClampNeg (3 * k))), (5, .long (whoF (fun k => 0 < lkN B (it a1.toNatClampNeg) k) (k + 1))), (7, .long (lN (lkS B (it a1.toNatClampNeg) (k + 1)))), (0, .ref (gA G 0)), (1, .int a1), (2, .int a2), (3, .int a3)]) hx hb dX10_broke_187 hl (k := 2) rfl (nI_1 k) (by decide) rfl (fun ls hl => ?_)
                              refine lv_goto (tgt := 92) hx hb dX10_broke_190 (by decide) ?_
                              exact ih92 (k + 1) _ _ ls (by omega) hkl hW (lv_sub hl [0, 3, 4, 5, 6, 7, 8] rfl)
                            · skip
                              rw [t_le, show (0 : Int32).toInt = 0 from by decide] at c167
                              refine lv_lload hx hb dX10_broke_170 (lv_at hl 3 rfl) ?_
                              refine lv_lconst (v := 1) hx hb dX10_broke_172 (by decide) ?_
                              refine lv_iload hx hb dX10_broke_173 (lv_at hl 2 rfl) ?_
                              refine lv_lshl hx hb dX10_broke_175 rfl ?_
                              refine lv_lor hx hb dX10_broke_176 ?_
                              refine lv_lstore (lv' := [(5, .long ((whoF (fun k => 0 < lkN B (it a1.toNatClampNeg) k) k) ||| (1 <<< (Int32.toInt64 (nI k) &&& 63)))), (11, .int (lkI B (it a1.toNatClampNeg) k)), (10, .int (it a1.toNatClampNeg (3 * k))), (9, .int (nI k)), (7, .long (lN (lkS B (it a1.toNatClampNeg) k))), (0, .ref (gA G 0)), (1, .int a1), (2, .int a2), (3, .int a3)]) hx hb dX10_broke_177 hl (by decide) rfl (fun ls hl => ?_)
                              refine lv_lload hx hb dX10_broke_179 (lv_at hl 4 rfl) ?_
                              refine lv_iload hx hb dX10_broke_181 (lv_at hl 1 rfl) ?_
                              refine lv_i2l hx hb dX10_broke_183 rfl ?_
                              refine lv_ladd hx hb dX10_broke_184 ?_
                              refine lv_lstore (lv' := [(7, .long ((lN (lkS B (it a1.toNatClampNeg) k)) + (Int32.toInt64 (lkI B (it a1.toNatClampNeg) k)))), (5, .long ((whoF (fun k => 0 < lkN B (it a1.toNatClampNeg) k) k) ||| (1 <<< (Int32.toInt64 (nI k) &&& 63)))), (11, .int (lkI B (it a1.toNatClampNeg) k)), (10, .int (it a1.toNatClampNeg (3 * k))), (9, .int (nI k)), (0, .ref (gA G 0)), (1, .int a1), (2, .int a2), (3, .int a3)]) hx hb dX10_broke_185 hl (by decide) rfl (fun ls hl => ?_)
                              have ew : ((whoF (fun k => 0 < lkN B (it a1.toNatClampNeg) k) k) ||| (1 <<< (Int32.toInt64 (nI k) &&& 63))) = whoF (fun k => 0 < lkN B (it a1.toNatClampNeg) k) (k + 1) := by show _ = (if 0 < lkN B (it a1.toNatClampNeg) k then _ else _); rw [if_pos (by omega)]
                              have et : ((lN (lkS B (it a1.toNatClampNeg) k)) + (Int32.toInt64 (lkI B (it a1.toNatClampNeg) k))) = lN (lkS B (it a1.toNatClampNeg) (k + 1)) := by rw [show (lkI B (it a1.toNatClampNeg) k) = nI (lkN B (it a1.toNatClampNeg) k) from by rw [hlkN]; exact n_nI (by omega), lN_of (by omega), lN_add]; rfl
                              rw [ew, et] at hl
                              refine lv_iinc (v := (nI (k + 1))) (lv' := [(9, .int (nI (k + 1))), (7, .long (lN (lkS B (it a1.toNatClampNeg) (k + 1)))), (5, .long (whoF (fun k => 0 < lkN B (it a1.toNatClampNeg) k) (k + 1))), (11, .int (lkI B (it a1.toNatClampNeg) k)), (10, .int (it a1.toNatClampNeg (3 * k))), (0, .ref (gA G 0)), (1, .int a1), (2, .int a2), (3, .int a3)]) hx hb dX10_broke_187 hl (k := 4) rfl (nI_1 k) (by decide) rfl (fun ls hl => ?_)
                              refine lv_goto (tgt := 92) hx hb dX10_broke_190 (by decide) ?_
                              exact ih92 (k + 1) _ _ ls (by omega) hkl hW (lv_sub hl [0, 2, 1, 5, 6, 7, 8] rfl)
                      exact L92 _ 0 _ _ ls (Nat.lt_succ_self _) (Nat.zero_le _) hW (lv_sub hl [0, 2, 1, 4, 5, 6, 7] rfl)
                    · exact absurd c76 (by decide)
                  · skip
                    refine lv_if_ne (tgt := 83) hx hb dX10_broke_76 (by decide) (fun c76 => ?_) (fun c76 => ?_)
                    · exact absurd (by decide) c76
                    · skip
                      refine lv_ldc2 (v := (-9000000000000000001)) hx hb hown q2 dX10_broke_79 ?_
                      rw [← hQ0]
                      refine r_lret hx hb hr hlocks hW ?_ dX10_broke_82
                      have e : fBroke B it le st a1 a2 a3 = (BADL, st) := by unfold fBroke; rw [if_neg (by omega), if_pos (by omega), if_pos hf0, if_neg h73]
                      rw [e]
                      exact ⟨rfl, hst, Ch.rf⟩
                · skip
                  rw [t_eq, show (0 : Int32).toInt = 0 from by decide] at c56
                  refine lv_aload_n hx hb dX10_broke_59 rfl (lv_at hl 1 rfl) ?_
                  refine lv_iload hx hb dX10_broke_60 (lv_at hl 0 rfl) ?_
                  refine r_calll hW hA (va_runV (As := [.int (fos (gi S 11 a1.toNatClampNeg) 0 (nI (3 * a2.toNatClampNeg)))]) (rest := []) ⟨hx, hb, hml, hown, hts⟩ (t_X10_found l D G S _ hG hP (fos (gi S 11 a1.toNatClampNeg) 0 (nI (3 * a2.toNatClampNeg)))) (cwV 1 hts gX10_broke_X10_found rfl rfl rfl (by decide +kernel) ⟨Nat.le_of_ble_eq_true rfl, Nat.le_of_ble_eq_true rfl⟩) (r_preV (k := 0) hA hW (ci := 9) (C := RX10) (T := TX10) (N := 10) rfl rfl (g_lt hG (by decide)) (g_kd hG (by decide) rfl) rfl rfl) rfl rfl hl.1 rfl (lv_room (Nat.le_of_ble_eq_true rfl)) dX10_broke_62 ⟨Nat.zero_le _, Nat.zero_le _⟩) (fun r62 S62 H locs hp62 hW => ?_)
                  obtain ⟨hs62, rfl⟩ := hp62
                  rw [hs62] at hW
                  rw [← hQ0]
                  refine r_lret hx hb hr hlocks hW ?_ dX10_broke_65
                  have e : fBroke B it le st a1 a2 a3 = (FND (fos (le a1.toNatClampNeg) 0 (nI (3 * a2.toNatClampNeg))), fos (le a1.toNatClampNeg) 0 (nI (3 * a2.toNatClampNeg))) := by unfold fBroke; rw [if_neg (by omega), if_pos (by omega), if_neg (fun z => by rw [hr_a1.2.1, z] at c56; exact c56 (by decide))]
                  rw [e, ← hr_a1.2.1]
                  exact ⟨rfl, congrFun (e_is _ _ _) 9, (Ch.ri Ch.rf (by omega))⟩
              · exact absurd c36 (by decide)
            · skip
              refine lv_if_ne (tgt := 43) hx hb dX10_broke_36 (by decide) (fun c36 => ?_) (fun c36 => ?_)
              · exact absurd (by decide) c36
              · skip
                refine lv_ldc2 (v := (-9000000000000000001)) hx hb hown q2 dX10_broke_39 ?_
                rw [← hQ0]
                refine r_lret hx hb hr hlocks hW ?_ dX10_broke_42
                have e : fBroke B it le st a1 a2 a3 = (BADL, st) := by unfold fBroke; rw [if_neg (by omega), if_neg (by omega)]
                rw [e]
                exact ⟨rfl, hst, Ch.rf⟩
    · skip
      refine lv_if_eq (tgt := 39) hx hb dX10_broke_18 (by decide) (fun c18 => ?_) (fun c18 => ?_)
      · skip
        refine lv_ldc2 (v := (-9000000000000000001)) hx hb hown q2 dX10_broke_39 ?_
        rw [← hQ0]
        refine r_lret hx hb hr hlocks hW ?_ dX10_broke_42
        have e : fBroke B it le st a1 a2 a3 = (BADL, st) := by unfold fBroke; rw [if_neg (by omega), if_neg (by omega)]
        rw [e]
        exact ⟨rfl, hst, Ch.rf⟩
      · exact absurd (by decide) c18
  · skip
    have hs0 : B 132 = 0 := by
      rcases hB with z | z
      · exact z.1
      · rw [z.1] at c7; exact absurd c7 (by decide)
    refine lv_ldc2 (v := (-9000000000000000002)) hx hb hown q5 dX10_broke_10 ?_
    rw [← hQ0]
    refine r_lret hx hb hr hlocks hW ?_ dX10_broke_13
    have e : fBroke B it le st a1 a2 a3 = (STATEL, st) := by unfold fBroke; rw [if_pos hs0]
    rw [e]
    exact ⟨rfl, hst, Ch.rf⟩
