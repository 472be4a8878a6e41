def rmX0_takeChances : Jvm.Room := { frames := 1, cells := 0, slots := 0, locals := 22 }
set_option maxHeartbeats 4000000 in
set_option maxRecDepth 100000 in
theorem t_X0_takeChances (l : Launch) (D : Dc) (G : Gg) (S : Sg) (z : Nat) (hG : GrG G) (hP : GrP G S) (h : Nat) (hh : PassR h) (B : Nat → Nat) (c : Nat) (hB1 : BP1 B c) (hR : RP G S h B) (law n0 : Nat) (hl2 : law ≤ 2) (hn1 : 1 ≤ n0) (hn8 : n0 ≤ 8) : MV l yX0_takeChances wsX0_takeChances rmX0_takeChances D G S z [.ref (gA G 14), .ref (gA G h), .int (nI law), .int (nI n0)] (fun S' => FTs S' B law n0 ∧ Ch (fun k => k = 14 ∨ (16 ≤ k ∧ k ≤ 29)) S S') := by
  refine Met.ofW (cc := cX0_takeChances) (maxL := 8) (ret := none) (by decide +kernel) rfl ?_
  intro pP eE s mM args bl mT cD s₁ bD hml hv
  obtain ⟨rfl, hv⟩ := hv
  have hz := hv.1
  subst hz
  have hx := bD.exec
  have hb := bD.bytes
  have hr := bD.returns
  have hts := atoms_spec (ws := wsX0_takeChances) bD.pre
  have hown : s.vm.findClass RX0 = some mM.cls := findClass_of_methodNamed bD.named
  have hlocks := bD.notSynchronized
  have hW := Wd.start hv
  have hA : ∀ q, s.heap.size ≤ q → AW G s.heap.size q := fun q h => Or.inr h
  have hl := lv_entry ([.ref (gA G 14), .ref (gA G h), .int (nI law), .int (nI n0)]) (n := 8) (Nat.le_of_ble_eq_true rfl)
  rw [lg_entry_eq]
  generalize (lg_sl ([.ref (gA G 14), .ref (gA G h), .int (nI law), .int (nI n0)]) ++ List.replicate (8 - (lg_sl ([.ref (gA G 14), .ref (gA G h), .int (nI law), .int (nI n0)])).length) Slot.unset).toArray = ls at hl ⊢
  have hl : lv_has ls 8 [(0, .ref (gA G 14)), (1, .ref (gA G h)), (2, .int (nI law)), (3, .int (nI n0))] := hl
  have q0 := hts (.fieldLink RX0 51 "WoodForTwo$Pass" "chances" "I") (List.mem_of_getElem? (i := 1) rfl)
  have q1 := hts (.fieldLink RX0 56 "WoodForTwo$Foretelling" "chances" "I") (List.mem_of_getElem? (i := 2) rfl)
  have q2 := hts (.fieldLink RX0 57 "WoodForTwo$Foretelling" "nights" "I") (List.mem_of_getElem? (i := 3) rfl)
  have q3 := hts (.fieldLink RX0 43 "WoodForTwo$Foretelling" "enough" "I") (List.mem_of_getElem? (i := 14) rfl)
  have q4 := hts (.fieldLink RX0 78 "WoodForTwo$Foretelling" "allWays" "J") (List.mem_of_getElem? (i := 15) rfl)
  have q5 := hts (.fieldLink RX0 60 "WoodForTwo$Pass" "chanceHeads" "[I") (List.mem_of_getElem? (i := 4) rfl)
  have q6 := hts (.fieldLink RX0 16 "WoodForTwo$Foretelling" "burns" "[I") (List.mem_of_getElem? (i := 5) rfl)
  have q7 := hts (.fieldLink RX0 63 "WoodForTwo$Pass" "burn" "I") (List.mem_of_getElem? (i := 6) rfl)
  have q8 := hts (.fieldLink RX0 20 "WoodForTwo$Foretelling" "leaves" "[I") (List.mem_of_getElem? (i := 7) rfl)
  have q9 := hts (.fieldLink RX0 23 "WoodForTwo$Foretelling" "odds" "[I") (List.mem_of_getElem? (i := 8) rfl)
  have q10 := hts (.fieldLink RX0 70 "WoodForTwo$Pass" "chanceOdds" "[I") (List.mem_of_getElem? (i := 9) rfl)
  have q11 := hts (.methodLink RX0 73 Lib.Math.max.name) (List.mem_of_getElem? (i := 10) rfl)
  have q12 := hts (.static Lib.Math.max.name) (List.mem_of_getElem? (i := 11) rfl)
  have q13 := hts (.initialized "java/lang/Math") (List.mem_of_getElem? (i := 12) rfl)
  have q14 := hts (.code Lib.Math.max.name Lib.Math.max.code 2 (some .int)) (List.mem_of_getElem? (i := 13) rfl)
  have iX5 : ∀ w ∈ wsX50, w ∈ wsX0_takeChances := fun _ h => List.mem_cons_of_mem _ (List.mem_append_left _ (List.mem_append_right _ (h)))
  have iX0 : ∀ w ∈ wsX00, w ∈ wsX0_takeChances := fun _ h => List.mem_cons_of_mem _ (List.mem_append_right _ (h))
  generalize hQ0 : MQ bl _ _ s _ _ _ = Q0
  obtain ⟨b0, b1, b2, b3, b4, b5, b6, b7, b8, b9, b10, b11, b12⟩ := id hB1
  have hs4 : sT (B 4) (qo (Qc B law)) < 2147483648 := by have z := tot_le hB1 hl2; exact Nat.lt_of_le_of_lt z (by decide)
  refine lv_aload_n hx hb dX0_takeChances_0 rfl (lv_at hl 0 rfl) ?_
  refine lv_aload_n hx hb dX0_takeChances_1 rfl (lv_at hl 1 rfl) ?_
  refine r_geti (ci := 4) (C := RX5) (T := TX5) (N := 16) hx hb hts iX5 hown hW rfl h 5 rfl (p_lt hG hh (i := 0) (by decide)) (p_kd hG hh) (by decide) q0 (fun _ h9 => h9) (nI (B 4)) hR.1.2.2.2.2.2.1 rfl rfl dX0_takeChances_2 ?_
  refine r_puti (ci := 0) (C := RX0) (T := TX0) (N := 10) hx hb hts iX0 tyX0 tyX0_ok nmX0 hown hW rfl 14 6 rfl (g_lt hG (by decide)) (g_kd hG (by decide) rfl) (by decide) q1 (fun _ h9 => h9) rfl (tyX0_ok 6 (by decide)) rfl rfl (ri S 14 (va_up (gi S 14) 6 (nI (B 4)))) (gi S 14) (va_up (gi S 14) 6 (nI (B 4))) rfl (e_is _ _ _) rfl rfl rfl (Nat.le_of_ble_eq_true rfl) rfl c_i0 dX0_takeChances_5 (fun H locs hW => ?_)
  refine lv_aload_n hx hb dX0_takeChances_8 rfl (lv_at hl 0 rfl) ?_
  refine lv_iload_n hx hb dX0_takeChances_9 rfl (lv_at hl 3 rfl) ?_
  refine r_puti (ci := 0) (C := RX0) (T := TX0) (N := 10) hx hb hts iX0 tyX0 tyX0_ok nmX0 hown hW rfl 14 7 rfl (g_lt hG (by decide)) (g_kd hG (by decide) rfl) (by decide) q2 (fun _ h9 => h9) rfl (tyX0_ok 7 (by decide)) rfl rfl (ri S 14 (va_up (va_up (gi S 14) 6 (nI (B 4))) 7 (nI n0))) (va_up (gi S 14) 6 (nI (B 4))) (va_up (va_up (gi S 14) 6 (nI (B 4))) 7 (nI n0)) (e_is _ _ _) (e_is _ _ _) rfl rfl rfl (Nat.le_of_ble_eq_true rfl) rfl c_i dX0_takeChances_10 (fun H locs hW => ?_)
  refine lv_iconst (v := 0) hx hb dX0_takeChances_13 (by decide) ?_
  refine lv_istore (lv' := [(4, .int 0), (0, .ref (gA G 14)), (1, .ref (gA G h)), (2, .int (nI law)), (3, .int (nI n0))]) hx hb dX0_takeChances_14 hl (by decide) rfl (fun ls hl => ?_)
  refine lv_iconst (v := 0) hx hb dX0_takeChances_16 (by decide) ?_
  refine lv_istore (lv' := [(5, .int 0), (4, .int 0), (0, .ref (gA G 14)), (1, .ref (gA G h)), (2, .int (nI law)), (3, .int (nI n0))]) hx hb dX0_takeChances_17 hl (by decide) rfl (fun ls hl => ?_)
  refine lv_iconst (v := 0) hx hb dX0_takeChances_19 (by decide) ?_
  refine lv_istore (lv' := [(6, .int 0), (5, .int 0), (4, .int 0), (0, .ref (gA G 14)), (1, .ref (gA G h)), (2, .int (nI law)), (3, .int (nI n0))]) hx hb dX0_takeChances_20 hl (by decide) rfl (fun ls hl => ?_)
  rw [show (ri S 14 (va_up (va_up (gi S 14) 6 (nI (B 4))) 7 (nI n0))) = (ri (ri S 14 (va_up (va_up (gi S 14) 6 (nI (B 4))) 7 (nI n0))) 25 (gi S 25)) from ((ri_id (ri S 14 (va_up (va_up (gi S 14) 6 (nI (B 4))) 7 (nI n0))) 25).symm.trans (congrArg (fun z => ri (ri S 14 (va_up (va_up (gi S 14) 6 (nI (B 4))) 7 (nI n0))) 25 z) (e_in (by decide) rfl)))] at hW
  rw [show (ri (ri S 14 (va_up (va_up (gi S 14) 6 (nI (B 4))) 7 (nI n0))) 25 (gi S 25)) = (ri (ri (ri S 14 (va_up (va_up (gi S 14) 6 (nI (B 4))) 7 (nI n0))) 25 (gi S 25)) 26 (gi S 26)) from ((ri_id (ri (ri S 14 (va_up (va_up (gi S 14) 6 (nI (B 4))) 7 (nI n0))) 25 (gi S 25)) 26).symm.trans (congrArg (fun z => ri (ri (ri S 14 (va_up (va_up (gi S 14) 6 (nI (B 4))) 7 (nI n0))) 25 (gi S 25)) 26 z) (e_in (by decide) (e_in (by decide) rfl))))] at hW
  rw [show (ri (ri (ri S 14 (va_up (va_up (gi S 14) 6 (nI (B 4))) 7 (nI n0))) 25 (gi S 25)) 26 (gi S 26)) = (ri (ri (ri (ri S 14 (va_up (va_up (gi S 14) 6 (nI (B 4))) 7 (nI n0))) 25 (gi S 25)) 26 (gi S 26)) 27 (gi S 27)) from ((ri_id (ri (ri (ri S 14 (va_up (va_up (gi S 14) 6 (nI (B 4))) 7 (nI n0))) 25 (gi S 25)) 26 (gi S 26)) 27).symm.trans (congrArg (fun z => ri (ri (ri (ri S 14 (va_up (va_up (gi S 14) 6 (nI (B 4))) 7 (nI n0))) 25 (gi S 25)) 26 (gi S 26)) 27 z) (e_in (by decide) (e_in (by decide) (e_in (by decide) rfl)))))] at hW
  have L22 : ∀ (n : Nat) (i : Nat) (f25 : Nat → Int32) (f26 : Nat → Int32) (f27 : Nat → Int32) (H : Heap) (locs : List Loc) (ls : Array Slot), (B 4 - i) < n → i ≤ B 4 → (∀ j, j < i → f25 j = nI (qb (Qc B law) j) ∧ f26 j = nI (ql (Qc B law) j) ∧ f27 j = nI (qo (Qc B law) j)) → Wd D (AW G s.heap.size) s G (ri (ri (ri (ri S 14 (va_up (va_up (gi S 14) 6 (nI (B 4))) 7 (nI n0))) 25 f25) 26 f26) 27 f27) H locs → lv_has ls 8 [(6, .int (nI i)), (4, .int (nI (moT i (qb (Qc B law))))), (5, .int (nI (sT i (qo (Qc B law))))), (0, .ref (gA G 14)), (1, .ref (gA G h)), (2, .int (nI law)), (3, .int (nI n0))] → W pP l eE (headSpec wsX0_takeChances rmX0_takeChances).room s mM ([.ref (gA G 14), .ref (gA G h), .int (nI law), .int (nI n0)] : List Value).toArray bl mT cD H locs 0 0 Q0 (F0 mM 22 ls []) := by
    intro n
    induction n with
    | zero => intro i f25 f26 f27 H locs ls hm; exact absurd hm (Nat.not_lt_zero _)
    | succ n ih22 =>
      intro i f25 f26 f27 H locs ls hm22 hi hf hW hl
      refine lv_iload hx hb dX0_takeChances_22 (lv_at hl 0 rfl) ?_
      refine lv_aload_n hx hb dX0_takeChances_24 rfl (lv_at hl 3 rfl) ?_
      refine r_geti (ci := 0) (C := RX0) (T := TX0) (N := 10) hx hb hts iX0 hown hW rfl 14 6 rfl (g_lt hG (by decide)) (g_kd hG (by decide) rfl) (by decide) q1 (fun _ h9 => h9) (nI (B 4)) (congrFun (e_in (by decide) (e_in (by decide) (e_in (by decide) (e_is _ _ _)))) 6) rfl rfl dX0_takeChances_25 ?_
      refine lv_icmp_ge (tgt := 123) hx hb dX0_takeChances_28 (by decide) (fun c28 => ?_) (fun c28 => ?_)
      · skip
        have hie : i = B 4 := by
          have h9 := (n_le (a := B 4) (b := i) (by omega) (by omega)).mp c28
          omega
        rw [hie] at hf
        have hl : lv_has ls 8 [(6, .int (nI (B 4))), (4, .int (nI (moT (B 4) (qb (Qc B law))))), (5, .int (nI (sT (B 4) (qo (Qc B law))))), (0, .ref (gA G 14)), (1, .ref (gA G h)), (2, .int (nI law)), (3, .int (nI n0))] := by rw [hie] at hl; exact hl
        refine lv_aload_n hx hb dX0_takeChances_123 rfl (lv_at hl 3 rfl) ?_
        refine lv_iload_n hx hb dX0_takeChances_124 rfl (lv_at hl 6 rfl) ?_
        refine lv_iload hx hb dX0_takeChances_125 (lv_at hl 1 rfl) ?_
        refine lv_imul hx hb dX0_takeChances_127 ?_
        rw [show (((nI n0) * (nI (moT (B 4) (qb (Qc B law))))) : Int32) = (nI (enF B law n0)) from n_mul _ _]
        refine r_puti (ci := 0) (C := RX0) (T := TX0) (N := 10) hx hb hts iX0 tyX0 tyX0_ok nmX0 hown hW rfl 14 8 rfl (g_lt hG (by decide)) (g_kd hG (by decide) rfl) (by decide) q3 (fun _ h9 => h9) rfl (tyX0_ok 8 (by decide)) rfl rfl (ri (ri (ri (ri S 14 (va_up (va_up (va_up (gi S 14) 6 (nI (B 4))) 7 (nI n0)) 8 (nI (enF B law n0)))) 25 f25) 26 f26) 27 f27) (va_up (va_up (gi S 14) 6 (nI (B 4))) 7 (nI n0)) (va_up (va_up (va_up (gi S 14) 6 (nI (B 4))) 7 (nI n0)) 8 (nI (enF B law n0))) (e_in (by decide) (e_in (by decide) (e_in (by decide) (e_is _ _ _)))) (e_in (by decide) (e_in (by decide) (e_in (by decide) (e_is _ _ _)))) rfl rfl rfl (Nat.le_of_ble_eq_true rfl) rfl (c_ui (c_ui (c_ui c_i))) dX0_takeChances_128 (fun H locs hW => ?_)
        refine lv_aload_n hx hb dX0_takeChances_131 rfl (lv_at hl 3 rfl) ?_
        refine lv_lconst (v := 1) hx hb dX0_takeChances_132 (by decide) ?_
        refine W.eq (g2 := F0 mM 133 ls [.long (lN (tot (Qc B law) ^ 0)), .ref (gA G 14)]) (by rw [Nat.pow_zero]; rfl) ?_
        refine r_putl (ci := 0) (C := RX0) (T := TX0) (N := 10) hx hb hts iX0 tyX0 tyX0_ok nmX0 hown hW rfl 14 9 rfl (g_lt hG (by decide)) (g_kd hG (by decide) rfl) (by decide) q4 (fun _ h9 => h9) rfl (tyX0_ok 9 (by decide)) rfl rfl (rj (ri (ri (ri (ri S 14 (va_up (va_up (va_up (gi S 14) 6 (nI (B 4))) 7 (nI n0)) 8 (nI (enF B law n0)))) 25 f25) 26 f26) 27 f27) 14 (va_up (gj S 14) 9 (lN (tot (Qc B law) ^ 0)))) (gj S 14) (va_up (gj S 14) 9 (lN (tot (Qc B law) ^ 0))) rfl (e_js _ _ _) rfl rfl rfl (Nat.le_of_ble_eq_true rfl) rfl c_j0 dX0_takeChances_133 (fun H locs hW => ?_)
        refine lv_iconst (v := 0) hx hb dX0_takeChances_136 (by decide) ?_
        refine lv_istore (lv' := [(6, .int 0), (4, .int (nI (moT (B 4) (qb (Qc B law))))), (5, .int (nI (sT (B 4) (qo (Qc B law))))), (0, .ref (gA G 14)), (1, .ref (gA G h)), (2, .int (nI law)), (3, .int (nI n0))]) hx hb dX0_takeChances_137 hl (by decide) rfl (fun ls hl => ?_)
        have L139 : ∀ (n : Nat) (k : Nat) (H : Heap) (locs : List Loc) (ls : Array Slot), (n0 - k) < n → k ≤ n0 → Wd D (AW G s.heap.size) s G (rj (ri (ri (ri (ri S 14 (va_up (va_up (va_up (gi S 14) 6 (nI (B 4))) 7 (nI n0)) 8 (nI (enF B law n0)))) 25 f25) 26 f26) 27 f27) 14 (va_up (gj S 14) 9 (lN (tot (Qc B law) ^ k)))) H locs → lv_has ls 8 [(6, .int (nI k)), (5, .int (nI (sT (B 4) (qo (Qc B law))))), (0, .ref (gA G 14)), (3, .int (nI n0))] → W pP l eE (headSpec wsX0_takeChances rmX0_takeChances).room s mM ([.ref (gA G 14), .ref (gA G h), .int (nI law), .int (nI n0)] : List Value).toArray bl mT cD H locs 0 0 Q0 (F0 mM 139 ls []) := by
          intro n
          induction n with
          | zero => intro k H locs ls hm; exact absurd hm (Nat.not_lt_zero _)
          | succ n ih139 =>
            intro k H locs ls hm139 hk hW hl
            refine lv_iload hx hb dX0_takeChances_139 (lv_at hl 0 rfl) ?_
            refine lv_iload_n hx hb dX0_takeChances_141 rfl (lv_at hl 3 rfl) ?_
            refine lv_icmp_ge (tgt := 163) hx hb dX0_takeChances_142 (by decide) (fun c142 => ?_) (fun c142 => ?_)
            · skip
              have hk9 : n0 ≤ k := (n_le (by omega) (by omega)).mp c142
              rw [← hQ0]
              refine r_vret hx hb hr hlocks hW ?_ dX0_takeChances_163
              have hk3 : k = n0 := by omega
              subst hk3
              refine ⟨⟨congrFun (e_ij (e_in (by decide) (e_in (by decide) (e_in (by decide) (e_is _ _ _))))) 6, congrFun (e_ij (e_in (by decide) (e_in (by decide) (e_in (by decide) (e_is _ _ _))))) 7, congrFun (e_ij (e_in (by decide) (e_in (by decide) (e_in (by decide) (e_is _ _ _))))) 8, congrFun (e_js _ _ _) 9, fun j hj => ?_⟩, (Ch.rj (Ch.ri (Ch.ri (Ch.ri (Ch.ri Ch.rf (by omega)) (by omega)) (by omega)) (by omega)) (by omega))⟩
              obtain ⟨y1, y2, y3⟩ := hf j hj
              exact ⟨(congrFun (e_ij (e_in (by decide) (e_in (by decide) (e_is _ _ _)))) j).trans y1, (congrFun (e_ij (e_in (by decide) (e_is _ _ _))) j).trans y2, (congrFun (e_ij (e_is _ _ _)) j).trans y3⟩
            · skip
              have hkl : k < n0 := by
                have h9 : ¬ n0 ≤ k := fun z => c142 ((n_le (by omega) (by omega)).mpr z)
                omega
              refine lv_aload_n hx hb dX0_takeChances_145 rfl (lv_at hl 2 rfl) ?_
              refine lv_dup hx hb dX0_takeChances_146 rfl ?_
              refine r_getl (ci := 0) (C := RX0) (T := TX0) (N := 10) hx hb hts iX0 hown hW rfl 14 9 rfl (g_lt hG (by decide)) (g_kd hG (by decide) rfl) (by decide) q4 (fun _ h9 => h9) (lN (tot (Qc B law) ^ k)) (congrFun (e_js _ _ _) 9) rfl rfl dX0_takeChances_147 ?_
              refine lv_iload hx hb dX0_takeChances_150 (lv_at hl 1 rfl) ?_
              refine lv_i2l hx hb dX0_takeChances_152 rfl ?_
              refine lv_lmul hx hb dX0_takeChances_153 ?_
              rw [show (((lN (tot (Qc B law) ^ k)) * (Int32.toInt64 (nI (sT (B 4) (qo (Qc B law)))))) : Int64) = (lN (tot (Qc B law) ^ (k + 1))) from by rw [lN_of hs4, lN_mul, Nat.pow_succ]; rfl]
              refine r_putl (ci := 0) (C := RX0) (T := TX0) (N := 10) hx hb hts iX0 tyX0 tyX0_ok nmX0 hown hW rfl 14 9 rfl (g_lt hG (by decide)) (g_kd hG (by decide) rfl) (by decide) q4 (fun _ h9 => h9) rfl (tyX0_ok 9 (by decide)) rfl rfl (rj (ri (ri (ri (ri S 14 (va_up (va_up (va_up (gi S 14) 6 (nI (B 4))) 7 (nI n0)) 8 (nI (enF B law n0)))) 25 f25) 26 f26) 27 f27) 14 (va_up (gj S 14) 9 (lN (tot (Qc B law) ^ (k + 1))))) (va_up (gj S 14) 9 (lN (tot (Qc B law) ^ k))) (va_up (gj S 14) 9 (lN (tot (Qc B law) ^ (k + 1)))) (e_js _ _ _) (e_js _ _ _) rfl rfl rfl (Nat.le_of_ble_eq_true rfl) rfl c_j dX0_takeChances_154 (fun H locs hW => ?_)
              refine lv_iinc (v := (nI (k + 1))) (lv' := [(6, .int (nI (k + 1))), (5, .int (nI (sT (B 4) (qo (Qc B law))))), (0, .ref (gA G 14)), (3, .int (nI n0))]) hx hb dX0_takeChances_157 hl (k := 0) rfl (nI_1 k) (by decide) rfl (fun ls hl => ?_)
              refine lv_goto (tgt := 139) hx hb dX0_takeChances_160 (by decide) ?_
              exact ih139 (k + 1) _ _ ls (by omega) hkl hW (lv_sub hl [0, 1, 2, 3] rfl)
        exact L139 _ 0 _ _ ls (Nat.lt_succ_self _) (Nat.zero_le _) hW (lv_sub hl [0, 2, 3, 6] rfl)
      · skip
        have hlt : i < B 4 := by
          have h9 : ¬ B 4 ≤ i := fun z => c28 ((n_le (by omega) (by omega)).mpr z)
          omega
        have b7i := b7 i hlt
        have hbq : B (5 + i) * B 1 ≤ 9 * 9 := Nat.mul_le_mul b7i.1 b3
        have hmo : moT i (qb (Qc B law)) ≤ 81 := moT_le i (fun j hj => (Qc_b hB1 hl2 j (by omega)).1)
        refine lv_aload_n hx hb dX0_takeChances_31 rfl (lv_at hl 4 rfl) ?_
        refine r_getr (ci := 4) (C := RX5) (T := TX5) (N := 16) hx hb hts iX5 hown hW rfl h 9 rfl (p_lt hG hh (i := 0) (by decide)) (p_kd hG hh) (by decide) q5 (fun _ h9 => h9) (p_lk hP hh 0 (by decide)) rfl rfl dX0_takeChances_32 ?_
        refine lv_iload hx hb dX0_takeChances_35 (lv_at hl 0 rfl) ?_
        refine r_iald hx hb hW (h + 1) rfl (p_lt hG hh (i := 1) (by decide)) (p_kdA hG hh 1 (by decide) (by decide)) (by rw [p_z6 hG hh 1 (by decide) (by decide)]; exact n_inI (by omega) (by decide)) (nI (B (5 + i))) ((congrFun (e_in (by omega) (e_in (by omega) (e_in (by omega) (e_in (by omega) rfl)))) _).trans (by rw [n_clamp (by omega)]; exact (hR.2.1 i hlt).1)) dX0_takeChances_37 ?_
        refine lv_istore (lv' := [(7, .int (nI (B (5 + i)))), (6, .int (nI i)), (4, .int (nI (moT i (qb (Qc B law))))), (5, .int (nI (sT i (qo (Qc B law))))), (0, .ref (gA G 14)), (1, .ref (gA G h)), (2, .int (nI law)), (3, .int (nI n0))]) hx hb dX0_takeChances_38 hl (by decide) rfl (fun ls hl => ?_)
        refine lv_aload_n hx hb dX0_takeChances_40 rfl (lv_at hl 4 rfl) ?_
        refine r_getr (ci := 0) (C := RX0) (T := TX0) (N := 10) hx hb hts iX0 hown hW rfl 14 1 rfl (g_lt hG (by decide)) (g_kd hG (by decide) rfl) (by decide) q6 (fun _ h9 => h9) (hP _ (List.mem_of_getElem? (i := 26) rfl)) rfl rfl dX0_takeChances_41 ?_
        refine lv_iload hx hb dX0_takeChances_44 (lv_at hl 1 rfl) ?_
        refine lv_iload hx hb dX0_takeChances_46 (lv_at hl 0 rfl) ?_
        refine lv_aload_n hx hb dX0_takeChances_48 rfl (lv_at hl 5 rfl) ?_
        refine r_geti (ci := 4) (C := RX5) (T := TX5) (N := 16) hx hb hts iX5 hown hW rfl h 2 rfl (p_lt hG hh (i := 0) (by decide)) (p_kd hG hh) (by decide) q7 (fun _ h9 => h9) (nI (B 1)) ((congrFun (e_in (by omega) (e_in (by omega) (e_in (by omega) (e_in (by omega) rfl)))) 2).trans hR.1.2.2.1) rfl rfl dX0_takeChances_49 ?_
        refine lv_imul hx hb dX0_takeChances_52 ?_
        rw [show (((nI (B (5 + i))) * (nI (B 1))) : Int32) = (nI (B (5 + i) * B 1)) from n_mul _ _]
        refine r_iast hx hb hW 25 rfl (g_lt hG (by decide)) (g_kd hG (by decide) rfl) (g_ix hG (c := 6) (by decide) rfl (n_inI (by omega) (by decide))) (ri (ri (ri (ri S 14 (va_up (va_up (gi S 14) 6 (nI (B 4))) 7 (nI n0))) 25 (va_up f25 ((nI i)).toNatClampNeg (nI (B (5 + i) * B 1)))) 26 f26) 27 f27) f25 (e_in (by decide) (e_in (by decide) (e_is _ _ _))) (e_in (by decide) (e_in (by decide) (e_is _ _ _))) rfl rfl (c_ui (c_ui c_i)) dX0_takeChances_53 (fun H locs hW => ?_)
        rw [show ((nI i)).toNatClampNeg = i from n_clamp (by omega)] at hW
        refine lv_aload_n hx hb dX0_takeChances_54 rfl (lv_at hl 4 rfl) ?_
        refine r_getr (ci := 0) (C := RX0) (T := TX0) (N := 10) hx hb hts iX0 hown hW rfl 14 2 rfl (g_lt hG (by decide)) (g_kd hG (by decide) rfl) (by decide) q8 (fun _ h9 => h9) (hP _ (List.mem_of_getElem? (i := 27) rfl)) rfl rfl dX0_takeChances_55 ?_
        refine lv_iload hx hb dX0_takeChances_58 (lv_at hl 1 rfl) ?_
        refine lv_iload hx hb dX0_takeChances_60 (lv_at hl 0 rfl) ?_
        refine lv_if_ne (tgt := 69) hx hb dX0_takeChances_62 (by decide) (fun c62 => ?_) (fun c62 => ?_)
        · skip
          have hz0 : ¬ B (5 + i) = 0 := fun z => c62 (by rw [z]; rfl)
          refine lv_aload_n hx hb dX0_takeChances_69 rfl (lv_at hl 5 rfl) ?_
          refine lv_iload_n hx hb dX0_takeChances_70 rfl (lv_at hl 6 rfl) ?_
          refine lv_iload hx hb dX0_takeChances_71 (lv_at hl 0 rfl) ?_
          refine r_calli hW hA (va_runV (As := [.int (nI law), .int (nI (B (5 + i)))]) (rest := [.int (nI i), .ref (gA G 26)]) ⟨hx, hb, hml, hown, hts⟩ (t_X5_owed l D G (ri (ri (ri (ri S 14 (va_up (va_up (gi S 14) 6 (nI (B 4))) 7 (nI n0))) 25 (va_up f25 i (nI (B (5 + i) * B 1)))) 26 f26) 27 f27) _ hG hP h hh law (B (5 + i)) (B 3) (B 1) hl2 (by omega) (b7 i hlt).1 b5 b3 ((congrFun (e_in (by omega) (e_in (by omega) (e_in (by omega) (e_in (by omega) rfl)))) 2).trans hR.1.2.2.1) ((congrFun (e_in (by omega) (e_in (by omega) (e_in (by omega) (e_in (by omega) rfl)))) 4).trans hR.1.2.2.2.2.1)) (cwV 2 hts gX0_takeChances_X5_owed rfl rfl rfl (by decide +kernel) ⟨Nat.le_of_ble_eq_true rfl, Nat.le_of_ble_eq_true rfl⟩) (r_preV (k := h) hA hW (ci := 4) (C := RX5) (T := TX5) (N := 16) rfl rfl (p_lt hG hh (i := 0) (by decide)) (p_kd hG hh) rfl rfl) rfl rfl hl.1 rfl (lv_room (Nat.le_of_ble_eq_true rfl)) dX0_takeChances_73 ⟨Nat.zero_le _, Nat.zero_le _⟩) (fun r73 S73 H locs hp73 hW => ?_)
          obtain ⟨hs73, rfl⟩ := hp73
          rw [hs73] at hW
          have ed : (nI (dueN (B 3) (B 1) law (B (5 + i)))) = (nI (ql (Qc B law) i)) := by show _ = nI (if B (5 + i) = 0 then 0 else dueN (B 3) (B 1) law (B (5 + i))); rw [if_neg hz0]
          refine W.eq (g2 := F0 mM 76 ls [.int (nI (ql (Qc B law) i)), .int (nI i), .ref (gA G 26)]) (by rw [← ed]) ?_
          refine r_iast hx hb hW 26 rfl (g_lt hG (by decide)) (g_kd hG (by decide) rfl) (g_ix hG (c := 6) (by decide) rfl (n_inI (by omega) (by decide))) (ri (ri (ri (ri S 14 (va_up (va_up (gi S 14) 6 (nI (B 4))) 7 (nI n0))) 25 (va_up f25 i (nI (B (5 + i) * B 1)))) 26 (va_up f26 ((nI i)).toNatClampNeg (nI (ql (Qc B law) i)))) 27 f27) f26 (e_in (by decide) (e_is _ _ _)) (e_in (by decide) (e_is _ _ _)) rfl rfl (c_ui c_i) dX0_takeChances_76 (fun H locs hW => ?_)
          rw [show ((nI i)).toNatClampNeg = i from n_clamp (by omega)] at hW
          refine lv_aload_n hx hb dX0_takeChances_77 rfl (lv_at hl 4 rfl) ?_
          refine r_getr (ci := 0) (C := RX0) (T := TX0) (N := 10) hx hb hts iX0 hown hW rfl 14 3 rfl (g_lt hG (by decide)) (g_kd hG (by decide) rfl) (by decide) q9 (fun _ h9 => h9) (hP _ (List.mem_of_getElem? (i := 28) rfl)) rfl rfl dX0_takeChances_78 ?_
          refine lv_iload hx hb dX0_takeChances_81 (lv_at hl 1 rfl) ?_
          refine lv_aload_n hx hb dX0_takeChances_83 rfl (lv_at hl 5 rfl) ?_
          refine r_getr (ci := 4) (C := RX5) (T := TX5) (N := 16) hx hb hts iX5 hown hW rfl h 10 rfl (p_lt hG hh (i := 0) (by decide)) (p_kd hG hh) (by decide) q10 (fun _ h9 => h9) (p_lk hP hh 1 (by decide)) rfl rfl dX0_takeChances_84 ?_
          refine lv_iload hx hb dX0_takeChances_87 (lv_at hl 1 rfl) ?_
          refine r_iald hx hb hW (h + 2) rfl (p_lt hG hh (i := 2) (by decide)) (p_kdA hG hh 2 (by decide) (by decide)) (by rw [p_z6 hG hh 2 (by decide) (by decide)]; exact n_inI (by omega) (by decide)) (nI (B (11 + i))) ((congrFun (e_in (by omega) (e_in (by omega) (e_in (by omega) (e_in (by omega) rfl)))) _).trans (by rw [n_clamp (by omega)]; exact (hR.2.1 i hlt).2)) dX0_takeChances_89 ?_
          refine r_iast hx hb hW 27 rfl (g_lt hG (by decide)) (g_kd hG (by decide) rfl) (g_ix hG (c := 6) (by decide) rfl (n_inI (by omega) (by decide))) (ri (ri (ri (ri S 14 (va_up (va_up (gi S 14) 6 (nI (B 4))) 7 (nI n0))) 25 (va_up f25 i (nI (B (5 + i) * B 1)))) 26 (va_up f26 i (nI (ql (Qc B law) i)))) 27 (va_up f27 ((nI i)).toNatClampNeg (nI (B (11 + i))))) f27 (e_is _ _ _) (e_is _ _ _) rfl rfl c_i dX0_takeChances_90 (fun H locs hW => ?_)
          rw [show ((nI i)).toNatClampNeg = i from n_clamp (by omega)] at hW
          refine lv_iload hx hb dX0_takeChances_91 (lv_at hl 2 rfl) ?_
          refine lv_aload_n hx hb dX0_takeChances_93 rfl (lv_at hl 4 rfl) ?_
          refine r_getr (ci := 0) (C := RX0) (T := TX0) (N := 10) hx hb hts iX0 hown hW rfl 14 1 rfl (g_lt hG (by decide)) (g_kd hG (by decide) rfl) (by decide) q6 (fun _ h9 => h9) (hP _ (List.mem_of_getElem? (i := 26) rfl)) rfl rfl dX0_takeChances_94 ?_
          refine lv_iload hx hb dX0_takeChances_97 (lv_at hl 1 rfl) ?_
          refine r_iald hx hb hW 25 rfl (g_lt hG (by decide)) (g_kd hG (by decide) rfl) (g_ix hG (c := 6) (by decide) rfl (n_inI (by omega) (by decide))) (nI (B (5 + i) * B 1)) ((congrFun (e_in (by decide) (e_in (by decide) (e_is _ _ _))) _).trans (by rw [n_clamp (by omega)]; exact up_s _ _ _)) dX0_takeChances_99 ?_
          refine va_mmax hx hb (hml.trans hl.1.symm) hown q11 q12 q13 q14 (Nat.le_of_ble_eq_true rfl) (Nat.le_of_ble_eq_true rfl) (Nat.zero_le _) (Nat.zero_le _) dX0_takeChances_100 ?_
          rw [show ((if (nI (moT i (qb (Qc B law)))) < (nI (B (5 + i) * B 1)) then (nI (B (5 + i) * B 1)) else (nI (moT i (qb (Qc B law))))) : Int32) = (nI (max (moT i (qb (Qc B law))) (B (5 + i) * B 1))) from n_max (a := (moT i (qb (Qc B law)))) (b := (B (5 + i) * B 1)) (by omega) (by omega)]
          rw [show ((nI (max (moT i (qb (Qc B law))) (B (5 + i) * B 1))) : Int32) = (nI (moT (i + 1) (qb (Qc B law)))) from rfl]
          refine lv_istore (lv' := [(4, .int (nI (moT (i + 1) (qb (Qc B law))))), (7, .int (nI (B (5 + i)))), (6, .int (nI i)), (5, .int (nI (sT i (qo (Qc B law))))), (0, .ref (gA G 14)), (1, .ref (gA G h)), (2, .int (nI law)), (3, .int (nI n0))]) hx hb dX0_takeChances_103 hl (by decide) rfl (fun ls hl => ?_)
          refine lv_iload hx hb dX0_takeChances_105 (lv_at hl 3 rfl) ?_
          refine lv_aload_n hx hb dX0_takeChances_107 rfl (lv_at hl 4 rfl) ?_
          refine r_getr (ci := 0) (C := RX0) (T := TX0) (N := 10) hx hb hts iX0 hown hW rfl 14 3 rfl (g_lt hG (by decide)) (g_kd hG (by decide) rfl) (by decide) q9 (fun _ h9 => h9) (hP _ (List.mem_of_getElem? (i := 28) rfl)) rfl rfl dX0_takeChances_108 ?_
          refine lv_iload hx hb dX0_takeChances_111 (lv_at hl 2 rfl) ?_
          refine r_iald hx hb hW 27 rfl (g_lt hG (by decide)) (g_kd hG (by decide) rfl) (g_ix hG (c := 6) (by decide) rfl (n_inI (by omega) (by decide))) (nI (B (11 + i))) ((congrFun (e_is _ _ _) _).trans (by rw [n_clamp (by omega)]; exact up_s _ _ _)) dX0_takeChances_113 ?_
          refine lv_iadd hx hb dX0_takeChances_114 ?_
          rw [show (((nI (sT i (qo (Qc B law)))) + (nI (B (11 + i)))) : Int32) = (nI (sT (i + 1) (qo (Qc B law)))) from n_add _ _]
          refine lv_istore (lv' := [(5, .int (nI (sT (i + 1) (qo (Qc B law))))), (4, .int (nI (moT (i + 1) (qb (Qc B law))))), (7, .int (nI (B (5 + i)))), (6, .int (nI i)), (0, .ref (gA G 14)), (1, .ref (gA G h)), (2, .int (nI law)), (3, .int (nI n0))]) hx hb dX0_takeChances_115 hl (by decide) rfl (fun ls hl => ?_)
          refine lv_iinc (v := (nI (i + 1))) (lv' := [(6, .int (nI (i + 1))), (5, .int (nI (sT (i + 1) (qo (Qc B law))))), (4, .int (nI (moT (i + 1) (qb (Qc B law))))), (7, .int (nI (B (5 + i)))), (0, .ref (gA G 14)), (1, .ref (gA G h)), (2, .int (nI law)), (3, .int (nI n0))]) hx hb dX0_takeChances_117 hl (k := 3) rfl (nI_1 i) (by decide) rfl (fun ls hl => ?_)
          refine lv_goto (tgt := 22) hx hb dX0_takeChances_120 (by decide) ?_
          exact ih22 (i + 1) (va_up f25 i (nI (B (5 + i) * B 1))) (va_up f26 i (nI (ql (Qc B law) i))) (va_up f27 i (nI (B (11 + i)))) _ _ ls (by omega) hlt (fun j hj => by
                                        by_cases ej : j = i
                                        · subst ej; exact ⟨up_s _ _ _, up_s _ _ _, up_s _ _ _⟩
                                        · rw [up_n _ _ ej, up_n _ _ ej, up_n _ _ ej]; exact hf j (by omega)) hW (lv_sub hl [0, 2, 1, 4, 5, 6, 7] rfl)
        · skip
          have hz0 : B (5 + i) = 0 := by
            have z : nI (B (5 + i)) = nI 0 := c62
            exact (n_eq (by omega) (by omega)).mp z
          refine lv_iconst (v := 0) hx hb dX0_takeChances_65 (by decide) ?_
          refine lv_goto (tgt := 76) hx hb dX0_takeChances_66 (by decide) ?_
          have ed : (0 : Int32) = (nI (ql (Qc B law) i)) := by show _ = nI (if B (5 + i) = 0 then 0 else dueN (B 3) (B 1) law (B (5 + i))); rw [if_pos hz0]; rfl
          refine W.eq (g2 := F0 mM 76 ls [.int (nI (ql (Qc B law) i)), .int (nI i), .ref (gA G 26)]) (by rw [← ed]) ?_
          refine r_iast hx hb hW 26 rfl (g_lt hG (by decide)) (g_kd hG (by decide) rfl) (g_ix hG (c := 6) (by decide) rfl (n_inI (by omega) (by decide))) (ri (ri (ri (ri S 14 (va_up (va_up (gi S 14) 6 (nI (B 4))) 7 (nI n0))) 25 (va_up f25 i (nI (B (5 + i) * B 1)))) 26 (va_up f26 ((nI i)).toNatClampNeg (nI (ql (Qc B law) i)))) 27 f27) f26 (e_in (by decide) (e_is _ _ _)) (e_in (by decide) (e_is _ _ _)) rfl rfl (c_ui c_i) dX0_takeChances_76 (fun H locs hW => ?_)
          rw [show ((nI i)).toNatClampNeg = i from n_clamp (by omega)] at hW
          refine lv_aload_n hx hb dX0_takeChances_77 rfl (lv_at hl 4 rfl) ?_
          refine r_getr (ci := 0) (C := RX0) (T := TX0) (N := 10) hx hb hts iX0 hown hW rfl 14 3 rfl (g_lt hG (by decide)) (g_kd hG (by decide) rfl) (by decide) q9 (fun _ h9 => h9) (hP _ (List.mem_of_getElem? (i := 28) rfl)) rfl rfl dX0_takeChances_78 ?_
          refine lv_iload hx hb dX0_takeChances_81 (lv_at hl 1 rfl) ?_
          refine lv_aload_n hx hb dX0_takeChances_83 rfl (lv_at hl 5 rfl) ?_
          refine r_getr (ci := 4) (C := RX5) (T := TX5) (N := 16) hx hb hts iX5 hown hW rfl h 10 rfl (p_lt hG hh (i := 0) (by decide)) (p_kd hG hh) (by decide) q10 (fun _ h9 => h9) (p_lk hP hh 1 (by decide)) rfl rfl dX0_takeChances_84 ?_
          refine lv_iload hx hb dX0_takeChances_87 (lv_at hl 1 rfl) ?_
          refine r_iald hx hb hW (h + 2) rfl (p_lt hG hh (i := 2) (by decide)) (p_kdA hG hh 2 (by decide) (by decide)) (by rw [p_z6 hG hh 2 (by decide) (by decide)]; exact n_inI (by omega) (by decide)) (nI (B (11 + i))) ((congrFun (e_in (by omega) (e_in (by omega) (e_in (by omega) (e_in (by omega) rfl)))) _).trans (by rw [n_clamp (by omega)]; exact (hR.2.1 i hlt).2)) dX0_takeChances_89 ?_
          refine r_iast hx hb hW 27 rfl (g_lt hG (by decide)) (g_kd hG (by decide) rfl) (g_ix hG (c := 6) (by decide) rfl (n_inI (by omega) (by decide))) (ri (ri (ri (ri S 14 (va_up (va_up (gi S 14) 6 (nI (B 4))) 7 (nI n0))) 25 (va_up f25 i (nI (B (5 + i) * B 1)))) 26 (va_up f26 i (nI (ql (Qc B law) i)))) 27 (va_up f27 ((nI i)).toNatClampNeg (nI (B (11 + i))))) f27 (e_is _ _ _) (e_is _ _ _) rfl rfl c_i dX0_takeChances_90 (fun H locs hW => ?_)
          rw [show ((nI i)).toNatClampNeg = i from n_clamp (by omega)] at hW
          refine lv_iload hx hb dX0_takeChances_91 (lv_at hl 2 rfl) ?_
          refine lv_aload_n hx hb dX0_takeChances_93 rfl (lv_at hl 4 rfl) ?_
          refine r_getr (ci := 0) (C := RX0) (T := TX0) (N := 10) hx hb hts iX0 hown hW rfl 14 1 rfl (g_lt hG (by decide)) (g_kd hG (by decide) rfl) (by decide) q6 (fun _ h9 => h9) (hP _ (List.mem_of_getElem? (i := 26) rfl)) rfl rfl dX0_takeChances_94 ?_
          refine lv_iload hx hb dX0_takeChances_97 (lv_at hl 1 rfl) ?_
          refine r_iald hx hb hW 25 rfl (g_lt hG (by decide)) (g_kd hG (by decide) rfl) (g_ix hG (c := 6) (by decide) rfl (n_inI (by omega) (by decide))) (nI (B (5 + i) * B 1)) ((congrFun (e_in (by decide) (e_in (by decide) (e_is _ _ _))) _).trans (by rw [n_clamp (by omega)]; exact up_s _ _ _)) dX0_takeChances_99 ?_
          refine va_mmax hx hb (hml.trans hl.1.symm) hown q11 q12 q13 q14 (Nat.le_of_ble_eq_true rfl) (Nat.le_of_ble_eq_true rfl) (Nat.zero_le _) (Nat.zero_le _) dX0_takeChances_100 ?_
          rw [show ((if (nI (moT i (qb (Qc B law)))) < (nI (B (5 + i) * B 1)) then (nI (B (5 + i) * B 1)) else (nI (moT i (qb (Qc B law))))) : Int32) = (nI (max (moT i (qb (Qc B law))) (B (5 + i) * B 1))) from n_max (a := (moT i (qb (Qc B law)))) (b := (B (5 + i) * B 1)) (by omega) (by omega)]
          rw [show ((nI (max (moT i (qb (Qc B law))) (B (5 + i) * B 1))) : Int32) = (nI (moT (i + 1) (qb (Qc B law)))) from rfl]
          refine lv_istore (lv' := [(4, .int (nI (moT (i + 1) (qb (Qc B law))))), (7, .int (nI (B (5 + i)))), (6, .int (nI i)), (5, .int (nI (sT i (qo (Qc B law))))), (0, .ref (gA G 14)), (1, .ref (gA G h)), (2, .int (nI law)), (3, .int (nI n0))]) hx hb dX0_takeChances_103 hl (by decide) rfl (fun ls hl => ?_)
          refine lv_iload hx hb dX0_takeChances_105 (lv_at hl 3 rfl) ?_
          refine lv_aload_n hx hb dX0_takeChances_107 rfl (lv_at hl 4 rfl) ?_
          refine r_getr (ci := 0) (C := RX0) (T := TX0) (N := 10) hx hb hts iX0 hown hW rfl 14 3 rfl (g_lt hG (by decide)) (g_kd hG (by decide) rfl) (by decide) q9 (fun _ h9 => h9) (hP _ (List.mem_of_getElem? (i := 28) rfl)) rfl rfl dX0_takeChances_108 ?_
          refine lv_iload hx hb dX0_takeChances_111 (lv_at hl 2 rfl) ?_
          refine r_iald hx hb hW 27 rfl (g_lt hG (by decide)) (g_kd hG (by decide) rfl) (g_ix hG (c := 6) (by decide) rfl (n_inI (by omega) (by decide))) (nI (B (11 + i))) ((congrFun (e_is _ _ _) _).trans (by rw [n_clamp (by omega)]; exact up_s _ _ _)) dX0_takeChances_113 ?_
          refine lv_iadd hx hb dX0_takeChances_114 ?_
          rw [show (((nI (sT i (qo (Qc B law)))) + (nI (B (11 + i)))) : Int32) = (nI (sT (i + 1) (qo (Qc B law)))) from n_add _ _]
          refine lv_istore (lv' := [(5, .int (nI (sT (i + 1) (qo (Qc B law))))), (4, .int (nI (moT (i + 1) (qb (Qc B law))))), (7, .int (nI (B (5 + i)))), (6, .int (nI i)), (0, .ref (gA G 14)), (1, .ref (gA G h)), (2, .int (nI law)), (3, .int (nI n0))]) hx hb dX0_takeChances_115 hl (by decide) rfl (fun ls hl => ?_)
          refine lv_iinc (v := (nI (i + 1))) (lv' := [(6, .int (nI (i + 1))), (5, .int (nI (sT (i + 1) (qo (Qc B law))))), (4, .int (nI (moT (i + 1) (qb (Qc B law))))), (7, .int (nI (B (5 + i)))), (0, .ref (gA G 14)), (1, .ref (gA G h)), (2, .int (nI law)), (3, .int (nI n0))]) hx hb dX0_takeChances_117 hl (k := 3) rfl (nI_1 i) (by decide) rfl (fun ls hl => ?_)
          refine lv_goto (tgt := 22) hx hb dX0_takeChances_120 (by decide) ?_
          exact ih22 (i + 1) (va_up f25 i (nI (B (5 + i) * B 1))) (va_up f26 i (nI (ql (Qc B law) i))) (va_up f27 i (nI (B (11 + i)))) _ _ ls (by omega) hlt (fun j hj => by
                                        by_cases ej : j = i
                                        · subst ej; exact ⟨up_s _ _ _, up_s _ _ _, up_s _ _ _⟩
                                        · rw [up_n _ _ ej, up_n _ _ ej, up_n _ _ ej]; exact hf j (by omega)) hW (lv_sub hl [0, 2, 1, 4, 5, 6, 7] rfl)
  exact L22 _ 0 (gi S 25) (gi S 26) (gi S 27) _ _ ls (Nat.lt_succ_self _) (Nat.zero_le _) (fun j hj => absurd hj (Nat.not_lt_zero _)) hW (lv_sub hl [0, 2, 1, 3, 4, 5, 6] rfl)
