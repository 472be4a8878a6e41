def rmX5_partyAt : Jvm.Room := { frames := 0, cells := 0, slots := 0, locals := 0 }
set_option maxHeartbeats 4000000 in
set_option maxRecDepth 100000 in
theorem t_X5_partyAt (l : Launch) (D : Dc) (G : Gg) (S : Sg) (z : Nat) (hG : GrG G) (hP : GrP G S) (h : Nat) (hh : PassR h) (B : Nat → Nat) (h17 : B 17 ≤ 16) (h6 : gi S h 6 = nI (B 17)) (ht : RPt G S h B) (a1 : Int32) : MQ_ l yX5_partyAt wsX5_partyAt rmX5_partyAt D G S z [.ref (gA G h), .int a1] (fun r S' => S' = S ∧ ((∃ p q, p < B 17 ∧ a1 = nI p ∧ r = some (gA G q) ∧ 75 ≤ q ∧ q < gN G ∧ gp S (h + 7) p = some (gA G q) ∧ PtyOK G S q B p) ∨ (r = none ∧ (a1.toInt < 0 ∨ (B 17 : Int) ≤ a1.toInt)))) := by
  refine Met.ofW (cc := cX5_partyAt) (maxL := 2) (ret := (some (.object "WoodForTwo$Party"))) (by decide +kernel) rfl ?_
  intro pP eE s mM args bl mT cD s₁ bD hml hv
  obtain ⟨rfl, hv⟩ := hv
  have hz := hv.1
  subst hz
  have hx := bD.exec
  have hb := bD.bytes
  have hr := bD.returns
  have hts := atoms_spec (ws := wsX5_partyAt) bD.pre
  have hown : s.vm.findClass RX5 = some mM.cls := findClass_of_methodNamed bD.named
  have hlocks := bD.notSynchronized
  have hW := Wd.start hv
  have hA : ∀ q, s.heap.size ≤ q → AW G s.heap.size q := fun q h => Or.inr h
  have hl := lv_entry ([.ref (gA G h), .int a1]) (n := 2) (Nat.le_of_ble_eq_true rfl)
  rw [lg_entry_eq]
  generalize (lg_sl ([.ref (gA G h), .int a1]) ++ List.replicate (2 - (lg_sl ([.ref (gA G h), .int a1])).length) Slot.unset).toArray = ls at hl ⊢
  have hl : lv_has ls 2 [(0, .ref (gA G h)), (1, .int a1)] := hl
  have q0 := hts (.fieldLink RX5 56 "WoodForTwo$Pass" "parties" "I") (List.mem_of_getElem? (i := 1) rfl)
  have q1 := hts (.fieldLink RX5 32 "WoodForTwo$Pass" "told" "[LWoodForTwo$Party;") (List.mem_of_getElem? (i := 2) rfl)
  have iX5 : ∀ w ∈ wsX50, w ∈ wsX5_partyAt := fun _ h => List.mem_cons_of_mem _ (List.mem_append_right _ (h))
  refine lv_iload_n hx hb dX5_partyAt_0 rfl (lv_at hl 1 rfl) ?_
  refine lv_if_lt (tgt := 21) hx hb dX5_partyAt_1 (by decide) (fun c1 => ?_) (fun c1 => ?_)
  · skip
    refine lv_null hx hb dX5_partyAt_21 ?_
    refine r_aret (x := none) hx hb hr (Or.inl ⟨_, rfl⟩) hlocks hW ?_ dX5_partyAt_22
    refine ⟨rfl, Or.inr ⟨rfl, Or.inl ?_⟩⟩
    simpa [t_lt] using c1
  · skip
    refine lv_iload_n hx hb dX5_partyAt_4 rfl (lv_at hl 1 rfl) ?_
    refine lv_aload_n hx hb dX5_partyAt_5 rfl (lv_at hl 0 rfl) ?_
    refine r_geti (ci := 4) (C := RX5) (T := TX5) (N := 16) hx hb hts iX5 hown hW rfl h 6 rfl (p_lt hG hh (i := 0) (by decide)) (p_kd hG hh) (by decide) q0 (fun _ h9 => h9) (nI (B 17)) h6 rfl rfl dX5_partyAt_6 ?_
    refine lv_icmp_ge (tgt := 21) hx hb dX5_partyAt_9 (by decide) (fun c9 => ?_) (fun c9 => ?_)
    · skip
      refine lv_null hx hb dX5_partyAt_21 ?_
      refine r_aret (x := none) hx hb hr (Or.inl ⟨_, rfl⟩) hlocks hW ?_ dX5_partyAt_22
      refine ⟨rfl, Or.inr ⟨rfl, Or.inr ?_⟩⟩
      have h9 := (t_le _ _).mp c9
      rw [n_toInt (by omega)] at h9
      exact h9
    · skip
      have h1 : 0 ≤ a1.toInt := by simpa [t_lt] using c1
      obtain ⟨p, hp0, ep, ep2⟩ := n_of h1
      have hp : p < B 17 := by
        have h9 : ¬ nI (B 17) ≤ a1 := c9
        rw [ep, n_le (by omega) hp0] at h9
        omega
      obtain ⟨q, hq1, hq2, hq3, hq4⟩ := ht p hp
      refine lv_aload_n hx hb dX5_partyAt_12 rfl (lv_at hl 0 rfl) ?_
      refine r_getr (ci := 4) (C := RX5) (T := TX5) (N := 16) hx hb hts iX5 hown hW rfl h 15 rfl (p_lt hG hh (i := 0) (by decide)) (p_kd hG hh) (by decide) q1 (fun _ h9 => h9) (p_lk hP hh 6 (by decide)) rfl rfl dX5_partyAt_13 ?_
      refine lv_iload_n hx hb dX5_partyAt_16 rfl (lv_at hl 1 rfl) ?_
      refine r_aald hx hb hW (h + 7) rfl (p_lt hG hh (i := 7) (by decide)) 14 3 (p_kdT hG hh) rfl rfl (fun _ _ _ _ => rfl) (by rw [ep, p_z16 hG hh 7 (by decide) (by decide)]; exact n_inI (by omega) (by omega)) (some (gA G q)) (by rw [ep, n_clamp hp0]; exact hq3) dX5_partyAt_17 ?_
      refine W.eq (g2 := F0 mM 18 ls [.ref (gA G q)]) rfl ?_
      refine lv_goto (tgt := 22) hx hb dX5_partyAt_18 (by decide) ?_
      refine r_aret (x := (some (gA G q))) hx hb hr (Or.inl ⟨_, rfl⟩) hlocks hW ?_ dX5_partyAt_22
      exact ⟨rfl, Or.inl ⟨p, q, hp, ep, rfl, hq1, hq2, hq3, hq4⟩⟩

def rmX5_hasChance : Jvm.Room := { frames := 0, cells := 0, slots := 0, locals := 0 }
set_option maxHeartbeats 4000000 in
set_option maxRecDepth 100000 in
theorem t_X5_hasChance (l : Launch) (D : Dc) (G : Gg) (S : Sg) (z : Nat) (hG : GrG G) (hP : GrP G S) (h : Nat) (hh : PassR h) (B : Nat → Nat) (c : Nat) (hB : BP1 B c) (hR : RPs S h B) (a1 : Int32) : MI l yX5_hasChance wsX5_hasChance rmX5_hasChance D G S z [.ref (gA G h), .int a1] (fun r S' => S' = S ∧ ((r = 1 ∧ ∃ i, i < B 4 ∧ gi S (h + 1) i = a1) ∨ (r = 0 ∧ ∀ i, i < B 4 → ¬ gi S (h + 1) i = a1))) := by
  refine Met.ofW (cc := cX5_hasChance) (maxL := 3) (ret := (some .boolean)) (by decide +kernel) rfl ?_
  intro pP eE s mM args bl mT cD s₁ bD hml hv
  obtain ⟨rfl, hv⟩ := hv
  have hz := hv.1
  subst hz
  have hx := bD.exec
  have hb := bD.bytes
  have hr := bD.returns
  have hts := atoms_spec (ws := wsX5_hasChance) bD.pre
  have hown : s.vm.findClass RX5 = some mM.cls := findClass_of_methodNamed bD.named
  have hlocks := bD.notSynchronized
  have hW := Wd.start hv
  have hA : ∀ q, s.heap.size ≤ q → AW G s.heap.size q := fun q h => Or.inr h
  have hl := lv_entry ([.ref (gA G h), .int a1]) (n := 3) (Nat.le_of_ble_eq_true rfl)
  rw [lg_entry_eq]
  generalize (lg_sl ([.ref (gA G h), .int a1]) ++ List.replicate (3 - (lg_sl ([.ref (gA G h), .int a1])).length) Slot.unset).toArray = ls at hl ⊢
  have hl : lv_has ls 3 [(0, .ref (gA G h)), (1, .int a1)] := hl
  have q0 := hts (.fieldLink RX5 53 "WoodForTwo$Pass" "chances" "I") (List.mem_of_getElem? (i := 1) rfl)
  have q1 := hts (.fieldLink RX5 9 "WoodForTwo$Pass" "chanceHeads" "[I") (List.mem_of_getElem? (i := 2) rfl)
  have iX5 : ∀ w ∈ wsX50, w ∈ wsX5_hasChance := fun _ h => List.mem_cons_of_mem _ (List.mem_append_right _ (h))
  generalize hQ0 : MQ bl _ _ s _ _ _ = Q0
  obtain ⟨b0, b1, b2, b3, b4, b5, b6, b7, b8, b9, b10, b11, b12⟩ := hB
  refine lv_iconst (v := 0) hx hb dX5_hasChance_0 (by decide) ?_
  refine lv_istore_n (lv' := [(2, .int 0), (0, .ref (gA G h)), (1, .int a1)]) hx hb dX5_hasChance_1 rfl hl (by decide) rfl (fun ls hl => ?_)
  have L2 : ∀ (n : Nat) (i : Nat) (H : Heap) (locs : List Loc) (ls : Array Slot), (B 4 - i) < n → i ≤ B 4 → (∀ j, j < i → ¬ gi S (h + 1) j = a1) → Wd D (AW G s.heap.size) s G S H locs → lv_has ls 3 [(2, .int (nI i)), (0, .ref (gA G h)), (1, .int a1)] → W pP l eE (headSpec wsX5_hasChance rmX5_hasChance).room s mM ([.ref (gA G h), .int a1] : List Value).toArray bl mT cD H locs 0 0 Q0 (F0 mM 2 ls []) := by
    intro n
    induction n with
    | zero => intro i H locs ls hm; exact absurd hm (Nat.not_lt_zero _)
    | succ n ih2 =>
      intro i H locs ls hm2 hi hno hW hl
      refine lv_iload_n hx hb dX5_hasChance_2 rfl (lv_at hl 0 rfl) ?_
      refine lv_aload_n hx hb dX5_hasChance_3 rfl (lv_at hl 1 rfl) ?_
      refine r_geti (ci := 4) (C := RX5) (T := TX5) (N := 16) hx hb hts iX5 hown hW rfl h 5 rfl (p_lt hG hh (i := 0) (by decide)) (p_kd hG hh) (by decide) q0 (fun _ h9 => h9) (nI (B 4)) hR.2.2.2.2.2.1 rfl rfl dX5_hasChance_4 ?_
      refine lv_icmp_ge (tgt := 28) hx hb dX5_hasChance_7 (by decide) (fun c7 => ?_) (fun c7 => ?_)
      · skip
        have hge : B 4 ≤ i := (n_le (by omega) (by omega)).mp c7
        refine lv_iconst (v := 0) hx hb dX5_hasChance_28 (by decide) ?_
        rw [← hQ0]
        refine r_zret hx hb hr hlocks hW (Or.inl rfl) ?_ dX5_hasChance_29
        exact ⟨rfl, Or.inr ⟨rfl, fun j hj => hno j (by omega)⟩⟩
      · skip
        have hlt : i < B 4 := by
          have h9 : ¬ B 4 ≤ i := fun q => c7 ((n_le (by omega) (by omega)).mpr q)
          omega
        refine lv_aload_n hx hb dX5_hasChance_10 rfl (lv_at hl 1 rfl) ?_
        refine r_getr (ci := 4) (C := RX5) (T := TX5) (N := 16) hx hb hts iX5 hown hW rfl h 9 rfl (p_lt hG hh (i := 0) (by decide)) (p_kd hG hh) (by decide) q1 (fun _ h9 => h9) (p_lk hP hh 0 (by decide)) rfl rfl dX5_hasChance_11 ?_
        refine lv_iload_n hx hb dX5_hasChance_14 rfl (lv_at hl 0 rfl) ?_
        refine r_iald hx hb hW (h + 1) rfl (p_lt hG hh (i := 1) (by decide)) (p_kdA hG hh 1 (by decide) (by decide)) (by rw [p_z6 hG hh 1 (by decide) (by decide)]; exact n_inI (by omega) (by omega)) (gi S (h + 1) i) (by rw [n_clamp (by omega)]) dX5_hasChance_15 ?_
        refine lv_iload_n hx hb dX5_hasChance_16 rfl (lv_at hl 2 rfl) ?_
        refine lv_icmp_ne (tgt := 22) hx hb dX5_hasChance_17 (by decide) (fun c17 => ?_) (fun c17 => ?_)
        · skip
          refine lv_iinc (v := (nI (i + 1))) (lv' := [(2, .int (nI (i + 1))), (0, .ref (gA G h)), (1, .int a1)]) hx hb dX5_hasChance_22 hl (k := 0) rfl (nI_1 i) (by decide) rfl (fun ls hl => ?_)
          refine lv_goto (tgt := 2) hx hb dX5_hasChance_25 (by decide) ?_
          exact ih2 (i + 1) _ _ ls (by omega) hlt (fun j hj => by rcases Nat.lt_or_eq_of_le (Nat.lt_succ_iff.mp hj) with q | q; exact hno j q; rw [q]; exact c17) hW (lv_sub hl [0, 1, 2] rfl)
        · skip
          have hyes : gi S (h + 1) i = a1 := c17
          refine lv_iconst (v := 1) hx hb dX5_hasChance_20 (by decide) ?_
          rw [← hQ0]
          refine r_zret hx hb hr hlocks hW (Or.inr rfl) ?_ dX5_hasChance_21
          exact ⟨rfl, Or.inl ⟨rfl, i, hlt, hyes⟩⟩
  exact L2 _ 0 _ _ ls (Nat.lt_succ_self _) (Nat.zero_le _) (fun j hj => absurd hj (Nat.not_lt_zero _)) hW (lv_sub hl [0, 1, 2] rfl)

def rmX5_addChance : Jvm.Room := { frames := 0, cells := 0, slots := 0, locals := 0 }
set_option maxHeartbeats 4000000 in
set_option maxRecDepth 100000 in
theorem t_X5_addChance (l : Launch) (D : Dc) (G : Gg) (S : Sg) (z : Nat) (hG : GrG G) (hP : GrP G S) (h : Nat) (hh : PassR h) (n : Nat) (hn : n < 6) (h5 : gi S h 5 = nI n) (a1 a2 : Int32) : MV l yX5_addChance wsX5_addChance rmX5_addChance D G S z [.ref (gA G h), .int a1, .int a2] (fun S' => S' = ri (ri (ri S (h + 1) (va_up (gi S (h + 1)) n a1)) (h + 2) (va_up (gi S (h + 2)) n a2)) h (va_up (gi S h) 5 (nI (n + 1)))) := by
  refine Met.ofW (cc := cX5_addChance) (maxL := 3) (ret := none) (by decide +kernel) rfl ?_
  intro pP eE s mM args bl mT cD s₁ bD hml hv
  obtain ⟨rfl, hv⟩ := hv
  have hz := hv.1
  subst hz
  have hx := bD.exec
  have hb := bD.bytes
  have hr := bD.returns
  have hts := atoms_spec (ws := wsX5_addChance) bD.pre
  have hown : s.vm.findClass RX5 = some mM.cls := findClass_of_methodNamed bD.named
  have hlocks := bD.notSynchronized
  have hW := Wd.start hv
  have hA : ∀ q, s.heap.size ≤ q → AW G s.heap.size q := fun q h => Or.inr h
  have hl := lv_entry ([.ref (gA G h), .int a1, .int a2]) (n := 3) (Nat.le_of_ble_eq_true rfl)
  rw [lg_entry_eq]
  generalize (lg_sl ([.ref (gA G h), .int a1, .int a2]) ++ List.replicate (3 - (lg_sl ([.ref (gA G h), .int a1, .int a2])).length) Slot.unset).toArray = ls at hl ⊢
  have hl : lv_has ls 3 [(0, .ref (gA G h)), (1, .int a1), (2, .int a2)] := hl
  have q0 := hts (.fieldLink RX5 53 "WoodForTwo$Pass" "chances" "I") (List.mem_of_getElem? (i := 1) rfl)
  have q1 := hts (.fieldLink RX5 9 "WoodForTwo$Pass" "chanceHeads" "[I") (List.mem_of_getElem? (i := 2) rfl)
  have q2 := hts (.fieldLink RX5 15 "WoodForTwo$Pass" "chanceOdds" "[I") (List.mem_of_getElem? (i := 3) rfl)
  have iX5 : ∀ w ∈ wsX50, w ∈ wsX5_addChance := fun _ h => List.mem_cons_of_mem _ (List.mem_append_right _ (h))
  refine lv_aload_n hx hb dX5_addChance_0 rfl (lv_at hl 0 rfl) ?_
  refine r_geti (ci := 4) (C := RX5) (T := TX5) (N := 16) hx hb hts iX5 hown hW rfl h 5 rfl (p_lt hG hh (i := 0) (by decide)) (p_kd hG hh) (by decide) q0 (fun _ h9 => h9) (nI n) h5 rfl rfl dX5_addChance_1 ?_
  refine lv_bipush (v := 6) hx hb dX5_addChance_4 (by decide) ?_
  refine lv_icmp_ge (tgt := 39) hx hb dX5_addChance_6 (by decide) (fun c6 => ?_) (fun c6 => ?_)
  · exact absurd c6 (fun q : (6 : Int32) ≤ nI n => absurd ((n_le (a := 6) (b := n) (by omega) (by omega)).mp q) (by omega))
  · skip
    refine lv_aload_n hx hb dX5_addChance_9 rfl (lv_at hl 0 rfl) ?_
    refine r_getr (ci := 4) (C := RX5) (T := TX5) (N := 16) hx hb hts iX5 hown hW rfl h 9 rfl (p_lt hG hh (i := 0) (by decide)) (p_kd hG hh) (by decide) q1 (fun _ h9 => h9) (p_lk hP hh 0 (by decide)) rfl rfl dX5_addChance_10 ?_
    refine lv_aload_n hx hb dX5_addChance_13 rfl (lv_at hl 0 rfl) ?_
    refine r_geti (ci := 4) (C := RX5) (T := TX5) (N := 16) hx hb hts iX5 hown hW rfl h 5 rfl (p_lt hG hh (i := 0) (by decide)) (p_kd hG hh) (by decide) q0 (fun _ h9 => h9) (nI n) h5 rfl rfl dX5_addChance_14 ?_
    refine lv_iload_n hx hb dX5_addChance_17 rfl (lv_at hl 1 rfl) ?_
    refine r_iast hx hb hW (h + 1) rfl (p_lt hG hh (i := 1) (by decide)) (p_kdA hG hh 1 (by decide) (by decide)) (by rw [p_z6 hG hh 1 (by decide) (by decide)]; exact n_inI hn (by omega)) (ri S (h + 1) (va_up (gi S (h + 1)) ((nI n)).toNatClampNeg a1)) (gi S (h + 1)) rfl (e_is _ _ _) rfl rfl c_i0 dX5_addChance_18 (fun H locs hW => ?_)
    refine lv_aload_n hx hb dX5_addChance_19 rfl (lv_at hl 0 rfl) ?_
    refine r_getr (ci := 4) (C := RX5) (T := TX5) (N := 16) hx hb hts iX5 hown hW rfl h 10 rfl (p_lt hG hh (i := 0) (by decide)) (p_kd hG hh) (by decide) q2 (fun _ h9 => h9) (p_lk hP hh 1 (by decide)) rfl rfl dX5_addChance_20 ?_
    refine lv_aload_n hx hb dX5_addChance_23 rfl (lv_at hl 0 rfl) ?_
    refine r_geti (ci := 4) (C := RX5) (T := TX5) (N := 16) hx hb hts iX5 hown hW rfl h 5 rfl (p_lt hG hh (i := 0) (by decide)) (p_kd hG hh) (by decide) q0 (fun _ h9 => h9) (nI n) ((congrFun (e_in (by omega) rfl) 5).trans h5) rfl rfl dX5_addChance_24 ?_
    refine lv_iload_n hx hb dX5_addChance_27 rfl (lv_at hl 2 rfl) ?_
    refine r_iast hx hb hW (h + 2) rfl (p_lt hG hh (i := 2) (by decide)) (p_kdA hG hh 2 (by decide) (by decide)) (by rw [p_z6 hG hh 2 (by decide) (by decide)]; exact n_inI hn (by omega)) (ri (ri S (h + 1) (va_up (gi S (h + 1)) ((nI n)).toNatClampNeg a1)) (h + 2) (va_up (gi S (h + 2)) ((nI n)).toNatClampNeg a2)) (gi S (h + 2)) (e_in (by omega) rfl) (e_is _ _ _) rfl rfl c_i0 dX5_addChance_28 (fun H locs hW => ?_)
    refine lv_aload_n hx hb dX5_addChance_29 rfl (lv_at hl 0 rfl) ?_
    refine lv_dup hx hb dX5_addChance_30 rfl ?_
    refine r_geti (ci := 4) (C := RX5) (T := TX5) (N := 16) hx hb hts iX5 hown hW rfl h 5 rfl (p_lt hG hh (i := 0) (by decide)) (p_kd hG hh) (by decide) q0 (fun _ h9 => h9) (nI n) ((congrFun (e_in (by omega) (e_in (by omega) rfl)) 5).trans h5) rfl rfl dX5_addChance_31 ?_
    refine lv_iconst (v := 1) hx hb dX5_addChance_34 (by decide) ?_
    refine lv_iadd hx hb dX5_addChance_35 ?_
    refine r_puti (ci := 4) (C := RX5) (T := TX5) (N := 16) hx hb hts iX5 tyX5 tyX5_ok nmX5 hown hW rfl h 5 rfl (p_lt hG hh (i := 0) (by decide)) (p_kd hG hh) (by decide) q0 (fun _ h9 => h9) rfl (tyX5_ok 5 (by decide)) rfl rfl (ri (ri (ri S (h + 1) (va_up (gi S (h + 1)) ((nI n)).toNatClampNeg a1)) (h + 2) (va_up (gi S (h + 2)) ((nI n)).toNatClampNeg a2)) h (va_up (gi S h) 5 ((nI n) + 1))) (gi S h) (va_up (gi S h) 5 ((nI n) + 1)) (e_in (by omega) (e_in (by omega) rfl)) (e_is _ _ _) rfl rfl rfl (Nat.le_of_ble_eq_true rfl) rfl c_i0 dX5_addChance_36 (fun H locs hW => ?_)
    refine r_vret hx hb hr hlocks hW ?_ dX5_addChance_39
    rw [n_clamp (by omega), n_1, n_add]

def rmX5_owed : Jvm.Room := { frames := 0, cells := 0, slots := 0, locals := 0 }
set_option maxHeartbeats 4000000 in
set_option maxRecDepth 100000 in
theorem t_X5_owed (l : Launch) (D : Dc) (G : Gg) (S : Sg) (z : Nat) (hG : GrG G) (hP : GrP G S) (h : Nat) (hh : PassR h) (law m t b : Nat) (hlaw : law ≤ 2) (hm1 : 1 ≤ m) (hm : m ≤ 9) (ht : t ≤ 9) (hb9 : b ≤ 9) (h2 : gi S h 2 = nI b) (h4 : gi S h 4 = nI t) : MI l yX5_owed wsX5_owed rmX5_owed D G S z [.ref (gA G h), .int (nI law), .int (nI m)] (fun r S' => S' = S ∧ r = nI (dueN t b law m)) := by
  refine Met.ofW (cc := cX5_owed) (maxL := 3) (ret := (some .int)) (by decide +kernel) rfl ?_
  intro pP eE s mM args bl mT cD s₁ bD hml hv
  obtain ⟨rfl, hv⟩ := hv
  have hz := hv.1
  subst hz
  have hx := bD.exec
  have hb := bD.bytes
  have hr := bD.returns
  have hts := atoms_spec (ws := wsX5_owed) bD.pre
  have hown : s.vm.findClass RX5 = some mM.cls := findClass_of_methodNamed bD.named
  have hlocks := bD.notSynchronized
  have hW := Wd.start hv
  have hA : ∀ q, s.heap.size ≤ q → AW G s.heap.size q := fun q h => Or.inr h
  have hl := lv_entry ([.ref (gA G h), .int (nI law), .int (nI m)]) (n := 3) (Nat.le_of_ble_eq_true rfl)
  rw [lg_entry_eq]
  generalize (lg_sl ([.ref (gA G h), .int (nI law), .int (nI m)]) ++ List.replicate (3 - (lg_sl ([.ref (gA G h), .int (nI law), .int (nI m)])).length) Slot.unset).toArray = ls at hl ⊢
  have hl : lv_has ls 3 [(0, .ref (gA G h)), (1, .int (nI law)), (2, .int (nI m))] := hl
  have q0 := hts (.fieldLink RX5 50 "WoodForTwo$Pass" "times" "I") (List.mem_of_getElem? (i := 1) rfl)
  have q1 := hts (.fieldLink RX5 44 "WoodForTwo$Pass" "burn" "I") (List.mem_of_getElem? (i := 2) rfl)
  have iX5 : ∀ w ∈ wsX50, w ∈ wsX5_owed := fun _ h => List.mem_cons_of_mem _ (List.mem_append_right _ (h))
  have el : (nI law).toInt = law := n_toInt (by omega)
  refine lv_iload_n hx hb dX5_owed_0 rfl (lv_at hl 1 rfl) ?_
  rcases (show (¬ ((nI law)).toInt = 0 ∧ ¬ ((nI law)).toInt = 1) ∨ ((nI law)).toInt = 0 ∨ ((nI law)).toInt = 1 by omega) with k1 | k1 | k1
  · refine lv_lookup (off := 49) (tgt := 50) hx hb dX5_owed_1 (by decide) (by simp only [Op.lookupswitch.offset]; (repeat' split) <;> omega) (by decide) ?_
    refine lv_aload_n hx hb dX5_owed_50 rfl (lv_at hl 0 rfl) ?_
    refine r_geti (ci := 4) (C := RX5) (T := TX5) (N := 16) hx hb hts iX5 hown hW rfl h 4 rfl (p_lt hG hh (i := 0) (by decide)) (p_kd hG hh) (by decide) q0 (fun _ h9 => h9) (nI t) h4 rfl rfl dX5_owed_51 ?_
    refine lv_aload_n hx hb dX5_owed_54 rfl (lv_at hl 0 rfl) ?_
    refine r_geti (ci := 4) (C := RX5) (T := TX5) (N := 16) hx hb hts iX5 hown hW rfl h 2 rfl (p_lt hG hh (i := 0) (by decide)) (p_kd hG hh) (by decide) q1 (fun _ h9 => h9) (nI b) h2 rfl rfl dX5_owed_55 ?_
    refine lv_imul hx hb dX5_owed_58 ?_
    refine lv_iload_n hx hb dX5_owed_59 rfl (lv_at hl 2 rfl) ?_
    refine lv_iconst (v := 1) hx hb dX5_owed_60 (by decide) ?_
    refine lv_isub hx hb dX5_owed_61 ?_
    refine lv_aload_n hx hb dX5_owed_62 rfl (lv_at hl 0 rfl) ?_
    refine r_geti (ci := 4) (C := RX5) (T := TX5) (N := 16) hx hb hts iX5 hown hW rfl h 2 rfl (p_lt hG hh (i := 0) (by decide)) (p_kd hG hh) (by decide) q1 (fun _ h9 => h9) (nI b) h2 rfl rfl dX5_owed_63 ?_
    refine lv_imul hx hb dX5_owed_66 ?_
    refine lv_iconst (v := 2) hx hb dX5_owed_67 (by decide) ?_
    refine lv_idiv hx hb dX5_owed_68 (by decide) ?_
    refine lv_iadd hx hb dX5_owed_69 ?_
    refine r_iret hx hb hr hlocks hW ?_ dX5_owed_70
    refine ⟨rfl, ?_⟩
    have e : law = 2 := by omega
    subst e
    have e1 : nI m - 1 = nI (m - 1) := n_sub (b := 1) hm1
    have e2 : nI ((m - 1) * b) / 2 = nI ((m - 1) * b / 2) := n_div (d := 2) (by have := Nat.mul_le_mul (show m - 1 ≤ 9 by omega) hb9; omega) (by decide) (by decide)
    rw [n_mul, e1, n_mul, e2, n_add]; rfl
  · refine lv_lookup (off := 27) (tgt := 28) hx hb dX5_owed_1 (by decide) (by rw [k1]; rfl) (by decide) ?_
    refine lv_aload_n hx hb dX5_owed_28 rfl (lv_at hl 0 rfl) ?_
    refine r_geti (ci := 4) (C := RX5) (T := TX5) (N := 16) hx hb hts iX5 hown hW rfl h 4 rfl (p_lt hG hh (i := 0) (by decide)) (p_kd hG hh) (by decide) q0 (fun _ h9 => h9) (nI t) h4 rfl rfl dX5_owed_29 ?_
    refine lv_iload_n hx hb dX5_owed_32 rfl (lv_at hl 2 rfl) ?_
    refine lv_imul hx hb dX5_owed_33 ?_
    refine lv_aload_n hx hb dX5_owed_34 rfl (lv_at hl 0 rfl) ?_
    refine r_geti (ci := 4) (C := RX5) (T := TX5) (N := 16) hx hb hts iX5 hown hW rfl h 2 rfl (p_lt hG hh (i := 0) (by decide)) (p_kd hG hh) (by decide) q1 (fun _ h9 => h9) (nI b) h2 rfl rfl dX5_owed_35 ?_
    refine lv_imul hx hb dX5_owed_38 ?_
    refine r_iret hx hb hr hlocks hW ?_ dX5_owed_39
    refine ⟨rfl, ?_⟩
    have e : law = 0 := by omega
    subst e
    rw [n_mul, n_mul]; rfl
  · refine lv_lookup (off := 39) (tgt := 40) hx hb dX5_owed_1 (by decide) (by rw [k1]; rfl) (by decide) ?_
    refine lv_aload_n hx hb dX5_owed_40 rfl (lv_at hl 0 rfl) ?_
    refine r_geti (ci := 4) (C := RX5) (T := TX5) (N := 16) hx hb hts iX5 hown hW rfl h 4 rfl (p_lt hG hh (i := 0) (by decide)) (p_kd hG hh) (by decide) q0 (fun _ h9 => h9) (nI t) h4 rfl rfl dX5_owed_41 ?_
    refine lv_aload_n hx hb dX5_owed_44 rfl (lv_at hl 0 rfl) ?_
    refine r_geti (ci := 4) (C := RX5) (T := TX5) (N := 16) hx hb hts iX5 hown hW rfl h 2 rfl (p_lt hG hh (i := 0) (by decide)) (p_kd hG hh) (by decide) q1 (fun _ h9 => h9) (nI b) h2 rfl rfl dX5_owed_45 ?_
    refine lv_imul hx hb dX5_owed_48 ?_
    refine r_iret hx hb hr hlocks hW ?_ dX5_owed_49
    refine ⟨rfl, ?_⟩
    have e : law = 1 := by omega
    subst e
    rw [n_mul]; rfl

def rmX5_headsWithout : Jvm.Room := { frames := 0, cells := 0, slots := 0, locals := 0 }
set_option maxHeartbeats 4000000 in
set_option maxRecDepth 100000 in
theorem t_X5_headsWithout (l : Launch) (D : Dc) (G : Gg) (S : Sg) (z : Nat) (hG : GrG G) (hP : GrP G S) (h : Nat) (hh : PassR h) (n b : Nat) (hn : n ≤ 1000) (hb1 : 1 ≤ b) (hb9 : b ≤ 9) (h2 : gi S h 2 = nI b) : MI l yX5_headsWithout wsX5_headsWithout rmX5_headsWithout D G S z [.ref (gA G h), .int (nI n)] (fun r S' => S' = S ∧ r = nI ((n + b - 1) / b)) := by
  refine Met.ofW (cc := cX5_headsWithout) (maxL := 2) (ret := (some .int)) (by decide +kernel) rfl ?_
  intro pP eE s mM args bl mT cD s₁ bD hml hv
  obtain ⟨rfl, hv⟩ := hv
  have hz := hv.1
  subst hz
  have hx := bD.exec
  have hb := bD.bytes
  have hr := bD.returns
  have hts := atoms_spec (ws := wsX5_headsWithout) bD.pre
  have hown : s.vm.findClass RX5 = some mM.cls := findClass_of_methodNamed bD.named
  have hlocks := bD.notSynchronized
  have hW := Wd.start hv
  have hA : ∀ q, s.heap.size ≤ q → AW G s.heap.size q := fun q h => Or.inr h
  have hl := lv_entry ([.ref (gA G h), .int (nI n)]) (n := 2) (Nat.le_of_ble_eq_true rfl)
  rw [lg_entry_eq]
  generalize (lg_sl ([.ref (gA G h), .int (nI n)]) ++ List.replicate (2 - (lg_sl ([.ref (gA G h), .int (nI n)])).length) Slot.unset).toArray = ls at hl ⊢
  have hl : lv_has ls 2 [(0, .ref (gA G h)), (1, .int (nI n))] := hl
  have q0 := hts (.fieldLink RX5 44 "WoodForTwo$Pass" "burn" "I") (List.mem_of_getElem? (i := 1) rfl)
  have iX5 : ∀ w ∈ wsX50, w ∈ wsX5_headsWithout := fun _ h => List.mem_cons_of_mem _ (List.mem_append_right _ (h))
  refine lv_aload_n hx hb dX5_headsWithout_0 rfl (lv_at hl 0 rfl) ?_
  refine r_geti (ci := 4) (C := RX5) (T := TX5) (N := 16) hx hb hts iX5 hown hW rfl h 2 rfl (p_lt hG hh (i := 0) (by decide)) (p_kd hG hh) (by decide) q0 (fun _ h9 => h9) (nI b) h2 rfl rfl dX5_headsWithout_1 ?_
  refine lv_iconst (v := 1) hx hb dX5_headsWithout_4 (by decide) ?_
  refine lv_icmp_ge (tgt := 12) hx hb dX5_headsWithout_5 (by decide) (fun c5 => ?_) (fun c5 => ?_)
  · skip
    refine lv_iload_n hx hb dX5_headsWithout_12 rfl (lv_at hl 1 rfl) ?_
    refine lv_aload_n hx hb dX5_headsWithout_13 rfl (lv_at hl 0 rfl) ?_
    refine r_geti (ci := 4) (C := RX5) (T := TX5) (N := 16) hx hb hts iX5 hown hW rfl h 2 rfl (p_lt hG hh (i := 0) (by decide)) (p_kd hG hh) (by decide) q0 (fun _ h9 => h9) (nI b) h2 rfl rfl dX5_headsWithout_14 ?_
    refine lv_iadd hx hb dX5_headsWithout_17 ?_
    refine lv_iconst (v := 1) hx hb dX5_headsWithout_18 (by decide) ?_
    refine lv_isub hx hb dX5_headsWithout_19 ?_
    refine lv_aload_n hx hb dX5_headsWithout_20 rfl (lv_at hl 0 rfl) ?_
    refine r_geti (ci := 4) (C := RX5) (T := TX5) (N := 16) hx hb hts iX5 hown hW rfl h 2 rfl (p_lt hG hh (i := 0) (by decide)) (p_kd hG hh) (by decide) q0 (fun _ h9 => h9) (nI b) h2 rfl rfl dX5_headsWithout_21 ?_
    refine lv_idiv hx hb dX5_headsWithout_24 (fun q : nI b = nI 0 => absurd ((n_eq (by omega) (by omega)).mp q) (by omega)) ?_
    refine r_iret hx hb hr hlocks hW ?_ dX5_headsWithout_25
    refine ⟨rfl, ?_⟩
    rw [n_add, show nI (n + b) - 1 = nI (n + b - 1) from n_sub (b := 1) (by omega), n_div (by omega) (by omega) (by omega)]
  · exact absurd (n_le (a := 1) (b := b) (by omega) (by omega) |>.mpr hb1) c5

def rmX5_loseInSnow : Jvm.Room := { frames := 1, cells := 0, slots := 0, locals := 21 }
set_option maxHeartbeats 4000000 in
set_option maxRecDepth 100000 in
theorem t_X5_loseInSnow (l : Launch) (D : Dc) (G : Gg) (S : Sg) (z : Nat) (hG : GrG G) (hP : GrP G S) (h : Nat) (hh : PassR h) (w g x : Nat) (hw : w ≤ 999) (hx9 : x ≤ 99) (h1 : gi S h 1 = nI w) (h7 : gi S h 7 = nI g) : MV l yX5_loseInSnow wsX5_loseInSnow rmX5_loseInSnow D G S z [.ref (gA G h), .int (nI x)] (fun S' => S' = ri S h (va_up (va_up (gi S h) 1 (nI (w - x))) 7 (nI (g + 1)))) := by
  refine Met.ofW (cc := cX5_loseInSnow) (maxL := 2) (ret := none) (by decide +kernel) rfl ?_
  intro pP eE s mM args bl mT cD s₁ bD hml hv
  obtain ⟨rfl, hv⟩ := hv
  have hz := hv.1
  subst hz
  have hx := bD.exec
  have hb := bD.bytes
  have hr := bD.returns
  have hts := atoms_spec (ws := wsX5_loseInSnow) bD.pre
  have hown : s.vm.findClass RX5 = some mM.cls := findClass_of_methodNamed bD.named
  have hlocks := bD.notSynchronized
  have hW := Wd.start hv
  have hA : ∀ q, s.heap.size ≤ q → AW G s.heap.size q := fun q h => Or.inr h
  have hl := lv_entry ([.ref (gA G h), .int (nI x)]) (n := 2) (Nat.le_of_ble_eq_true rfl)
  rw [lg_entry_eq]
  generalize (lg_sl ([.ref (gA G h), .int (nI x)]) ++ List.replicate (2 - (lg_sl ([.ref (gA G h), .int (nI x)])).length) Slot.unset).toArray = ls at hl ⊢
  have hl : lv_has ls 2 [(0, .ref (gA G h)), (1, .int (nI x))] := hl
  have q0 := hts (.fieldLink RX5 40 "WoodForTwo$Pass" "wood" "I") (List.mem_of_getElem? (i := 1) rfl)
  have q1 := hts (.methodLink RX5 84 Lib.Math.min.name) (List.mem_of_getElem? (i := 2) rfl)
  have q2 := hts (.static Lib.Math.min.name) (List.mem_of_getElem? (i := 3) rfl)
  have q3 := hts (.initialized "java/lang/Math") (List.mem_of_getElem? (i := 4) rfl)
  have q4 := hts (.code Lib.Math.min.name Lib.Math.min.code 2 (some .int)) (List.mem_of_getElem? (i := 5) rfl)
  have q5 := hts (.fieldLink RX5 59 "WoodForTwo$Pass" "nightsGone" "I") (List.mem_of_getElem? (i := 6) rfl)
  have iX5 : ∀ w ∈ wsX50, w ∈ wsX5_loseInSnow := fun _ h => List.mem_cons_of_mem _ (List.mem_append_right _ (h))
  refine lv_aload_n hx hb dX5_loseInSnow_0 rfl (lv_at hl 0 rfl) ?_
  refine lv_dup hx hb dX5_loseInSnow_1 rfl ?_
  refine r_geti (ci := 4) (C := RX5) (T := TX5) (N := 16) hx hb hts iX5 hown hW rfl h 1 rfl (p_lt hG hh (i := 0) (by decide)) (p_kd hG hh) (by decide) q0 (fun _ h9 => h9) (nI w) h1 rfl rfl dX5_loseInSnow_2 ?_
  refine lv_aload_n hx hb dX5_loseInSnow_5 rfl (lv_at hl 0 rfl) ?_
  refine r_geti (ci := 4) (C := RX5) (T := TX5) (N := 16) hx hb hts iX5 hown hW rfl h 1 rfl (p_lt hG hh (i := 0) (by decide)) (p_kd hG hh) (by decide) q0 (fun _ h9 => h9) (nI w) h1 rfl rfl dX5_loseInSnow_6 ?_
  refine lv_iload_n hx hb dX5_loseInSnow_9 rfl (lv_at hl 1 rfl) ?_
  refine va_mmin hx hb (hml.trans hl.1.symm) hown q1 q2 q3 q4 (Nat.le_of_ble_eq_true rfl) (Nat.le_of_ble_eq_true rfl) (Nat.zero_le _) (Nat.zero_le _) dX5_loseInSnow_10 ?_
  rw [show ((if (nI x) < (nI w) then (nI x) else (nI w)) : Int32) = (nI (min w x)) from n_min (a := w) (b := x) (by omega) (by omega)]
  refine lv_isub hx hb dX5_loseInSnow_13 ?_
  refine r_puti (ci := 4) (C := RX5) (T := TX5) (N := 16) hx hb hts iX5 tyX5 tyX5_ok nmX5 hown hW rfl h 1 rfl (p_lt hG hh (i := 0) (by decide)) (p_kd hG hh) (by decide) q0 (fun _ h9 => h9) rfl (tyX5_ok 1 (by decide)) rfl rfl (ri S h (va_up (gi S h) 1 ((nI w) - (nI (min w x))))) (gi S h) (va_up (gi S h) 1 ((nI w) - (nI (min w x)))) rfl (e_is _ _ _) rfl rfl rfl (Nat.le_of_ble_eq_true rfl) rfl c_i0 dX5_loseInSnow_14 (fun H locs hW => ?_)
  refine lv_aload_n hx hb dX5_loseInSnow_17 rfl (lv_at hl 0 rfl) ?_
  refine lv_dup hx hb dX5_loseInSnow_18 rfl ?_
  refine r_geti (ci := 4) (C := RX5) (T := TX5) (N := 16) hx hb hts iX5 hown hW rfl h 7 rfl (p_lt hG hh (i := 0) (by decide)) (p_kd hG hh) (by decide) q5 (fun _ h9 => h9) (nI g) ((congrFun (e_is _ _ _) 7).trans h7) rfl rfl dX5_loseInSnow_19 ?_
  refine lv_iconst (v := 1) hx hb dX5_loseInSnow_22 (by decide) ?_
  refine lv_iadd hx hb dX5_loseInSnow_23 ?_
  refine r_puti (ci := 4) (C := RX5) (T := TX5) (N := 16) hx hb hts iX5 tyX5 tyX5_ok nmX5 hown hW rfl h 7 rfl (p_lt hG hh (i := 0) (by decide)) (p_kd hG hh) (by decide) q5 (fun _ h9 => h9) rfl (tyX5_ok 7 (by decide)) rfl rfl (ri S h (va_up (va_up (gi S h) 1 ((nI w) - (nI (min w x)))) 7 ((nI g) + 1))) (va_up (gi S h) 1 ((nI w) - (nI (min w x)))) (va_up (va_up (gi S h) 1 ((nI w) - (nI (min w x)))) 7 ((nI g) + 1)) (e_is _ _ _) (e_is _ _ _) rfl rfl rfl (Nat.le_of_ble_eq_true rfl) rfl c_i dX5_loseInSnow_24 (fun H locs hW => ?_)
  refine r_vret hx hb hr hlocks hW ?_ dX5_loseInSnow_27
  rw [n_sub (Nat.min_le_left _ _), n_1, n_add, show w - min w x = w - x by omega]

def rmX5_leftBy : Jvm.Room := { frames := 1, cells := 0, slots := 0, locals := 21 }
set_option maxHeartbeats 4000000 in
set_option maxRecDepth 100000 in
theorem t_X5_leftBy (l : Launch) (D : Dc) (G : Gg) (S : Sg) (z : Nat) (hG : GrG G) (hP : GrP G S) (h : Nat) (hh : PassR h) (m v o b : Nat) (hm : m ≤ 9) (hv9 : v ≤ 999) (hb9 : b ≤ 9) (h2 : gi S h 2 = nI b) : MI l yX5_leftBy wsX5_leftBy rmX5_leftBy D G S z [.ref (gA G h), .int (nI m), .int (nI v), .int (nI o)] (fun r S' => S' = S ∧ r = nI o - nI (v - m * b)) := by
  refine Met.ofW (cc := cX5_leftBy) (maxL := 5) (ret := (some .int)) (by decide +kernel) rfl ?_
  intro pP eE s mM args bl mT cD s₁ bD hml hv
  obtain ⟨rfl, hv⟩ := hv
  have hz := hv.1
  subst hz
  have hx := bD.exec
  have hb := bD.bytes
  have hr := bD.returns
  have hts := atoms_spec (ws := wsX5_leftBy) bD.pre
  have hown : s.vm.findClass RX5 = some mM.cls := findClass_of_methodNamed bD.named
  have hlocks := bD.notSynchronized
  have hW := Wd.start hv
  have hA : ∀ q, s.heap.size ≤ q → AW G s.heap.size q := fun q h => Or.inr h
  have hl := lv_entry ([.ref (gA G h), .int (nI m), .int (nI v), .int (nI o)]) (n := 5) (Nat.le_of_ble_eq_true rfl)
  rw [lg_entry_eq]
  generalize (lg_sl ([.ref (gA G h), .int (nI m), .int (nI v), .int (nI o)]) ++ List.replicate (5 - (lg_sl ([.ref (gA G h), .int (nI m), .int (nI v), .int (nI o)])).length) Slot.unset).toArray = ls at hl ⊢
  have hl : lv_has ls 5 [(0, .ref (gA G h)), (1, .int (nI m)), (2, .int (nI v)), (3, .int (nI o))] := hl
  have q0 := hts (.fieldLink RX5 44 "WoodForTwo$Pass" "burn" "I") (List.mem_of_getElem? (i := 1) rfl)
  have q1 := hts (.methodLink RX5 84 Lib.Math.min.name) (List.mem_of_getElem? (i := 2) rfl)
  have q2 := hts (.static Lib.Math.min.name) (List.mem_of_getElem? (i := 3) rfl)
  have q3 := hts (.initialized "java/lang/Math") (List.mem_of_getElem? (i := 4) rfl)
  have q4 := hts (.code Lib.Math.min.name Lib.Math.min.code 2 (some .int)) (List.mem_of_getElem? (i := 5) rfl)
  have iX5 : ∀ w ∈ wsX50, w ∈ wsX5_leftBy := fun _ h => List.mem_cons_of_mem _ (List.mem_append_right _ (h))
  refine lv_iload_n hx hb dX5_leftBy_0 rfl (lv_at hl 2 rfl) ?_
  refine lv_iload_n hx hb dX5_leftBy_1 rfl (lv_at hl 2 rfl) ?_
  refine lv_iload_n hx hb dX5_leftBy_2 rfl (lv_at hl 1 rfl) ?_
  refine lv_aload_n hx hb dX5_leftBy_3 rfl (lv_at hl 0 rfl) ?_
  refine r_geti (ci := 4) (C := RX5) (T := TX5) (N := 16) hx hb hts iX5 hown hW rfl h 2 rfl (p_lt hG hh (i := 0) (by decide)) (p_kd hG hh) (by decide) q0 (fun _ h9 => h9) (nI b) h2 rfl rfl dX5_leftBy_4 ?_
  refine lv_imul hx hb dX5_leftBy_7 ?_
  have hmb : m * b ≤ 9 * 9 := Nat.mul_le_mul hm hb9
  rw [n_mul]
  refine va_mmin hx hb (hml.trans hl.1.symm) hown q1 q2 q3 q4 (Nat.le_of_ble_eq_true rfl) (Nat.le_of_ble_eq_true rfl) (Nat.zero_le _) (Nat.zero_le _) dX5_leftBy_8 ?_
  rw [show ((if (nI (m * b)) < (nI v) then (nI (m * b)) else (nI v)) : Int32) = (nI (min v (m * b))) from n_min (a := v) (b := (m * b)) (by omega) (by omega)]
  refine lv_isub hx hb dX5_leftBy_11 ?_
  refine lv_istore (lv' := [(4, .int ((nI v) - (nI (min v (m * b))))), (0, .ref (gA G h)), (1, .int (nI m)), (2, .int (nI v)), (3, .int (nI o))]) hx hb dX5_leftBy_12 hl (by decide) rfl (fun ls hl => ?_)
  refine lv_iload_n hx hb dX5_leftBy_14 rfl (lv_at hl 4 rfl) ?_
  refine lv_iload hx hb dX5_leftBy_15 (lv_at hl 0 rfl) ?_
  refine lv_isub hx hb dX5_leftBy_17 ?_
  refine r_iret hx hb hr hlocks hW ?_ dX5_leftBy_18
  refine ⟨rfl, ?_⟩
  rw [n_sub (Nat.min_le_left _ _), show v - min v (m * b) = v - m * b by omega]

def rmX2_leaves : Jvm.Room := { frames := 0, cells := 0, slots := 0, locals := 0 }
set_option maxHeartbeats 4000000 in
set_option maxRecDepth 100000 in
theorem t_X2_leaves (l : Launch) (D : Dc) (G : Gg) (S : Sg) (z : Nat) (q : Nat) (a1 a2 a3 : Int32) : MI l yX2_leaves wsX2_leaves rmX2_leaves D G S z [.ref (gA G q), .int a1, .int a2, .int a3] (fun r S' => S' = S ∧ r = a1) := by
  refine Met.ofW (cc := cX2_leaves) (maxL := 4) (ret := (some .int)) (by decide +kernel) rfl ?_
  intro pP eE s mM args bl mT cD s₁ bD hml hv
  obtain ⟨rfl, hv⟩ := hv
  have hz := hv.1
  subst hz
  have hx := bD.exec
  have hb := bD.bytes
  have hr := bD.returns
  have hts := atoms_spec (ws := wsX2_leaves) bD.pre
  have hown : s.vm.findClass RX2 = some mM.cls := findClass_of_methodNamed bD.named
  have hlocks := bD.notSynchronized
  have hW := Wd.start hv
  have hA : ∀ q, s.heap.size ≤ q → AW G s.heap.size q := fun q h => Or.inr h
  have hl := lv_entry ([.ref (gA G q), .int a1, .int a2, .int a3]) (n := 4) (Nat.le_of_ble_eq_true rfl)
  rw [lg_entry_eq]
  generalize (lg_sl ([.ref (gA G q), .int a1, .int a2, .int a3]) ++ List.replicate (4 - (lg_sl ([.ref (gA G q), .int a1, .int a2, .int a3])).length) Slot.unset).toArray = ls at hl ⊢
  have hl : lv_has ls 4 [(0, .ref (gA G q)), (1, .int a1), (2, .int a2), (3, .int a3)] := hl
  refine lv_iload_n hx hb dX2_leaves_0 rfl (lv_at hl 1 rfl) ?_
  refine r_iret hx hb hr hlocks hW ?_ dX2_leaves_1
  exact ⟨rfl, rfl⟩

def rmX7_leaves : Jvm.Room := { frames := 0, cells := 0, slots := 0, locals := 0 }
set_option maxHeartbeats 4000000 in
set_option maxRecDepth 100000 in
theorem t_X7_leaves (l : Launch) (D : Dc) (G : Gg) (S : Sg) (z : Nat) (q : Nat) (a1 a2 a3 : Int32) : MI l yX7_leaves wsX7_leaves rmX7_leaves D G S z [.ref (gA G q), .int a1, .int a2, .int a3] (fun r S' => S' = S ∧ r = 0) := by
  refine Met.ofW (cc := cX7_leaves) (maxL := 4) (ret := (some .int)) (by decide +kernel) rfl ?_
  intro pP eE s mM args bl mT cD s₁ bD hml hv
  obtain ⟨rfl, hv⟩ := hv
  have hz := hv.1
  subst hz
  have hx := bD.exec
  have hb := bD.bytes
  have hr := bD.returns
  have hts := atoms_spec (ws := wsX7_leaves) bD.pre
  have hown : s.vm.findClass RX7 = some mM.cls := findClass_of_methodNamed bD.named
  have hlocks := bD.notSynchronized
  have hW := Wd.start hv
  have hA : ∀ q, s.heap.size ≤ q → AW G s.heap.size q := fun q h => Or.inr h
  have hl := lv_entry ([.ref (gA G q), .int a1, .int a2, .int a3]) (n := 4) (Nat.le_of_ble_eq_true rfl)
  rw [lg_entry_eq]
  generalize (lg_sl ([.ref (gA G q), .int a1, .int a2, .int a3]) ++ List.replicate (4 - (lg_sl ([.ref (gA G q), .int a1, .int a2, .int a3])).length) Slot.unset).toArray = ls at hl ⊢
  have hl : lv_has ls 4 [(0, .ref (gA G q)), (1, .int a1), (2, .int a2), (3, .int a3)] := hl
  refine lv_iconst (v := 0) hx hb dX7_leaves_0 (by decide) ?_
  refine r_iret hx hb hr hlocks hW ?_ dX7_leaves_1
  exact ⟨rfl, rfl⟩

def rmX1_leaves : Jvm.Room := { frames := 0, cells := 0, slots := 0, locals := 0 }
set_option maxHeartbeats 4000000 in
set_option maxRecDepth 100000 in
theorem t_X1_leaves (l : Launch) (D : Dc) (G : Gg) (S : Sg) (z : Nat) (q : Nat) (a1 a2 a3 : Int32) : MI l yX1_leaves wsX1_leaves rmX1_leaves D G S z [.ref (gA G q), .int a1, .int a2, .int a3] (fun r S' => S' = S ∧ r = a1 / 2) := by
  refine Met.ofW (cc := cX1_leaves) (maxL := 4) (ret := (some .int)) (by decide +kernel) rfl ?_
  intro pP eE s mM args bl mT cD s₁ bD hml hv
  obtain ⟨rfl, hv⟩ := hv
  have hz := hv.1
  subst hz
  have hx := bD.exec
  have hb := bD.bytes
  have hr := bD.returns
  have hts := atoms_spec (ws := wsX1_leaves) bD.pre
  have hown : s.vm.findClass RX1 = some mM.cls := findClass_of_methodNamed bD.named
  have hlocks := bD.notSynchronized
  have hW := Wd.start hv
  have hA : ∀ q, s.heap.size ≤ q → AW G s.heap.size q := fun q h => Or.inr h
  have hl := lv_entry ([.ref (gA G q), .int a1, .int a2, .int a3]) (n := 4) (Nat.le_of_ble_eq_true rfl)
  rw [lg_entry_eq]
  generalize (lg_sl ([.ref (gA G q), .int a1, .int a2, .int a3]) ++ List.replicate (4 - (lg_sl ([.ref (gA G q), .int a1, .int a2, .int a3])).length) Slot.unset).toArray = ls at hl ⊢
  have hl : lv_has ls 4 [(0, .ref (gA G q)), (1, .int a1), (2, .int a2), (3, .int a3)] := hl
  refine lv_iload_n hx hb dX1_leaves_0 rfl (lv_at hl 1 rfl) ?_
  refine lv_iconst (v := 2) hx hb dX1_leaves_1 (by decide) ?_
  refine lv_idiv hx hb dX1_leaves_2 (by decide) ?_
  refine r_iret hx hb hr hlocks hW ?_ dX1_leaves_3
  exact ⟨rfl, rfl⟩

def rmX9_leaves : Jvm.Room := { frames := 0, cells := 0, slots := 0, locals := 0 }
set_option maxHeartbeats 4000000 in
set_option maxRecDepth 100000 in
theorem t_X9_leaves (l : Launch) (D : Dc) (G : Gg) (S : Sg) (z : Nat) (q : Nat) (hq : q < gN G) (hk : gK G q = 8) (t d w b : Nat) (ht : t ≤ 99) (hd : d ≤ 729) (hw : w ≤ 999) (hb9 : b ≤ 9) (h2 : gi S q 2 = nI t) : MI l yX9_leaves wsX9_leaves rmX9_leaves D G S z [.ref (gA G q), .int (nI d), .int (nI w), .int (nI b)] (fun r S' => S' = S ∧ r = nI (lvN 3 t d w b)) := by
  refine Met.ofW (cc := cX9_leaves) (maxL := 5) (ret := (some .int)) (by decide +kernel) rfl ?_
  intro pP eE s mM args bl mT cD s₁ bD hml hv
  obtain ⟨rfl, hv⟩ := hv
  have hz := hv.1
  subst hz
  have hx := bD.exec
  have hb := bD.bytes
  have hr := bD.returns
  have hts := atoms_spec (ws := wsX9_leaves) bD.pre
  have hown : s.vm.findClass RX9 = some mM.cls := findClass_of_methodNamed bD.named
  have hlocks := bD.notSynchronized
  have hW := Wd.start hv
  have hA : ∀ q, s.heap.size ≤ q → AW G s.heap.size q := fun q h => Or.inr h
  have hl := lv_entry ([.ref (gA G q), .int (nI d), .int (nI w), .int (nI b)]) (n := 5) (Nat.le_of_ble_eq_true rfl)
  rw [lg_entry_eq]
  generalize (lg_sl ([.ref (gA G q), .int (nI d), .int (nI w), .int (nI b)]) ++ List.replicate (5 - (lg_sl ([.ref (gA G q), .int (nI d), .int (nI w), .int (nI b)])).length) Slot.unset).toArray = ls at hl ⊢
  have hl : lv_has ls 5 [(0, .ref (gA G q)), (1, .int (nI d)), (2, .int (nI w)), (3, .int (nI b))] := hl
  have q0 := hts (.fieldLink RX9 7 "WoodForTwo$Weigher" "toil" "I") (List.mem_of_getElem? (i := 1) rfl)
  have q1 := hts (.sameField "WoodForTwo$Weigher" "WoodForTwo$Party" "toil" "I") (List.mem_of_getElem? (i := 2) rfl)
  have iX9 : ∀ w ∈ wsX90, w ∈ wsX9_leaves := fun _ h => List.mem_cons_of_mem _ (List.mem_append_right _ (h))
  refine lv_iload_n hx hb dX9_leaves_0 rfl (lv_at hl 2 rfl) ?_
  refine lv_iconst (v := 2) hx hb dX9_leaves_1 (by decide) ?_
  refine lv_iload_n hx hb dX9_leaves_2 rfl (lv_at hl 3 rfl) ?_
  refine lv_imul hx hb dX9_leaves_3 ?_
  rw [show (2 : Int32) * nI b = nI (2 * b) from n_mul 2 b]
  refine lv_icmp_ge (tgt := 13) hx hb dX9_leaves_4 (by decide) (fun c4 => ?_) (fun c4 => ?_)
  · skip
    have h4 : ¬ w < 2 * b := by
      have h9 := (n_le (a := 2 * b) (b := w) (by omega) (by omega)).mp c4
      omega
    refine lv_bipush (v := 100) hx hb dX9_leaves_13 (by decide) ?_
    refine lv_istore (lv' := [(4, .int 100), (0, .ref (gA G q)), (1, .int (nI d)), (2, .int (nI w)), (3, .int (nI b))]) hx hb dX9_leaves_15 hl (by decide) rfl (fun ls hl => ?_)
    refine lv_aload_n hx hb dX9_leaves_17 rfl (lv_at hl 1 rfl) ?_
    refine r_geti (ci := 8) (C := RX9) (T := TX9) (N := 3) hx hb hts iX9 hown hW rfl q 2 rfl hq hk (by decide) q0 (fun x9 h9 => u_same q1 x9 h9) (nI t) h2 rfl rfl dX9_leaves_18 ?_
    refine lv_iload_n hx hb dX9_leaves_21 rfl (lv_at hl 2 rfl) ?_
    refine lv_imul hx hb dX9_leaves_22 ?_
    refine lv_iload hx hb dX9_leaves_23 (lv_at hl 0 rfl) ?_
    have htd : t * d ≤ 99 * 729 := Nat.mul_le_mul ht hd
    rw [n_mul]
    refine lv_icmp_gt (tgt := 32) hx hb dX9_leaves_25 (by decide) (fun c25 => ?_) (fun c25 => ?_)
    · skip
      have h25 : ¬ t * d ≤ 100 := fun z => absurd ((n_lt (a := 100) (b := t * d) (by omega) (by omega)).mp c25) (by omega)
      refine lv_iconst (v := 0) hx hb dX9_leaves_32 (by decide) ?_
      refine r_iret hx hb hr hlocks hW ?_ dX9_leaves_33
      refine ⟨rfl, ?_⟩
      unfold lvN
      first
        | (rw [if_neg (by decide), if_neg (by decide), if_pos (by omega)])
        | (rw [if_neg (by decide), if_neg (by decide), if_neg (by omega)]; rfl)
    · skip
      have h25 : t * d ≤ 100 := by
        have h9 : ¬ 100 < t * d := fun z => c25 ((n_lt (a := 100) (b := t * d) (by omega) (by omega)).mpr z)
        omega
      refine lv_iload_n hx hb dX9_leaves_28 rfl (lv_at hl 2 rfl) ?_
      refine lv_goto (tgt := 33) hx hb dX9_leaves_29 (by decide) ?_
      refine r_iret hx hb hr hlocks hW ?_ dX9_leaves_33
      refine ⟨rfl, ?_⟩
      unfold lvN
      first
        | (rw [if_neg (by decide), if_neg (by decide), if_pos (by omega)])
        | (rw [if_neg (by decide), if_neg (by decide), if_neg (by omega)]; rfl)
  · skip
    have h4 : w < 2 * b := by
      have h9 : ¬ 2 * b ≤ w := fun z => c4 ((n_le (a := 2 * b) (b := w) (by omega) (by omega)).mpr z)
      omega
    refine lv_sipush (v := 1000) hx hb dX9_leaves_7 (by decide) ?_
    refine lv_goto (tgt := 15) hx hb dX9_leaves_10 (by decide) ?_
    refine lv_istore (lv' := [(4, .int 1000), (0, .ref (gA G q)), (1, .int (nI d)), (2, .int (nI w)), (3, .int (nI b))]) hx hb dX9_leaves_15 hl (by decide) rfl (fun ls hl => ?_)
    refine lv_aload_n hx hb dX9_leaves_17 rfl (lv_at hl 1 rfl) ?_
    refine r_geti (ci := 8) (C := RX9) (T := TX9) (N := 3) hx hb hts iX9 hown hW rfl q 2 rfl hq hk (by decide) q0 (fun x9 h9 => u_same q1 x9 h9) (nI t) h2 rfl rfl dX9_leaves_18 ?_
    refine lv_iload_n hx hb dX9_leaves_21 rfl (lv_at hl 2 rfl) ?_
    refine lv_imul hx hb dX9_leaves_22 ?_
    refine lv_iload hx hb dX9_leaves_23 (lv_at hl 0 rfl) ?_
    have htd : t * d ≤ 99 * 729 := Nat.mul_le_mul ht hd
    rw [n_mul]
    refine lv_icmp_gt (tgt := 32) hx hb dX9_leaves_25 (by decide) (fun c25 => ?_) (fun c25 => ?_)
    · skip
      have h25 : ¬ t * d ≤ 1000 := fun z => absurd ((n_lt (a := 1000) (b := t * d) (by omega) (by omega)).mp c25) (by omega)
      refine lv_iconst (v := 0) hx hb dX9_leaves_32 (by decide) ?_
      refine r_iret hx hb hr hlocks hW ?_ dX9_leaves_33
      refine ⟨rfl, ?_⟩
      unfold lvN
      first
        | (rw [if_neg (by decide), if_neg (by decide), if_pos (by omega)])
        | (rw [if_neg (by decide), if_neg (by decide), if_neg (by omega)]; rfl)
    · skip
      have h25 : t * d ≤ 1000 := by
        have h9 : ¬ 1000 < t * d := fun z => c25 ((n_lt (a := 1000) (b := t * d) (by omega) (by omega)).mpr z)
        omega
      refine lv_iload_n hx hb dX9_leaves_28 rfl (lv_at hl 2 rfl) ?_
      refine lv_goto (tgt := 33) hx hb dX9_leaves_29 (by decide) ?_
      refine r_iret hx hb hr hlocks hW ?_ dX9_leaves_33
      refine ⟨rfl, ?_⟩
      unfold lvN
      first
        | (rw [if_neg (by decide), if_neg (by decide), if_pos (by omega)])
        | (rw [if_neg (by decide), if_neg (by decide), if_neg (by omega)]; rfl)

def rmX1_kindTold : Jvm.Room := { frames := 0, cells := 0, slots := 0, locals := 0 }
set_option maxHeartbeats 4000000 in
set_option maxRecDepth 100000 in
theorem t_X1_kindTold (l : Launch) (D : Dc) (G : Gg) (S : Sg) (z : Nat) (q : Nat) : MI l yX1_kindTold wsX1_kindTold rmX1_kindTold D G S z [.ref (gA G q)] (fun r S' => S' = S ∧ r = 2) := by
  refine Met.ofW (cc := cX1_kindTold) (maxL := 1) (ret := (some .int)) (by decide +kernel) rfl ?_
  intro pP eE s mM args bl mT cD s₁ bD hml hv
  obtain ⟨rfl, hv⟩ := hv
  have hz := hv.1
  subst hz
  have hx := bD.exec
  have hb := bD.bytes
  have hr := bD.returns
  have hts := atoms_spec (ws := wsX1_kindTold) bD.pre
  have hown : s.vm.findClass RX1 = some mM.cls := findClass_of_methodNamed bD.named
  have hlocks := bD.notSynchronized
  have hW := Wd.start hv
  have hA : ∀ q, s.heap.size ≤ q → AW G s.heap.size q := fun q h => Or.inr h
  have hl := lv_entry ([.ref (gA G q)]) (n := 1) (Nat.le_of_ble_eq_true rfl)
  rw [lg_entry_eq]
  generalize (lg_sl ([.ref (gA G q)]) ++ List.replicate (1 - (lg_sl ([.ref (gA G q)])).length) Slot.unset).toArray = ls at hl ⊢
  have hl : lv_has ls 1 [(0, .ref (gA G q))] := hl
  refine lv_iconst (v := 2) hx hb dX1_kindTold_0 (by decide) ?_
  refine r_iret hx hb hr hlocks hW ?_ dX1_kindTold_1
  exact ⟨rfl, rfl⟩

def rmX2_kindTold : Jvm.Room := { frames := 0, cells := 0, slots := 0, locals := 0 }
set_option maxHeartbeats 4000000 in
set_option maxRecDepth 100000 in
theorem t_X2_kindTold (l : Launch) (D : Dc) (G : Gg) (S : Sg) (z : Nat) (q : Nat) : MI l yX2_kindTold wsX2_kindTold rmX2_kindTold D G S z [.ref (gA G q)] (fun r S' => S' = S ∧ r = 1) := by
  refine Met.ofW (cc := cX2_kindTold) (maxL := 1) (ret := (some .int)) (by decide +kernel) rfl ?_
  intro pP eE s mM args bl mT cD s₁ bD hml hv
  obtain ⟨rfl, hv⟩ := hv
  have hz := hv.1
  subst hz
  have hx := bD.exec
  have hb := bD.bytes
  have hr := bD.returns
  have hts := atoms_spec (ws := wsX2_kindTold) bD.pre
  have hown : s.vm.findClass RX2 = some mM.cls := findClass_of_methodNamed bD.named
  have hlocks := bD.notSynchronized
  have hW := Wd.start hv
  have hA : ∀ q, s.heap.size ≤ q → AW G s.heap.size q := fun q h => Or.inr h
  have hl := lv_entry ([.ref (gA G q)]) (n := 1) (Nat.le_of_ble_eq_true rfl)
  rw [lg_entry_eq]
  generalize (lg_sl ([.ref (gA G q)]) ++ List.replicate (1 - (lg_sl ([.ref (gA G q)])).length) Slot.unset).toArray = ls at hl ⊢
  have hl : lv_has ls 1 [(0, .ref (gA G q))] := hl
  refine lv_iconst (v := 1) hx hb dX2_kindTold_0 (by decide) ?_
  refine r_iret hx hb hr hlocks hW ?_ dX2_kindTold_1
  exact ⟨rfl, rfl⟩

def rmX3_kindTold : Jvm.Room := { frames := 0, cells := 0, slots := 0, locals := 0 }
set_option maxHeartbeats 4000000 in
set_option maxRecDepth 100000 in
theorem t_X3_kindTold (l : Launch) (D : Dc) (G : Gg) (S : Sg) (z : Nat) (q : Nat) : MI l yX3_kindTold wsX3_kindTold rmX3_kindTold D G S z [.ref (gA G q)] (fun r S' => S' = S ∧ r = 5) := by
  refine Met.ofW (cc := cX3_kindTold) (maxL := 1) (ret := (some .int)) (by decide +kernel) rfl ?_
  intro pP eE s mM args bl mT cD s₁ bD hml hv
  obtain ⟨rfl, hv⟩ := hv
  have hz := hv.1
  subst hz
  have hx := bD.exec
  have hb := bD.bytes
  have hr := bD.returns
  have hts := atoms_spec (ws := wsX3_kindTold) bD.pre
  have hown : s.vm.findClass RX3 = some mM.cls := findClass_of_methodNamed bD.named
  have hlocks := bD.notSynchronized
  have hW := Wd.start hv
  have hA : ∀ q, s.heap.size ≤ q → AW G s.heap.size q := fun q h => Or.inr h
  have hl := lv_entry ([.ref (gA G q)]) (n := 1) (Nat.le_of_ble_eq_true rfl)
  rw [lg_entry_eq]
  generalize (lg_sl ([.ref (gA G q)]) ++ List.replicate (1 - (lg_sl ([.ref (gA G q)])).length) Slot.unset).toArray = ls at hl ⊢
  have hl : lv_has ls 1 [(0, .ref (gA G q))] := hl
  refine lv_iconst (v := 5) hx hb dX3_kindTold_0 (by decide) ?_
  refine r_iret hx hb hr hlocks hW ?_ dX3_kindTold_1
  exact ⟨rfl, rfl⟩

def rmX7_kindTold : Jvm.Room := { frames := 0, cells := 0, slots := 0, locals := 0 }
set_option maxHeartbeats 4000000 in
set_option maxRecDepth 100000 in
theorem t_X7_kindTold (l : Launch) (D : Dc) (G : Gg) (S : Sg) (z : Nat) (q : Nat) : MI l yX7_kindTold wsX7_kindTold rmX7_kindTold D G S z [.ref (gA G q)] (fun r S' => S' = S ∧ r = 3) := by
  refine Met.ofW (cc := cX7_kindTold) (maxL := 1) (ret := (some .int)) (by decide +kernel) rfl ?_
  intro pP eE s mM args bl mT cD s₁ bD hml hv
  obtain ⟨rfl, hv⟩ := hv
  have hz := hv.1
  subst hz
  have hx := bD.exec
  have hb := bD.bytes
  have hr := bD.returns
  have hts := atoms_spec (ws := wsX7_kindTold) bD.pre
  have hown : s.vm.findClass RX7 = some mM.cls := findClass_of_methodNamed bD.named
  have hlocks := bD.notSynchronized
  have hW := Wd.start hv
  have hA : ∀ q, s.heap.size ≤ q → AW G s.heap.size q := fun q h => Or.inr h
  have hl := lv_entry ([.ref (gA G q)]) (n := 1) (Nat.le_of_ble_eq_true rfl)
  rw [lg_entry_eq]
  generalize (lg_sl ([.ref (gA G q)]) ++ List.replicate (1 - (lg_sl ([.ref (gA G q)])).length) Slot.unset).toArray = ls at hl ⊢
  have hl : lv_has ls 1 [(0, .ref (gA G q))] := hl
  refine lv_iconst (v := 3) hx hb dX7_kindTold_0 (by decide) ?_
  refine r_iret hx hb hr hlocks hW ?_ dX7_kindTold_1
  exact ⟨rfl, rfl⟩

def rmX9_kindTold : Jvm.Room := { frames := 0, cells := 0, slots := 0, locals := 0 }
set_option maxHeartbeats 4000000 in
set_option maxRecDepth 100000 in
theorem t_X9_kindTold (l : Launch) (D : Dc) (G : Gg) (S : Sg) (z : Nat) (q : Nat) : MI l yX9_kindTold wsX9_kindTold rmX9_kindTold D G S z [.ref (gA G q)] (fun r S' => S' = S ∧ r = 4) := by
  refine Met.ofW (cc := cX9_kindTold) (maxL := 1) (ret := (some .int)) (by decide +kernel) rfl ?_
  intro pP eE s mM args bl mT cD s₁ bD hml hv
  obtain ⟨rfl, hv⟩ := hv
  have hz := hv.1
  subst hz
  have hx := bD.exec
  have hb := bD.bytes
  have hr := bD.returns
  have hts := atoms_spec (ws := wsX9_kindTold) bD.pre
  have hown : s.vm.findClass RX9 = some mM.cls := findClass_of_methodNamed bD.named
  have hlocks := bD.notSynchronized
  have hW := Wd.start hv
  have hA : ∀ q, s.heap.size ≤ q → AW G s.heap.size q := fun q h => Or.inr h
  have hl := lv_entry ([.ref (gA G q)]) (n := 1) (Nat.le_of_ble_eq_true rfl)
  rw [lg_entry_eq]
  generalize (lg_sl ([.ref (gA G q)]) ++ List.replicate (1 - (lg_sl ([.ref (gA G q)])).length) Slot.unset).toArray = ls at hl ⊢
  have hl : lv_has ls 1 [(0, .ref (gA G q))] := hl
  refine lv_iconst (v := 4) hx hb dX9_kindTold_0 (by decide) ?_
  refine r_iret hx hb hr hlocks hW ?_ dX9_kindTold_1
  exact ⟨rfl, rfl⟩
